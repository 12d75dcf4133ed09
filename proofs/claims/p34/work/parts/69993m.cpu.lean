section ZJN0
/-! SOUNDS OVER CALLS -/
section ZSV
variable {σ μ s t : zSt} {B : Int × Int × Int} {K N : Int} {J : { J : Int → zSt → zSt → Prop // zJw J }}
noncomputable def zJo (J : { J : Int → zSt → zSt → Prop // zJw J }) : { J : Int → zSt → zSt → Prop // zJok J } := ⟨J.1, J.2.1⟩
/-- both machines, what was kept, and sounds -/
noncomputable def zAlj (J : { J : Int → zSt → zSt → Prop // zJw J }) (K : Int) (σ μ : zSt) : Prop := zAll K σ μ ∧ J.1 (64 * K) σ μ ∧ (¬ σ.1 0 11 = 0 → J.1 (64 * K) (zKsn σ) (zKtn μ))
theorem zAlj.go (h : zAlj J K σ μ) {K' : Int} (hK : K ≤ K') (x : zAll K' s t) (y : J.1 (64 * K') s t) (f : ¬ s.1 0 11 = 0 → ¬ σ.1 0 11 = 0 ∧ zSc (zKsn σ) (zKsn s) ∧ zSrm (zKtn μ) (zKtn t)) : zAlj J K' s t := by
  refine ⟨x, y, fun q => ?_⟩
  obtain ⟨f1, f2, f3⟩ := f q
  exact J.2.2.1 _ _ _ _ _ (J.2.1.2.2.1 _ _ _ _ (by omega) (h.2.2 f1)) f2 f3
theorem bj_reset (hj : J.1 N s t) : zp2 (fX11_reset s ) (fX12_reset t ) (fun r r' => J.1 N r r') := by
  unfold fX11_reset fX12_reset
  refine zp2_bvr (fun t1 e1 => ?_)
  have h1 : J.1 N s t1 := by rw [e1]; exact J.2.1.th hj
  exact zp2_buu (P := fun r r' => zCw s r ∧ zAw t1 r') (zp2_of c_clr m_anewx (fun _ _ p q => ⟨p, q⟩)) (fun r r' q => zp2_some (J.2.2.2.1 _ _ _ _ _ h1 q.1.x q.2.x))
/-! kept by the class -/
theorem zWf_ne {k p q k' : Nat} (h : ¬ k' = k) : (zWf s k p q).1 k' = s.1 k' := zsi_ne h
theorem zWf_ej {k p q : Nat} : (zWf s k p q).1 k p = s.1 k q := zsi_ej
theorem zWf_nj {k p q j : Nat} (h : ¬ j = p) : (zWf s k p q).1 k j = s.1 k j := zsi_nj h
theorem zWf_2 {k p q : Nat} : (zWf s k p q).2 = s.2 := rfl
theorem zcpl_1 {a b c d e : Nat} : (zcpl s a b c d e).1 = s.1 := rfl
theorem zcpi_2 {a b c d e : Nat} : (zcpi s a b c d e).2 = s.2 := rfl
theorem zKept_11_2 : (zKept σ).1 11 2 = σ.1 11 2 := by
  unfold zKept
  rw [zcpi_ne (by decide), zcpi_ne (by decide), zWf_ne (by decide), zWf_ne (by decide), zcpl_1, zWf_nj (by decide), zWf_nj (by decide), zcpl_1, zcpl_1, zcpi_ne (by decide), zcpi_ne (by decide), zcpi_ne (by decide), zcpi_ne (by decide), zcpi_ne (by decide), zcpi_ne (by decide), zcpi_ne (by decide), zcpi_ne (by decide), zcpi_ne (by decide), zcpi_ne (by decide)]
theorem zKept_11_3 : (zKept σ).1 11 3 = σ.1 11 3 := by
  unfold zKept
  rw [zcpi_ne (by decide), zcpi_ne (by decide), zWf_ne (by decide), zWf_ne (by decide), zcpl_1, zWf_nj (by decide), zWf_nj (by decide), zcpl_1, zcpl_1, zcpi_ne (by decide), zcpi_ne (by decide), zcpi_ne (by decide), zcpi_ne (by decide), zcpi_ne (by decide), zcpi_ne (by decide), zcpi_ne (by decide), zcpi_ne (by decide), zcpi_ne (by decide), zcpi_ne (by decide)]
theorem zKept_11_4 : (zKept σ).1 11 4 = σ.1 11 2 := by
  unfold zKept
  rw [zcpi_ne (by decide), zcpi_ne (by decide), zWf_ne (by decide), zWf_ne (by decide), zcpl_1, zWf_nj (by decide), zWf_ej, zcpl_1, zcpl_1, zcpi_ne (by decide), zcpi_ne (by decide), zcpi_ne (by decide), zcpi_ne (by decide), zcpi_ne (by decide), zcpi_ne (by decide), zcpi_ne (by decide), zcpi_ne (by decide), zcpi_ne (by decide), zcpi_ne (by decide)]
theorem zKept_11_5 : (zKept σ).1 11 5 = σ.1 11 3 := by
  unfold zKept
  rw [zcpi_ne (by decide), zcpi_ne (by decide), zWf_ne (by decide), zWf_ne (by decide), zcpl_1, zWf_ej, zWf_nj (by decide), zcpl_1, zcpl_1, zcpi_ne (by decide), zcpi_ne (by decide), zcpi_ne (by decide), zcpi_ne (by decide), zcpi_ne (by decide), zcpi_ne (by decide), zcpi_ne (by decide), zcpi_ne (by decide), zcpi_ne (by decide), zcpi_ne (by decide)]
theorem zKept_12_2 : (zKept σ).1 12 2 = σ.1 12 2 := by
  unfold zKept
  rw [zcpi_ne (by decide), zcpi_ne (by decide), zWf_nj (by decide), zWf_nj (by decide), zcpl_1, zWf_ne (by decide), zWf_ne (by decide), zcpl_1, zcpl_1, zcpi_ne (by decide), zcpi_ne (by decide), zcpi_ne (by decide), zcpi_ne (by decide), zcpi_ne (by decide), zcpi_ne (by decide), zcpi_ne (by decide), zcpi_ne (by decide), zcpi_ne (by decide), zcpi_ne (by decide)]
theorem zKept_12_3 : (zKept σ).1 12 3 = σ.1 12 3 := by
  unfold zKept
  rw [zcpi_ne (by decide), zcpi_ne (by decide), zWf_nj (by decide), zWf_nj (by decide), zcpl_1, zWf_ne (by decide), zWf_ne (by decide), zcpl_1, zcpl_1, zcpi_ne (by decide), zcpi_ne (by decide), zcpi_ne (by decide), zcpi_ne (by decide), zcpi_ne (by decide), zcpi_ne (by decide), zcpi_ne (by decide), zcpi_ne (by decide), zcpi_ne (by decide), zcpi_ne (by decide)]
theorem zKept_12_4 : (zKept σ).1 12 4 = σ.1 12 2 := by
  unfold zKept
  rw [zcpi_ne (by decide), zcpi_ne (by decide), zWf_nj (by decide), zWf_ej, zcpl_1, zWf_ne (by decide), zWf_ne (by decide), zcpl_1, zcpl_1, zcpi_ne (by decide), zcpi_ne (by decide), zcpi_ne (by decide), zcpi_ne (by decide), zcpi_ne (by decide), zcpi_ne (by decide), zcpi_ne (by decide), zcpi_ne (by decide), zcpi_ne (by decide), zcpi_ne (by decide)]
theorem zKept_12_5 : (zKept σ).1 12 5 = σ.1 12 3 := by
  unfold zKept
  rw [zcpi_ne (by decide), zcpi_ne (by decide), zWf_ej, zWf_nj (by decide), zcpl_1, zWf_ne (by decide), zWf_ne (by decide), zcpl_1, zcpl_1, zcpi_ne (by decide), zcpi_ne (by decide), zcpi_ne (by decide), zcpi_ne (by decide), zcpi_ne (by decide), zcpi_ne (by decide), zcpi_ne (by decide), zcpi_ne (by decide), zcpi_ne (by decide), zcpi_ne (by decide)]
theorem zKept_47 {j : Nat} (h : j < 4096) : (zKept σ).2 47 j = σ.2 46 j := by
  unfold zKept
  rw [zcpi_2, zcpi_2, zWf_2, zWf_2, zcpl_ne (by decide), zWf_2, zWf_2, zcpl_eq, if_pos h, zcpl_ne (by decide), zcpi_2, zcpi_2, zcpi_2, zcpi_2, zcpi_2, zcpi_2, zcpi_2, zcpi_2, zcpi_2, zcpi_2]
theorem zKept_49 {j : Nat} (h : j < 4096) : (zKept σ).2 49 j = σ.2 48 j := by
  unfold zKept
  rw [zcpi_2, zcpi_2, zWf_2, zWf_2, zcpl_eq, if_pos h, zWf_2, zWf_2, zcpl_ne (by decide), zcpl_ne (by decide), zcpi_2, zcpi_2, zcpi_2, zcpi_2, zcpi_2, zcpi_2, zcpi_2, zcpi_2, zcpi_2, zcpi_2]
theorem zBack_11_2 : (zBack σ).1 11 2 = σ.1 11 4 := by
  unfold zBack
  rw [zcpi_ne (by decide), zcpi_ne (by decide), zWf_ne (by decide), zWf_ne (by decide), zcpl_1, zWf_nj (by decide), zWf_ej, zcpl_1, zcpl_1, zcpi_ne (by decide), zcpi_ne (by decide), zcpi_ne (by decide), zcpi_ne (by decide), zcpi_ne (by decide), zcpi_ne (by decide), zcpi_ne (by decide), zcpi_ne (by decide), zcpi_ne (by decide), zcpi_ne (by decide)]
theorem zBack_11_3 : (zBack σ).1 11 3 = σ.1 11 5 := by
  unfold zBack
  rw [zcpi_ne (by decide), zcpi_ne (by decide), zWf_ne (by decide), zWf_ne (by decide), zcpl_1, zWf_ej, zWf_nj (by decide), zcpl_1, zcpl_1, zcpi_ne (by decide), zcpi_ne (by decide), zcpi_ne (by decide), zcpi_ne (by decide), zcpi_ne (by decide), zcpi_ne (by decide), zcpi_ne (by decide), zcpi_ne (by decide), zcpi_ne (by decide), zcpi_ne (by decide)]
theorem zBack_11_4 : (zBack σ).1 11 4 = σ.1 11 4 := by
  unfold zBack
  rw [zcpi_ne (by decide), zcpi_ne (by decide), zWf_ne (by decide), zWf_ne (by decide), zcpl_1, zWf_nj (by decide), zWf_nj (by decide), zcpl_1, zcpl_1, zcpi_ne (by decide), zcpi_ne (by decide), zcpi_ne (by decide), zcpi_ne (by decide), zcpi_ne (by decide), zcpi_ne (by decide), zcpi_ne (by decide), zcpi_ne (by decide), zcpi_ne (by decide), zcpi_ne (by decide)]
theorem zBack_11_5 : (zBack σ).1 11 5 = σ.1 11 5 := by
  unfold zBack
  rw [zcpi_ne (by decide), zcpi_ne (by decide), zWf_ne (by decide), zWf_ne (by decide), zcpl_1, zWf_nj (by decide), zWf_nj (by decide), zcpl_1, zcpl_1, zcpi_ne (by decide), zcpi_ne (by decide), zcpi_ne (by decide), zcpi_ne (by decide), zcpi_ne (by decide), zcpi_ne (by decide), zcpi_ne (by decide), zcpi_ne (by decide), zcpi_ne (by decide), zcpi_ne (by decide)]
theorem zBack_12_2 : (zBack σ).1 12 2 = σ.1 12 4 := by
  unfold zBack
  rw [zcpi_ne (by decide), zcpi_ne (by decide), zWf_nj (by decide), zWf_ej, zcpl_1, zWf_ne (by decide), zWf_ne (by decide), zcpl_1, zcpl_1, zcpi_ne (by decide), zcpi_ne (by decide), zcpi_ne (by decide), zcpi_ne (by decide), zcpi_ne (by decide), zcpi_ne (by decide), zcpi_ne (by decide), zcpi_ne (by decide), zcpi_ne (by decide), zcpi_ne (by decide)]
theorem zBack_12_3 : (zBack σ).1 12 3 = σ.1 12 5 := by
  unfold zBack
  rw [zcpi_ne (by decide), zcpi_ne (by decide), zWf_ej, zWf_nj (by decide), zcpl_1, zWf_ne (by decide), zWf_ne (by decide), zcpl_1, zcpl_1, zcpi_ne (by decide), zcpi_ne (by decide), zcpi_ne (by decide), zcpi_ne (by decide), zcpi_ne (by decide), zcpi_ne (by decide), zcpi_ne (by decide), zcpi_ne (by decide), zcpi_ne (by decide), zcpi_ne (by decide)]
theorem zBack_12_4 : (zBack σ).1 12 4 = σ.1 12 4 := by
  unfold zBack
  rw [zcpi_ne (by decide), zcpi_ne (by decide), zWf_nj (by decide), zWf_nj (by decide), zcpl_1, zWf_ne (by decide), zWf_ne (by decide), zcpl_1, zcpl_1, zcpi_ne (by decide), zcpi_ne (by decide), zcpi_ne (by decide), zcpi_ne (by decide), zcpi_ne (by decide), zcpi_ne (by decide), zcpi_ne (by decide), zcpi_ne (by decide), zcpi_ne (by decide), zcpi_ne (by decide)]
theorem zBack_12_5 : (zBack σ).1 12 5 = σ.1 12 5 := by
  unfold zBack
  rw [zcpi_ne (by decide), zcpi_ne (by decide), zWf_nj (by decide), zWf_nj (by decide), zcpl_1, zWf_ne (by decide), zWf_ne (by decide), zcpl_1, zcpl_1, zcpi_ne (by decide), zcpi_ne (by decide), zcpi_ne (by decide), zcpi_ne (by decide), zcpi_ne (by decide), zcpi_ne (by decide), zcpi_ne (by decide), zcpi_ne (by decide), zcpi_ne (by decide), zcpi_ne (by decide)]
theorem zBack_46 {j : Nat} (h : j < 4096) : (zBack σ).2 46 j = σ.2 47 j := by
  unfold zBack
  rw [zcpi_2, zcpi_2, zWf_2, zWf_2, zcpl_ne (by decide), zWf_2, zWf_2, zcpl_eq, if_pos h, zcpl_ne (by decide), zcpi_2, zcpi_2, zcpi_2, zcpi_2, zcpi_2, zcpi_2, zcpi_2, zcpi_2, zcpi_2, zcpi_2]
theorem zBack_48 {j : Nat} (h : j < 4096) : (zBack σ).2 48 j = σ.2 49 j := by
  unfold zBack
  rw [zcpi_2, zcpi_2, zWf_2, zWf_2, zcpl_eq, if_pos h, zWf_2, zWf_2, zcpl_ne (by decide), zcpl_ne (by decide), zcpi_2, zcpi_2, zcpi_2, zcpi_2, zcpi_2, zcpi_2, zcpi_2, zcpi_2, zcpi_2, zcpi_2]
theorem zsi_ne0 {k j : Nat} {v w : Int32} (hk : ¬ k = 0) (h : s.1 k j = w) : (zsi s 0 11 v).1 k j = w := (congrFun (zsi_ne hk) j).trans h
theorem zKsn_30 {j : Nat} : (zKsn s).1 30 j = s.1 31 j := rfl
theorem zKsn_32 {j : Nat} : (zKsn s).1 32 j = s.1 33 j := rfl
theorem zKsn_11 {j : Nat} : (zKsn s).1 11 j = s.1 11 (j + 2) := rfl
theorem zKsn_12 {j : Nat} : (zKsn s).1 12 j = s.1 12 (j + 2) := rfl
theorem zKsn_38 {j : Nat} : (zKsn s).2 38 j = s.2 39 j := rfl
theorem zKsn_46 {j : Nat} : (zKsn s).2 46 j = s.2 47 j := rfl
theorem zKsn_48 {j : Nat} : (zKsn s).2 48 j = s.2 49 j := rfl
theorem zsi_20 {k j : Nat} {v : Int32} : (zsi s k j v).2 = s.2 := rfl
theorem zKept_sc {v : Int32} : zSc σ (zsi (zKept σ) 0 11 v) := by
  obtain ⟨q1, q2⟩ := zKept_q (σ := σ)
  have q : zQ [16, 18, 20, 22, 24, 26, 31, 33, 35, 37, 41, 43, 11, 12] [(0, 11, 11)] [39, 47, 49] [] σ (zsi (zKept σ) 0 11 v) := zQ.wi q1 rfl
  have e0 := q.ro (k := 30) rfl
  have e2 := q.ro (k := 32) rfl
  have e8 := q.rlo (k := 38) rfl
  have e6 := q.rlo (k := 46) rfl
  have e9 := q.rlo (k := 48) rfl
  refine ⟨fun j _ _ => by rw [e0], fun j _ _ => by rw [e0], fun j _ _ => by rw [e2], fun j _ _ => by rw [e2], fun j x y => ?_, fun j x y => ?_, fun j _ _ => by rw [e8], fun j _ _ => by rw [e8], fun j _ => by rw [e6], fun j _ => by rw [e9]⟩
  · rcases (show j = 2 ∨ j = 3 by omega) with rfl | rfl
    · exact zsi_ne0 (by decide) zKept_11_2
    · exact zsi_ne0 (by decide) zKept_11_3
  · rcases (show j = 2 ∨ j = 3 by omega) with rfl | rfl
    · exact zsi_ne0 (by decide) zKept_12_2
    · exact zsi_ne0 (by decide) zKept_12_3
theorem zKept_kv {v : Int32} : zSc σ (zKsn (zsi (zKept σ) 0 11 v)) := by
  obtain ⟨q1, q2⟩ := zKept_q (σ := σ)
  have z31 : ∀ j : Nat, j < 19 → (zsi (zKept σ) 0 11 v).1 31 j = σ.1 30 j := fun j hj => by
    rw [zsi_ne (by decide)]
    exact q2 (31, 30, 19) (by decide +kernel) j hj
  have z33 : ∀ j : Nat, j < 272 → (zsi (zKept σ) 0 11 v).1 33 j = σ.1 32 j := fun j hj => by
    rw [zsi_ne (by decide)]
    exact q2 (33, 32, 272) (by decide +kernel) j hj
  refine ⟨fun j x y => ?_, fun j x y => ?_, fun j x y => ?_, fun j x y => ?_, fun j x y => ?_, fun j x y => ?_, fun j x y => ?_, fun j x y => ?_, fun j h => ?_, fun j h => ?_⟩
  · rw [zKsn_30]; exact z31 j (by omega)
  · rw [zKsn_30]; exact z31 j (by omega)
  · rw [zKsn_32]; exact z33 j (by omega)
  · rw [zKsn_32]; exact z33 j (by omega)
  · rcases (show j = 2 ∨ j = 3 by omega) with rfl | rfl
    · rw [zKsn_11]; exact zsi_ne0 (by decide) zKept_11_4
    · rw [zKsn_11]; exact zsi_ne0 (by decide) zKept_11_5
  · rcases (show j = 2 ∨ j = 3 by omega) with rfl | rfl
    · rw [zKsn_12]; exact zsi_ne0 (by decide) zKept_12_4
    · rw [zKsn_12]; exact zsi_ne0 (by decide) zKept_12_5
  · rw [zKsn_38, zsi_20]; exact zKept_l (by omega)
  · rw [zKsn_38, zsi_20]; exact zKept_l (by omega)
  · rw [zKsn_46, zsi_20]; exact zKept_47 h
  · rw [zKsn_48, zsi_20]; exact zKept_49 h
theorem zBack_sc : zSc (zKsn σ) (zBack σ) := by
  obtain ⟨q1, q2⟩ := zBack_q (σ := σ)
  have z30 : ∀ j : Nat, j < 19 → (zBack σ).1 30 j = σ.1 31 j := fun j hj => q2 (30, 31, 19) (by decide +kernel) j hj
  have z32 : ∀ j : Nat, j < 272 → (zBack σ).1 32 j = σ.1 33 j := fun j hj => q2 (32, 33, 272) (by decide +kernel) j hj
  refine ⟨fun j x y => ?_, fun j x y => ?_, fun j x y => ?_, fun j x y => ?_, fun j x y => ?_, fun j x y => ?_, fun j x y => ?_, fun j x y => ?_, fun j h => ?_, fun j h => ?_⟩
  · rw [zKsn_30]; exact z30 j (by omega)
  · rw [zKsn_30]; exact z30 j (by omega)
  · rw [zKsn_32]; exact z32 j (by omega)
  · rw [zKsn_32]; exact z32 j (by omega)
  · rcases (show j = 2 ∨ j = 3 by omega) with rfl | rfl
    · rw [zKsn_11]; exact zBack_11_2
    · rw [zKsn_11]; exact zBack_11_3
  · rcases (show j = 2 ∨ j = 3 by omega) with rfl | rfl
    · rw [zKsn_12]; exact zBack_12_2
    · rw [zKsn_12]; exact zBack_12_3
  · rw [zKsn_38]; exact zBack_l (by omega)
  · rw [zKsn_38]; exact zBack_l (by omega)
  · rw [zKsn_46]; exact zBack_46 h
  · rw [zKsn_48]; exact zBack_48 h
theorem zBack_kv : zSc (zKsn σ) (zKsn (zBack σ)) := by
  obtain ⟨q1, q2⟩ := zBack_q (σ := σ)
  have e0 := q1.ro (k := 31) rfl
  have e2 := q1.ro (k := 33) rfl
  have e8 := q1.rlo (k := 39) rfl
  have e6 := q1.rlo (k := 47) rfl
  have e9 := q1.rlo (k := 49) rfl
  refine ⟨fun j _ _ => ?_, fun j _ _ => ?_, fun j _ _ => ?_, fun j _ _ => ?_, fun j x y => ?_, fun j x y => ?_, fun j _ _ => ?_, fun j _ _ => ?_, fun j _ => ?_, fun j _ => ?_⟩
  · rw [zKsn_30, zKsn_30, e0]
  · rw [zKsn_30, zKsn_30, e0]
  · rw [zKsn_32, zKsn_32, e2]
  · rw [zKsn_32, zKsn_32, e2]
  · rcases (show j = 2 ∨ j = 3 by omega) with rfl | rfl
    · rw [zKsn_11, zKsn_11]; exact zBack_11_4
    · rw [zKsn_11, zKsn_11]; exact zBack_11_5
  · rcases (show j = 2 ∨ j = 3 by omega) with rfl | rfl
    · rw [zKsn_12, zKsn_12]; exact zBack_12_4
    · rw [zKsn_12, zKsn_12]; exact zBack_12_5
  · rw [zKsn_38, zKsn_38, e8]
  · rw [zKsn_38, zKsn_38, e8]
  · rw [zKsn_46, zKsn_46, e6]
  · rw [zKsn_48, zKsn_48, e9]
/-! kept by the reference -/
theorem m_sv196v : ∀ (n i : Nat) (t : zSt), i ≤ 4096 → zQ [] [] [19, 20] [] μ t → (∀ j : Nat, j < i → t.2 19 j = μ.2 10 j ∧ t.2 20 j = μ.2 11 j) → zpc (fX12_save_196 n t (Int32.ofNat i)) (fun r => ∀ j : Nat, j < 4096 → r.2 19 j = μ.2 10 j ∧ r.2 20 j = μ.2 11 j) := by
  intro n
  induction n with
  | zero => intro i t _ _ _; exact zpc_none
  | succ n ih =>
    intro i t hi hd hin
    show zpc (fX12_save_196_body (fX12_save_196 n) t (Int32.ofNat i)) _
    unfold fX12_save_196_body
    refine zpc_if (fun q => zpc_some (fun j hj => hin j (by have := (z_ofL (k := 4096) (by omega) rfl).mp q; omega))) (fun q => ?_)
    have hi2 : i < 4096 := by
      have : ¬ 4096 ≤ i := fun z => q ((z_ofL (c := 4096) (k := 4096) (i := i) (by omega) rfl).mpr z)
      omega
    rw [z_ofC (by omega), z_ofS (by omega)]
    refine zpc_ck (zpc_ck (zpc_bv (fun t1 g1 => zpc_ck (zpc_ck (zpc_bv (fun t2 g2 => zpc_bv (fun x ex => ?_)))))))
    subst ex
    have a1 : ∀ j : Nat, t2.2 19 j = t1.2 19 j := fun j => by rw [g2]; exact zsl_off (fun q => absurd q.1 (by decide))
    have a2 : ∀ j : Nat, t1.2 20 j = t.2 20 j := fun j => by rw [g1]; exact zsl_off (fun q => absurd q.1 (by decide))
    refine ih (i + 1) t2 (by omega) (by rw [g2, g1]; exact zQ.wl (zQ.wl hd rfl) rfl) (fun j hj => ?_)
    by_cases z : j = i
    · rw [z]
      refine ⟨?_, ?_⟩
      · rw [a1, g1, zsl_ej]
        show t.2 10 i = μ.2 10 i
        rw [hd.rlo (k := 10) rfl]
      · rw [g2, zsl_ej]
        show t1.2 11 i = μ.2 11 i
        rw [g1, zsl_off (fun q => absurd q.1 (by decide)), hd.rlo (k := 11) rfl]
    · have y := hin j (by omega)
      refine ⟨?_, ?_⟩
      · rw [a1, g1, zsl_nj z]; exact y.1
      · rw [g2, zsl_nj z, a2]; exact y.2
theorem m_rs207v : ∀ (n i : Nat) (t : zSt), i ≤ 4096 → zQ [] [] [10, 11] [] μ t → (∀ j : Nat, j < i → t.2 10 j = μ.2 19 j ∧ t.2 11 j = μ.2 20 j) → zpc (fX12_restore_207 n t (Int32.ofNat i)) (fun r => ∀ j : Nat, j < 4096 → r.2 10 j = μ.2 19 j ∧ r.2 11 j = μ.2 20 j) := by
  intro n
  induction n with
  | zero => intro i t _ _ _; exact zpc_none
  | succ n ih =>
    intro i t hi hd hin
    show zpc (fX12_restore_207_body (fX12_restore_207 n) t (Int32.ofNat i)) _
    unfold fX12_restore_207_body
    refine zpc_if (fun q => zpc_some (fun j hj => hin j (by have := (z_ofL (k := 4096) (by omega) rfl).mp q; omega))) (fun q => ?_)
    have hi2 : i < 4096 := by
      have : ¬ 4096 ≤ i := fun z => q ((z_ofL (c := 4096) (k := 4096) (i := i) (by omega) rfl).mpr z)
      omega
    rw [z_ofC (by omega), z_ofS (by omega)]
    refine zpc_ck (zpc_ck (zpc_bv (fun t1 g1 => zpc_ck (zpc_ck (zpc_bv (fun t2 g2 => zpc_bv (fun x ex => ?_)))))))
    subst ex
    have a1 : ∀ j : Nat, t2.2 10 j = t1.2 10 j := fun j => by rw [g2]; exact zsl_off (fun q => absurd q.1 (by decide))
    have a2 : ∀ j : Nat, t1.2 11 j = t.2 11 j := fun j => by rw [g1]; exact zsl_off (fun q => absurd q.1 (by decide))
    refine ih (i + 1) t2 (by omega) (by rw [g2, g1]; exact zQ.wl (zQ.wl hd rfl) rfl) (fun j hj => ?_)
    by_cases z : j = i
    · rw [z]
      refine ⟨?_, ?_⟩
      · rw [a1, g1, zsl_ej]
        show t.2 19 i = μ.2 19 i
        rw [hd.rlo (k := 19) rfl]
      · rw [g2, zsl_ej]
        show t1.2 20 i = μ.2 20 i
        rw [g1, zsl_off (fun q => absurd q.1 (by decide)), hd.rlo (k := 20) rfl]
    · have y := hin j (by omega)
      refine ⟨?_, ?_⟩
      · rw [a1, g1, zsl_nj z]; exact y.1
      · rw [g2, zsl_nj z, a2]; exact y.2
theorem m_saveJ : zpc (fX12_save_12 zfuel μ 0) (fun r => ∀ j : Nat, j < 4096 → r.2 19 j = μ.2 10 j ∧ r.2 20 j = μ.2 11 j) := by
  refine m_sv12 (μ := μ) zfuel 0 μ (by decide) zQ.rf (fun j hj => absurd hj (by omega)) (fun u0 d0 v0 => ?_)
  refine m_sv39 (μ := u0) zfuel 0 u0 (by decide) zQ.rf (fun j hj => absurd hj (by omega)) (fun u1 d1 v1 => ?_)
  refine m_sv64 (μ := u1) zfuel 0 u1 (by decide) zQ.rf (fun j hj => absurd hj (by omega)) (fun u2 d2 v2 => ?_)
  refine m_sv91 (μ := u2) zfuel 0 u2 (by decide) zQ.rf (fun j hj => absurd hj (by omega)) (fun u3 d3 v3 => ?_)
  refine m_sv117 (μ := u3) zfuel 0 u3 (by decide) zQ.rf (fun j hj => absurd hj (by omega)) (fun u4 d4 v4 => ?_)
  refine m_sv144 (μ := u4) zfuel 0 u4 (by decide) zQ.rf (fun j hj => absurd hj (by omega)) (fun u5 d5 v5 => ?_)
  refine m_sv170 (μ := u5) zfuel 0 u5 (by decide) zQ.rf (fun j hj => absurd hj (by omega)) (fun u6 d6 v6 => ?_)
  refine zpc_mono (m_sv196v (μ := u6) zfuel 0 u6 (by decide) zQ.rf (fun j hj => absurd hj (by omega))) (fun r d7 j hj => ?_)
  refine ⟨?_, ?_⟩
  · rw [(d7 j hj).1, d6.rlo (k := 10) rfl, d5.rlo (k := 10) rfl, d4.rlo (k := 10) rfl, d3.rlo (k := 10) rfl, d2.rlo (k := 10) rfl, d1.rlo (k := 10) rfl, d0.rlo (k := 10) rfl]
  · rw [(d7 j hj).2, d6.rlo (k := 11) rfl, d5.rlo (k := 11) rfl, d4.rlo (k := 11) rfl, d3.rlo (k := 11) rfl, d2.rlo (k := 11) rfl, d1.rlo (k := 11) rfl, d0.rlo (k := 11) rfl]
theorem m_backJ : zpc (fX12_restore_23 zfuel μ 0) (fun r => ∀ j : Nat, j < 4096 → r.2 10 j = μ.2 19 j ∧ r.2 11 j = μ.2 20 j) := by
  refine m_rs23 (μ := μ) zfuel 0 μ (by decide) zQ.rf (fun j hj => absurd hj (by omega)) (fun u0 d0 v0 => ?_)
  refine m_rs50 (μ := u0) zfuel 0 u0 (by decide) zQ.rf (fun j hj => absurd hj (by omega)) (fun u1 d1 v1 => ?_)
  refine m_rs75 (μ := u1) zfuel 0 u1 (by decide) zQ.rf (fun j hj => absurd hj (by omega)) (fun u2 d2 v2 => ?_)
  refine m_rs102 (μ := u2) zfuel 0 u2 (by decide) zQ.rf (fun j hj => absurd hj (by omega)) (fun u3 d3 v3 => ?_)
  refine m_rs128 (μ := u3) zfuel 0 u3 (by decide) zQ.rf (fun j hj => absurd hj (by omega)) (fun u4 d4 v4 => ?_)
  refine m_rs155 (μ := u4) zfuel 0 u4 (by decide) zQ.rf (fun j hj => absurd hj (by omega)) (fun u5 d5 v5 => ?_)
  refine m_rs181 (μ := u5) zfuel 0 u5 (by decide) zQ.rf (fun j hj => absurd hj (by omega)) (fun u6 d6 v6 => ?_)
  refine zpc_mono (m_rs207v (μ := u6) zfuel 0 u6 (by decide) zQ.rf (fun j hj => absurd hj (by omega))) (fun r d7 j hj => ?_)
  refine ⟨?_, ?_⟩
  · rw [(d7 j hj).1, d6.rlo (k := 19) rfl, d5.rlo (k := 19) rfl, d4.rlo (k := 19) rfl, d3.rlo (k := 19) rfl, d2.rlo (k := 19) rfl, d1.rlo (k := 19) rfl, d0.rlo (k := 19) rfl]
  · rw [(d7 j hj).2, d6.rlo (k := 20) rfl, d5.rlo (k := 20) rfl, d4.rlo (k := 20) rfl, d3.rlo (k := 20) rfl, d2.rlo (k := 20) rfl, d1.rlo (k := 20) rfl, d0.rlo (k := 20) rfl]
theorem m_saveK : zpc (fX12_save μ ) (fun r => zQ [12, 14, 15, 16, 17, 18] [(0, 0, 0), (0, 19, 19)] [13, 19, 20] [] μ r ∧ zSrm μ (zKtn r)) := by
  unfold fX12_save
  refine zpc_bv (fun t1 e1 => zpc_ck (zpc_bv (fun t2 e2 => ?_)))
  have f1 : zQ [12, 14, 15, 16, 17, 18] [(0, 0, 0), (0, 19, 19)] [13, 19, 20] [] μ t2 := by rw [e2, e1]; exact zQ.wi (zQ.wi zQ.rf rfl) rfl
  refine zpc_mono (zpc_and (m_save' (μ := t2)) (m_saveJ (μ := t2))) (fun r p => ?_)
  obtain ⟨⟨b0, w3, w4, _⟩, w10⟩ := p
  have g3 : t2.1 3 = μ.1 3 := f1.ro (k := 3) rfl
  have g4 : t2.2 = μ.2 := by rw [e2, e1]; rfl
  refine ⟨f1.tr b0, ⟨fun j x y => ?_, fun j x y => ?_, fun j x y => ?_, fun j x y => ?_, fun j x y => ?_, fun j x y => ?_, fun j hj => ?_, fun j hj => ?_⟩⟩
  · show r.1 12 j = μ.1 3 j
    rw [w3 j (by omega), g3]
  · show r.1 12 j = μ.1 3 j
    rw [w3 j (by omega), g3]
  · show r.1 12 j = μ.1 3 j
    rw [w3 j (by omega), g3]
  · show r.1 12 j = μ.1 3 j
    rw [w3 j (by omega), g3]
  · show r.1 12 j = μ.1 3 j
    rw [w3 j (by omega), g3]
  · show r.2 13 j = μ.2 4 j
    rw [w4 j (by omega), g4]
  · show r.2 19 j = μ.2 10 j
    rw [(w10 j hj).1, g4]
  · show r.2 20 j = μ.2 11 j
    rw [(w10 j hj).2, g4]
theorem m_restK (nq : ¬ μ.1 0 19 = 0) : zpc (fX12_restore μ ) (fun r => zQ [3, 5, 6, 7, 8, 9] [(0, 0, 0)] [4, 10, 11] [] μ r ∧ zSrm (zKtn μ) r) := by
  unfold fX12_restore fX12_restore_13
  refine zpc_if (fun z => absurd z nq) (fun _ => zpc_fails0' (fun t1 e1 => zpc_if (fun _ => ?_) (fun z => absurd rfl z)))
  have f1 : zQ [3, 5, 6, 7, 8, 9] [(0, 0, 0)] [4, 10, 11] [] μ t1 := by rw [e1]; exact zQ.wi zQ.rf rfl
  refine zpc_mono (zpc_and (m_back (μ := t1)) (zpc_and (m_backf (μ := t1)) (m_backJ (μ := t1)))) (fun r p => ?_)
  obtain ⟨p1, p2, p10⟩ := p
  have g12 : t1.1 12 = μ.1 12 := f1.ro (k := 12) rfl
  have g2 : t1.2 = μ.2 := by rw [e1]; rfl
  have r3 := p1.ro (k := 3) rfl
  have r4 := p1.rlo (k := 4) rfl
  refine ⟨f1.tr (p2.mono rfl rfl), ⟨fun j x y => ?_, fun j x y => ?_, fun j x y => ?_, fun j x y => ?_, fun j x y => ?_, fun j x y => ?_, fun j hj => ?_, fun j hj => ?_⟩⟩
  · show r.1 3 j = μ.1 12 j
    rw [r3, zKm_3 (by omega), g12]
  · show r.1 3 j = μ.1 12 j
    rw [r3, zKm_3 (by omega), g12]
  · show r.1 3 j = μ.1 12 j
    rw [r3, zKm_3 (by omega), g12]
  · show r.1 3 j = μ.1 12 j
    rw [r3, zKm_3 (by omega), g12]
  · show r.1 3 j = μ.1 12 j
    rw [r3, zKm_3 (by omega), g12]
  · show r.2 4 j = μ.2 13 j
    rw [r4, zKm_l (by omega), g2]
  · show r.2 10 j = μ.2 19 j
    rw [(p10 j hj).1, g2]
  · show r.2 11 j = μ.2 20 j
    rw [(p10 j hj).2, g2]
theorem gj_save (h : zAlj J K σ μ) : zp2 (fX11_save σ ) (fX12_save μ ) (zAlj J K) := fun a b ea eb => by
  have x := g_save h.1 a b ea eb
  have ha := k_save a ea
  have hm := m_saveK b eb
  rw [ha] at x ⊢
  exact ⟨x, J.2.2.1 _ _ _ _ _ h.2.1 zKept_sc (zSrm.of hm.1 rfl), fun _ => J.2.2.1 _ _ _ _ _ h.2.1 zKept_kv hm.2⟩
theorem gj_restore (h : zAlj J K σ μ) (hf : σ.1 0 11 = 0 ↔ μ.1 0 19 = 0) : zp2 (fX11_restore σ ) (fX12_restore μ ) (fun r r' => zAlj J K (zRus r) r') := fun a b ea eb => by
  have x : zAll K (zRus a) b := g_restore h.1 hf a b ea eb
  show zAlj J K (zRus a) b
  by_cases q : σ.1 0 11 = 0
  · have ha : zpc (fX11_restore σ ) (fun r => zRus r = σ) := by
      unfold fX11_restore
      exact zpc_if (fun _ => zpc_some rfl) (fun z => absurd q z)
    have hb : zpc (fX12_restore μ ) (fun r => ∃ v, r = zsi μ 0 0 v) := by
      unfold fX12_restore fX12_restore_13
      exact zpc_if (fun _ => zpc_fails1 (fun t1 e1 => zpc_if (fun z => absurd z (by decide)) (fun _ => zpc_some ⟨_, e1⟩))) (fun z => absurd (hf.mp q) z)
    obtain ⟨v, eb'⟩ := hb b eb
    have ea' : zRus a = σ := ha a ea
    rw [ea', eb'] at x ⊢
    exact ⟨x, J.2.1.th h.2.1, fun z => absurd q z⟩
  · have nq : ¬ μ.1 0 19 = 0 := fun z => q (hf.mpr z)
    have ha := c_restore q a ea
    have hb := m_restK nq b eb
    rw [ha] at x ⊢
    exact ⟨x, J.2.2.1 _ _ _ _ _ (h.2.2 q) zBack_sc hb.2, fun _ => J.2.2.1 _ _ _ _ _ (h.2.2 q) zBack_kv (zKtn.of hb.1 rfl)⟩
theorem z_freshJ {k c : Int32} {σ4 σ5 σ9 σ1 : zSt} {σ6 : Int32 → zSt} (ec : c = zKd k) (e4 : fX7_clear zS0 = some σ4) (e5 : fX10_clear zS0 = some σ5) (e6 : ∀ v, fX4_clear (zsi (zsi (zsi zS0 6 0 v) 34 10 1) 34 11 1) = some (σ6 v)) (e9 : fJ7_fill_53178_k44 zS0 (-1) = some σ9) (e : fX12_anew (zsi (zsi (zsi (zsi (zsi zS0 0 8 (-1)) 0 3 c) 3 44 0) 3 45 1) 3 46 1) = some σ1) : zAlj ⟨zJ1, zJ1_jw⟩ 0 (zC1 k σ4 σ5 σ6 σ9) σ1 := by
  refine ⟨z_freshA ec e4 e5 e6 e9 e, ?_, fun q => absurd rfl q⟩
  have a4 := c_clr7 σ4 e4
  have b := m_anewx σ1 e
  have c38 : ∀ j, (zC1 k σ4 σ5 σ6 σ9).2 38 j = 0 := fun j => rfl
  have l4 : σ1.2 4 = zS0.2 4 := b.1.rlo (k := 4) rfl
  have l10 : σ1.2 10 = zS0.2 10 := b.1.rlo (k := 10) rfl
  have m8 : ∀ j : Nat, 87 ≤ j → j ≤ 88 → σ1.1 3 j = 0 := fun j x y => by
    rw [b.1.o (k := 3) (a := 87) (b := 88) rfl x y, zsi_nj (by omega), zsi_nj (by omega), zsi_nj (by omega), zsi_ne (by decide), zsi_ne (by decide)]
    rfl
  have m6 : ∀ j : Nat, 166 ≤ j → j ≤ 168 → σ1.1 3 j = 0 := fun j x y => by
    rw [b.1.o (k := 3) (a := 166) (b := 168) rfl x y, zsi_nj (by omega), zsi_nj (by omega), zsi_nj (by omega), zsi_ne (by decide), zsi_ne (by decide)]
    rfl
  show zJ1 (64 * 0) (zC1 k σ4 σ5 σ6 σ9) σ1
  refine ⟨⟨zTo_new (fun j hj => (show (zC1 k σ4 σ5 σ6 σ9).1 30 j = σ4.1 30 j from rfl).trans (a4.2 j hj)) b.2.2.1, ⟨?_, ?_, fun j hj => ?_, ?_, ?_⟩, ?_, ?_⟩, ?_, ?_⟩
  · rw [m8 88 (by decide) (by decide)]; rfl
  · rw [m8 87 (by decide) (by decide)]; rfl
  · rw [l10]; rfl
  · rw [m8 88 (by decide) (by decide)]; exact zr_c (by decide)
  · rw [m8 87 (by decide) (by decide)]; exact zr_c (by decide)
  · rw [c38, l4]; rfl
  · unfold zSmn
    rw [c38 6, c38 4, c38 5, c38 0, m6 168 (by decide) (by decide), m6 166 (by decide) (by decide), m6 167 (by decide) (by decide)]
    decide
  · rw [c38]; decide
  · rw [c38]; decide
/-- what sound() tells -/
theorem zAlj.rs (h : zAlj ⟨zJ1, zJ1_jw⟩ K σ μ) : zRs σ μ := by
  obtain ⟨C, hC, n⟩ := h.1.1
  have hE : zE σ μ := n.ve.1
  have hT : zTo σ μ := h.2.1.1.1
  have g0 : ∀ d : Nat, d < 3 → σ.1 30 (0 + d) = μ.1 3 (69 + d) := fun d hd => by rw [← hE.at (z_pn30_0 hd), z_an1]
  have g9 : ∀ d : Nat, d < 5 → σ.1 30 (9 + d) = μ.1 3 (78 + d) := fun d hd => by rw [← hE.at (z_pn30_9 hd), z_an1]
  have g17 : σ.1 30 17 = μ.1 3 86 := (hE.at (z_pn30_17 (d := 0) (by decide))).symm.trans (z_an1 _)
  have g18 : σ.1 30 18 = μ.1 3 34 := (hE.at (z_pn30_18 (d := 0) (by decide))).symm.trans (z_an1 _)
  refine ⟨fun j hj => ?_, g18⟩
  by_cases q1 : j < 3
  · have z := g0 j q1
    rw [Nat.zero_add] at z
    exact z
  by_cases q2 : j ≤ 8
  · exact (hT.1 j (by omega) q2).symm
  by_cases q3 : j ≤ 13
  · have z := g9 (j - 9) (by omega)
    rw [show 9 + (j - 9) = j by omega, show 78 + (j - 9) = 69 + j by omega] at z
    exact z
  by_cases q4 : j ≤ 16
  · exact (hT.2.1 j (by omega) q4).symm
  obtain rfl : j = 17 := by omega
  exact g17
end ZSV
end ZJN0
section ZJN1

end ZJN1
section ZJN2
section ZTE
variable {σ μ s t : zSt} {x y z p b i l : Int32}
noncomputable def zTln (k : Nat) (a b : Int) : Prop := b ≤ 32 ∧ (b = a + (k : Int) ∨ (b = 32 ∧ 32 ≤ a + (k : Int)))
noncomputable def zTs (k c : Nat) (σ s : zSt) : Prop := zQ [45] [(10, 2, 2), (10, 4, 4)] [] [] σ s ∧ (zr 0 32 (σ.1 10 2) → 0 ≤ (σ.1 10 4).toInt → (σ.1 10 4).toInt + (c : Int) ≤ 1000 → zTln k (σ.1 10 2).toInt (s.1 10 2).toInt ∧ (s.1 10 4).toInt = (σ.1 10 4).toInt + (c : Int))
theorem zTs.rf : zTs 0 0 σ σ := ⟨zQ.rf, fun x y z => ⟨⟨x.2, Or.inl (by omega)⟩, by omega⟩⟩
theorem zTs.tr {a b c d : Nat} (h : zTs a b σ s) (g : zTs c d s t) : zTs (a + c) (b + d) σ t := by
  obtain ⟨h1, h2⟩ := h
  obtain ⟨g1, g2⟩ := g
  refine ⟨h1.tr g1, fun x y z => ?_⟩
  obtain ⟨⟨u1, u2⟩, u3⟩ := h2 x y (by omega)
  have x0 := x.1
  have x1 := x.2
  obtain ⟨⟨v1, v2⟩, v3⟩ := g2 ⟨by omega, u1⟩ (by omega) (by omega)
  exact ⟨⟨v1, by omega⟩, by omega⟩
noncomputable def zEc (x y z p b : Int32) (σ : zSt) : Prop := σ.1 10 5 = x ∧ σ.1 10 6 = y ∧ σ.1 10 7 = z ∧ σ.1 10 8 = p ∧ σ.1 10 9 = b
theorem zEc.kp {k c : Nat} (e : zEc x y z p b σ) (h : zTs k c σ s) : zEc x y z p b s := by
  have g : ∀ j : Nat, 5 ≤ j → j ≤ 9 → s.1 10 j = σ.1 10 j := fun j h1 h2 => h.1.o (k := 10) (a := 5) (b := 9) rfl h1 h2
  unfold zEc
  rw [g 5 (by decide) (by decide), g 6 (by decide) (by decide), g 7 (by decide) (by decide), g 8 (by decide) (by decide), g 9 (by decide) (by decide)]
  exact e
end ZTE
end ZJN2
section ZJN3
/-! THE TELLER OF THE REFERENCE -/
section ZTF
variable {σ μ s t : zSt} {i l : Int32}
noncomputable def zTm (k c : Nat) (σ s : zSt) : Prop := zQ [26] [(0, 39, 40)] [] [] σ s ∧ (0 ≤ (σ.1 0 39).toInt → (σ.1 0 39).toInt + (k : Int) ≤ 1000 → 0 ≤ (σ.1 0 40).toInt → (σ.1 0 40).toInt + (c : Int) ≤ 100000 → (s.1 0 39).toInt = (σ.1 0 39).toInt + (k : Int) ∧ (s.1 0 40).toInt = (σ.1 0 40).toInt + (c : Int))
theorem zTm.rf : zTm 0 0 σ σ := ⟨zQ.rf, fun _ _ _ _ => ⟨by omega, by omega⟩⟩
theorem zTm.tr {a b c d : Nat} (h : zTm a b σ s) (g : zTm c d s t) : zTm (a + c) (b + d) σ t := by
  obtain ⟨h1, h2⟩ := h
  obtain ⟨g1, g2⟩ := g
  refine ⟨h1.tr g1, fun w x y z => ?_⟩
  obtain ⟨u1, u2⟩ := h2 w (by omega) y (by omega)
  obtain ⟨v1, v2⟩ := g2 (by omega) (by omega) (by omega) (by omega)
  exact ⟨by omega, by omega⟩
noncomputable def zEm (i l : Int32) (σ : zSt) : Prop := σ.1 0 41 = i ∧ σ.1 0 42 = l
theorem zEm.kp {k c : Nat} (e : zEm i l σ) (h : zTm k c σ s) : zEm i l s := by
  have g : ∀ j : Nat, 41 ≤ j → j ≤ 42 → s.1 0 j = σ.1 0 j := fun j h1 h2 => h.1.o (k := 0) (a := 41) (b := 42) rfl h1 h2
  unfold zEm
  rw [g 41 (by decide) (by decide), g 42 (by decide) (by decide)]
  exact e
end ZTF
end ZJN3
section ZJN4
section ZT3
variable {σ μ s t : zSt} {v x y z p b : Int32}
/-- what is told of an op: signs, bytes -/
noncomputable def zSumq (k c : Nat) (r : zSt × Int32) : Prop := c ≤ 100 → zTln k 0 (r.1.1 10 2).toInt ∧ r.2.toInt = (c : Int)
end ZT3
end ZJN4
section ZJN5
section ZT4
variable {σ σ0 μ s t : zSt} {v x A p0 : Int32}
noncomputable def zSun (k c : Nat) (r : zSt × Int32) : Prop := k ≤ 100 → c ≤ 100 → (r.1.1 0 39).toInt = (k : Int) ∧ r.2.toInt = (c : Int)
end ZT4
end ZJN5
section ZJN6
/-! TELL OF THE REFERENCE; BOTH -/
noncomputable def zTn (k c : Nat) (σ s : zSt) : Prop := 0 ≤ (σ.1 0 39).toInt → (σ.1 0 39).toInt + (k : Int) ≤ 1000 → 0 ≤ (σ.1 0 40).toInt → (σ.1 0 40).toInt + (c : Int) ≤ 100000 → (s.1 0 39).toInt = (σ.1 0 39).toInt + (k : Int) ∧ (s.1 0 40).toInt = (σ.1 0 40).toInt + (c : Int)
section ZT5
variable {σ μ s t : zSt} {v i x A : Int32}
theorem zTn.tr {a b c d : Nat} (h : zTn a b σ s) (g : zTn c d s t) : zTn (a + c) (b + d) σ t := fun w x y z => by
  obtain ⟨u1, u2⟩ := h w (by omega) y (by omega)
  obtain ⟨v1, v2⟩ := g (by omega) (by omega) (by omega) (by omega)
  exact ⟨by omega, by omega⟩
theorem zTn.of (e39 : s.1 0 39 = σ.1 0 39) (e40 : s.1 0 40 = σ.1 0 40) : zTn 0 0 σ s := fun _ _ _ _ => by
  rw [e39, e40]
  exact ⟨by omega, by omega⟩
theorem zTn.up (e39 : s.1 0 39 = σ.1 0 39) (e40 : s.1 0 40 = σ.1 0 40 + 1) : zTn 0 1 σ s := fun w x y z => by
  have c1 : (1 : Int32).toInt = 1 := rfl
  have t1 := z_tadd (x := σ.1 0 40) (y := 1) (a := 0) (b := 100000) ⟨y, by omega⟩ (zr_c (lo := 1) (hi := 1) (x := 1) (by decide)) (by decide)
  rw [e39, e40, t1, c1]
  exact ⟨by omega, by omega⟩
end ZT5
section ZT6
variable {σ μ : zSt} {x : Int32}
/-- the same told -/
noncomputable def zTe (r r' : zSt × Int32) : Prop := r.2 = r'.2 ∧ r.1.1 10 2 = r'.1.1 0 39 ∧ zr 0 32 (r.1.1 10 2)
theorem zTe.of {k c k' c' : Nat} {r r' : zSt × Int32} (a : zSumq k c r) (b : zSun k' c' r') (ek : k = k') (ec : c = c') (hk : k ≤ 32) (hc : c ≤ 100) : zTe r r' := by
  obtain ⟨⟨a1, a2⟩, a3⟩ := a hc
  obtain ⟨b1, b2⟩ := b (by omega) (by omega)
  refine ⟨Int32.toInt_inj.mp (by omega), Int32.toInt_inj.mp (by omega), ⟨by omega, by omega⟩⟩
end ZT6
end ZJN6
section ZJN7
/-! WAVES: WHAT A CHANNEL HAS -/
theorem zpWif {α : Type} {σ : zSt} {q : Prop} {d1 d2 : Decidable q} {A B : Option (zSt × α)} {a b : α} (h1 : q → zpc A (fun r => r = (σ, a))) (h2 : ¬ q → zpc B (fun r => r = (σ, b))) : zpc (@ite _ q d1 A B) (fun r => r = (σ, @ite _ q d2 a b)) := by
  by_cases z : q
  · rw [if_pos z, if_pos z]; exact h1 z
  · rw [if_neg z, if_neg z]; exact h2 z
theorem z_ofA {a c : Nat} : Int32.ofNat a + Int32.ofNat c = Int32.ofNat (a + c) := (Int32.ofNat_add a c).symm
theorem z_atk {a m : Nat} (h : a + m < 100000) : (Int32.ofNat a + Int32.ofNat m).toNatClampNeg = a + m := by rw [z_ofA, z_ofC h]
/-- a bit of a byte of a long -/
theorem z_pbit {s : Int64} {i j : Nat} (hi : i < 8) (hj : j < 8) : ((zlushr s (8 * Int32.ofNat i)).toInt32).toBitVec.getLsbD j = s.toBitVec.getLsbD (8 * i + j) := by
  have s2 : (UInt64.mod ((8 * Int32.ofNat i).toInt64.toUInt64 &&& Int64.toUInt64 63) 64).toBitVec.toNat = 8 * i := z_sh2 ⟨i, hi⟩
  have e2 : (zlushr s (8 * Int32.ofNat i)).toInt32.toBitVec = (s.toBitVec >>> (UInt64.mod ((8 * Int32.ofNat i).toInt64.toUInt64 &&& Int64.toUInt64 63) 64).toBitVec.toNat).signExtend 32 := rfl
  rw [e2, s2]
  simp only [BitVec.getLsbD_signExtend, BitVec.getLsbD_ushiftRight, if_pos (show j < 64 by omega), decide_eq_true (show j < 32 by omega), Bool.true_and]
theorem z_b64 : ∀ n : Fin 256, ∀ i : Fin 64, ((Int32.ofNat n.val).toInt64).toBitVec.getLsbD i.val = (decide (i.val < 8) && (Int32.ofNat n.val).toBitVec.getLsbD i.val) := by decide +kernel
theorem z_b64r {b : Int32} (h : zr 0 255 b) {i : Nat} (hi : i < 64) : (b.toInt64).toBitVec.getLsbD i = (decide (i < 8) && b.toBitVec.getLsbD i) := by
  obtain ⟨n, e⟩ := z_F (m := 256) h (by decide)
  rw [e]
  exact z_b64 n ⟨i, hi⟩
theorem z_shl8 {w : Int64} : (zlshl w 8).toBitVec = w.toBitVec <<< 8 := by
  have e : (zlshl w 8).toBitVec = w.toBitVec <<< (((8 : Int32).toInt64 &&& 63).toBitVec.smod 64).toNat := rfl
  rw [e, show (((8 : Int32).toInt64 &&& 63).toBitVec.smod 64).toNat = 8 by decide]
theorem z_own1 {w : Int64} {b : Int32} (h : zr 0 255 b) {i : Nat} (hi : i < 64) : ((zlshl w 8) ||| b.toInt64).toBitVec.getLsbD i = if i < 8 then b.toBitVec.getLsbD i else w.toBitVec.getLsbD (i - 8) := by
  rw [Int64.toBitVec_or, BitVec.getLsbD_or, z_shl8, BitVec.getLsbD_shiftLeft, z_b64r h hi]
  by_cases q : i < 8
  · rw [if_pos q, decide_eq_true q, decide_eq_true hi]
    rfl
  · rw [if_neg q, decide_eq_false q, decide_eq_true hi]
    simp only [Bool.not_false, Bool.true_and, Bool.false_and, Bool.or_false]
theorem z_byand {x : Int32} (h : zr 0 255 x) : x &&& 255 = x := by
  obtain ⟨n, e⟩ := z_F (m := 256) h (by decide)
  have k : ∀ n : Fin 256, Int32.ofNat n.val &&& 255 = Int32.ofNat n.val := by decide +kernel
  rw [e]
  exact k n
/-! the patch -/
noncomputable def zDg (x : Int32) : Int32 := if 97 ≤ x then (x - 97) + 10 else x - 48
noncomputable def zPb (r : Nat → Int32) (s0 : Int32) (k : Nat) : Int32 := if s0 = 0 then r k else (16 * zDg (zkC 70 ((16 * (s0 - 1)) + (2 * Int32.ofNat k)).toNatClampNeg)) + zDg (zkC 70 (((16 * (s0 - 1)) + (2 * Int32.ofNat k)) + 1).toNatClampNeg)
noncomputable def zRy (r : Nat → Int32) (c : Nat) : Int32 := if Int32.ofNat c ≤ 5 then 0 else (if (r 14 &&& 32) = 0 then 0 else 1)
noncomputable def zPsn (r : Nat → Int32) (c : Nat) : Int32 := if zRy r c = 0 then (r (48 + c)) >>> ((4 : Int32) &&& 31) else Int32.ofNat c + 10
noncomputable def zPB (r : Nat → Int32) (c k : Nat) : Int32 := zPb r (zPsn r c) k
noncomputable def zPv (own : Int64) (s0 : Int32) : Int64 := if s0 ≤ 0 then own else if 18 < s0 then own else zt5 (s0 - 1).toNatClampNeg
noncomputable def zOwn (r : Nat → Int32) (w : Int64) : Prop := ∀ m : Nat, m < 8 → ∀ j : Nat, j < 8 → w.toBitVec.getLsbD (8 * m + j) = (r (7 - m)).toBitVec.getLsbD j
noncomputable def zRb (r : Nat → Int32) : Prop := ∀ j : Nat, j < 64 → zr 0 255 (r j)
section ZWA
variable {σ μ s t : zSt} {r : Nat → Int32} {c k : Nat}
theorem pt_tab : ∀ i : Fin 18, ∀ k : Fin 8, ((zlushr (zt5 i.val) (56 - (8 * Int32.ofNat k.val))).toInt32) &&& 255 = (16 * zDg (zkC 70 ((16 * (Int32.ofNat (i.val + 1) - 1)) + (2 * Int32.ofNat k.val)).toNatClampNeg)) + zDg (zkC 70 (((16 * (Int32.ofNat (i.val + 1) - 1)) + (2 * Int32.ofNat k.val)) + 1).toNatClampNeg) := by decide +kernel
theorem pt_tabr : ∀ i : Fin 18, ∀ k : Fin 8, 0 ≤ ((16 * zDg (zkC 70 ((16 * (Int32.ofNat (i.val + 1) - 1)) + (2 * Int32.ofNat k.val)).toNatClampNeg)) + zDg (zkC 70 (((16 * (Int32.ofNat (i.val + 1) - 1)) + (2 * Int32.ofNat k.val)) + 1).toNatClampNeg)).toInt ∧ ((16 * zDg (zkC 70 ((16 * (Int32.ofNat (i.val + 1) - 1)) + (2 * Int32.ofNat k.val)).toNatClampNeg)) + zDg (zkC 70 (((16 * (Int32.ofNat (i.val + 1) - 1)) + (2 * Int32.ofNat k.val)) + 1).toNatClampNeg)).toInt ≤ 255 := by decide +kernel
theorem zPb_r (hb : zRb r) {s0 : Int32} (hs : zr 0 18 s0) (hk : k < 8) : zr 0 255 (zPb r s0 k) := by
  unfold zPb
  by_cases q : s0 = 0
  · rw [if_pos q]; exact hb k (by omega)
  · rw [if_neg q]
    obtain ⟨n, e⟩ := z_F (m := 19) hs (by decide)
    have n0 : ¬ n.val = 0 := fun z => q (by rw [e, z]; rfl)
    have z := pt_tabr ⟨n.val - 1, by omega⟩ ⟨k, hk⟩
    rw [e]
    have e1 : n.val - 1 + 1 = n.val := by omega
    have z : _ ∧ _ := z
    simp only [e1] at z
    exact z
theorem zPv_part (hb : zRb r) {w : Int64} (hw : zOwn r w) {s0 : Int32} (hs : zr 0 18 s0) (hk : k < 8) : ((zlushr (zPv w s0) (56 - (8 * Int32.ofNat k))).toInt32) &&& 255 = zPb r s0 k := by
  obtain ⟨n, e⟩ := z_F (m := 19) hs (by decide)
  unfold zPb
  by_cases q : s0 = 0
  · rw [if_pos q]
    have v : zPv w s0 = w := by unfold zPv; rw [if_pos (by rw [q]; decide)]
    have sh : ∀ k : Fin 8, (56 - (8 * Int32.ofNat k.val) : Int32) = 8 * Int32.ofNat (7 - k.val) := by decide
    rw [v, sh ⟨k, hk⟩, ← z_byand (hb k (by omega))]
    refine z_and255 (fun j hj => ?_)
    rw [z_pbit (by show 7 - k < 8; omega) hj]
    have z := hw (7 - k) (by omega) j hj
    rw [show 7 - (7 - k) = k by omega] at z
    exact z
  · rw [if_neg q]
    have n0 : ¬ n.val = 0 := fun z => q (by rw [e, z]; rfl)
    have g : ∀ n : Fin 19, ¬ n.val = 0 → ¬ Int32.ofNat n.val ≤ 0 ∧ ¬ 18 < Int32.ofNat n.val ∧ (Int32.ofNat n.val - 1).toNatClampNeg = n.val - 1 := by decide
    obtain ⟨g1, g2, g3⟩ := g n n0
    rw [e]
    unfold zPv
    rw [if_neg g1, if_neg g2, g3]
    have z := pt_tab ⟨n.val - 1, by omega⟩ ⟨k, hk⟩
    have e1 : n.val - 1 + 1 = n.val := by omega
    simp only [e1] at z
    exact z
theorem zPsn_r (hb : zRb r) (hc : c < 9) : zr 0 18 (zPsn r c) := by
  unfold zPsn
  by_cases q : zRy r c = 0
  · rw [if_pos q]
    obtain ⟨n, e⟩ := z_F (m := 256) (hb (48 + c) (by omega)) (by decide)
    have g : ∀ n : Fin 256, 0 ≤ (Int32.ofNat n.val >>> ((4 : Int32) &&& 31)).toInt ∧ (Int32.ofNat n.val >>> ((4 : Int32) &&& 31)).toInt ≤ 18 := by decide +kernel
    rw [e]
    exact g n
  · rw [if_neg q]
    have g : ∀ n : Fin 9, 0 ≤ (Int32.ofNat n.val + 10).toInt ∧ (Int32.ofNat n.val + 10).toInt ≤ 18 := by decide
    exact g ⟨c, hc⟩
theorem zPB_r (hb : zRb r) (hc : c < 9) (hk : k < 8) : zr 0 255 (zPB r c k) := zPb_r hb (zPsn_r hb hc) hk
/-! the reference -/
noncomputable def zRm (r : Nat → Int32) (μ : zSt) : Prop := ∀ j : Nat, j < 64 → μ.1 3 (98 + j) = r j
theorem m_wreg (h : zRm r μ) {j : Nat} (hj : j < 64) {x : Int32} (hx : x = Int32.ofNat j) : zpc (fX12_wreg μ x) (fun q => q = (μ, r j)) := by
  subst hx
  unfold fX12_wreg
  rw [show (98 + Int32.ofNat j).toNatClampNeg = 98 + j from z_atk (a := 98) (m := j) (by omega), show zgi μ 3 (98 + j) = r j from h j hj]
  exact zpc_ck (zpc_some rfl)
theorem m_dig {x : Int32} : zpc (fX12_digit μ x) (fun q => q = (μ, zDg x)) := by
  unfold fX12_digit fX12_digit_20 zDg
  exact zpWif (fun _ => zpc_some rfl) (fun _ => zpc_some rfl)
theorem m_rhy (h : zRm r μ) : zpc (fX12_isRhythm μ (Int32.ofNat c)) (fun q => q = (μ, zRy r c)) := by
  unfold fX12_isRhythm fX12_isRhythm_21 fX12_isRhythm_22 zRy
  refine zpWif (fun _ => zpc_ck (zpc_some rfl)) (fun _ => zpc_bi (m_wreg h (j := 14) (by decide) rfl) (fun s1 v1 q => ?_))
  cases q
  exact zpWif (fun _ => zpc_ck (zpc_some rfl)) (fun _ => zpc_ck (zpc_some rfl))
theorem m_pb25 (h : zRm r μ) (hk : k < 8) {x s0 : Int32} (hx : x = Int32.ofNat k) : zpc (fX12_patchByte_25 μ x s0) (fun q => q = (μ, zPb r s0 k)) := by
  unfold fX12_patchByte_25 zPb
  refine zpWif (fun _ => zpc_bi (m_wreg h (j := k) (by omega) hx) (fun s1 v1 q => ?_)) (fun _ => zpc_bv (fun v1 e1 => ?_))
  · cases q
    exact zpc_some rfl
  · subst e1
    subst hx
    refine zpc_ck (zpc_ck (zpc_bi m_dig (fun s2 v3 q3 => ?_)))
    cases q3
    refine zpc_ck (zpc_ck (zpc_bi m_dig (fun s4 v5 q5 => ?_)))
    cases q5
    exact zpc_some rfl
theorem m_pb (h : zRm r μ) (hc : c < 9) (hk : k < 8) {x : Int32} (hx : x = Int32.ofNat k) : zpc (fX12_patchByte μ (Int32.ofNat c) x) (fun q => q = (μ, zPB r c k)) := by
  unfold fX12_patchByte
  refine zpc_bi (m_rhy h) (fun s8 v9 q => ?_)
  cases q
  unfold zPB zPsn
  by_cases z : zRy r c = 0
  · rw [if_pos z, if_pos z]
    refine zpc_bi (m_wreg h (j := 48 + c) (by omega) (show 48 + Int32.ofNat c = Int32.ofNat (48 + c) from z_ofA (a := 48))) (fun s10 v11 q => ?_)
    cases q
    exact m_pb25 h hk hx
  · rw [if_neg z, if_neg z]
    exact m_pb25 h hk hx
/-! the class -/
noncomputable def zRc4 (r : Nat → Int32) (σ : zSt) : Prop := ∀ j : Nat, j < 64 → σ.1 32 j = r j
theorem c_own (h : zRc4 r σ) (hb : zRb r) : zpc (fX10_takeOwnPatch σ ) (fun s => zQ [] [] [] [(5, 7, 7)] σ s ∧ zOwn r (s.2 5 7)) := by
  have go : ∀ (f i : Nat) (s : zSt), i ≤ 8 → zQ [] [] [] [(5, 7, 7)] σ s → (∀ m : Nat, m < i → ∀ j : Nat, j < 8 → (s.2 5 7).toBitVec.getLsbD (8 * m + j) = (r (i - 1 - m)).toBitVec.getLsbD j) → zpc (fX10_takeOwnPatch_7 f s (Int32.ofNat i)) (fun s => zQ [] [] [] [(5, 7, 7)] σ s ∧ zOwn r (s.2 5 7)) := by
    intro f
    induction f with
    | zero => intro i s _ _ _; exact zpc_none
    | succ f ih =>
      intro i s hi hd hin
      show zpc (fX10_takeOwnPatch_7_body (fX10_takeOwnPatch_7 f) s (Int32.ofNat i)) _
      unfold fX10_takeOwnPatch_7_body
      refine zpc_if (fun q => zpc_some ⟨hd, ?_⟩) (fun q => ?_)
      · have q1 := (z_ofL (k := 8) (i := i) (by omega) rfl).mp q
        obtain rfl : i = 8 := by omega
        exact fun m hm j hj => hin m hm j hj
      · have q1 : i < 8 := by
          have : ¬ 8 ≤ i := fun z => q ((z_ofL (c := 8) (k := 8) (i := i) (by omega) rfl).mpr z)
          omega
        rw [z_ofC (by omega), z_ofS (by omega)]
        have e32 : zgi s 32 i = r i := by
          show s.1 32 i = r i
          rw [hd.ro (k := 32) rfl]
          exact h i (by omega)
        rw [e32]
        refine zpc_ck (zpc_bv (fun s1 e1 => zpc_bv (fun v ev => ?_)))
        subst ev
        refine ih (i + 1) s1 (by omega) (by rw [e1]; exact zQ.wl hd rfl) (fun m hm j hj => ?_)
        rw [e1, zsl_ej, z_own1 (hb i (by omega)) (by omega)]
        by_cases z : m = 0
        · subst z
          rw [if_pos (by omega), show i + 1 - 1 - 0 = i by omega, show 8 * 0 + j = j by omega]
        · rw [if_neg (by omega), show 8 * m + j - 8 = 8 * (m - 1) + j by omega]
          have y := hin (m - 1) (by omega) j hj
          rw [show i - 1 - (m - 1) = i + 1 - 1 - m by omega] at y
          exact y
  unfold fX10_takeOwnPatch
  refine zpc_bv (fun s1 e1 => ?_)
  exact go zfuel 0 s1 (by decide) (by rw [e1]; exact zQ.wl zQ.rf rfl) (fun m hm => absurd hm (by omega))
/-- what the class holds of the channel that is being moved -/
noncomputable def zCh (r : Nat → Int32) (c : Nat) (σ : zSt) : Prop := σ.1 5 3 = Int32.ofNat c ∧ σ.1 5 4 = r (16 + c) ||| ((r (32 + c) &&& 1) <<< ((8 : Int32) &&& 31)) ∧ σ.1 5 5 = (r (32 + c) >>> ((1 : Int32) &&& 31)) &&& 7 ∧ ∀ k : Nat, k < 8 → ((zlushr (σ.2 5 6) (56 - (8 * Int32.ofNat k))).toInt32) &&& 255 = zPB r c k
theorem c_chan (h : zRc4 r σ) (hb : zRb r) (hc : c < 9) (hw : zOwn r (σ.2 5 7)) (h2 : σ.1 5 2 = if (r 14 &&& 32) = 0 then 0 else 1) : zpc (fX10_takeChannel σ (Int32.ofNat c)) (fun s => zQ [] [(5, 3, 5)] [] [(5, 6, 6)] σ s ∧ zCh r c s) := by
  unfold fX10_takeChannel fX10_takeChannel_71
  rw [show (16 + Int32.ofNat c).toNatClampNeg = 16 + c from z_atk (a := 16) (m := c) (by omega), show (32 + Int32.ofNat c).toNatClampNeg = 32 + c from z_atk (a := 32) (m := c) (by omega), show (48 + Int32.ofNat c).toNatClampNeg = 48 + c from z_atk (a := 48) (m := c) (by omega)]
  refine zpc_bv (fun s2 e2 => zpc_ck (zpc_ck (zpc_bv (fun s3 e3 => zpc_ck (zpc_bv (fun s4 e4 => ?_))))))
  have g2 : ∀ j : Nat, j < 64 → zgi s2 32 j = r j := fun j hj => by rw [e2]; exact h j hj
  have g3 : ∀ j : Nat, j < 64 → zgi s3 32 j = r j := fun j hj => by rw [e3, e2]; exact h j hj
  have g4 : ∀ j : Nat, j < 64 → zgi s4 32 j = r j := fun j hj => by rw [e4, e3, e2]; exact h j hj
  rw [g2 (16 + c) (by omega), g2 (32 + c) (by omega)] at e3
  rw [g3 (32 + c) (by omega)] at e4
  rw [g4 (48 + c) (by omega)]
  have f2 : zgi s4 5 2 = if (r 14 &&& 32) = 0 then 0 else 1 := by
    rw [e4, e3, e2]
    show (zsi (zsi (zsi σ 5 3 (Int32.ofNat c)) 5 4 (r (16 + c) ||| ((r (32 + c) &&& 1) <<< ((8 : Int32) &&& 31)))) 5 5 ((r (32 + c) >>> ((1 : Int32) &&& 31)) &&& 7)).1 5 2 = _
    rw [zsi_nj (by decide), zsi_nj (by decide), zsi_nj (by decide)]
    exact h2
  have fq : zQ [] [(5, 3, 5)] [] [(5, 6, 6)] σ s4 := by rw [e4, e3, e2]; exact zQ.wi (zQ.wi (zQ.wi zQ.rf rfl) rfl) rfl
  have f3 : s4.1 5 3 = Int32.ofNat c := by rw [e4, zsi_nj (by decide), e3, zsi_nj (by decide), e2, zsi_ej]
  have f4 : s4.1 5 4 = r (16 + c) ||| ((r (32 + c) &&& 1) <<< ((8 : Int32) &&& 31)) := by rw [e4, zsi_nj (by decide), e3, zsi_ej]
  have f5 : s4.1 5 5 = (r (32 + c) >>> ((1 : Int32) &&& 31)) &&& 7 := by rw [e4, zsi_ej]
  have f7 : s4.2 5 7 = σ.2 5 7 := by rw [e4, e3, e2]; rfl
  have go : ∀ s0 : Int32, s0 = zPsn r c → zpc (fX10_takeChannel_82 s4 s0) (fun s => zQ [] [(5, 3, 5)] [] [(5, 6, 6)] σ s ∧ zCh r c s) := fun s0 es => by
    have key : zpc (fX10_takeChannel_82 s4 s0) (fun s => s = zsl s4 5 6 (zPv (s4.2 5 7) s0)) := by
      unfold fX10_takeChannel_82 fX10_takeChannel_106 fX10_takeChannel_110 zPv
      by_cases q1 : s0 ≤ 0
      · rw [if_pos q1, if_pos q1]
        exact zpc_bv (fun s5 e5 => zpc_some e5)
      · rw [if_neg q1, if_neg q1]
        by_cases q2 : 18 < s0
        · rw [if_pos q2, if_pos q2]
          exact zpc_bv (fun s5 e5 => zpc_some e5)
        · rw [if_neg q2, if_neg q2]
          exact zpc_ck (zpc_bv (fun s5 e5 => zpc_some e5))
    refine zpc_mono key (fun s e => ?_)
    have hw' : zOwn r (s4.2 5 7) := by rw [f7]; exact hw
    refine ⟨by rw [e]; exact zQ.wl fq rfl, ?_, ?_, ?_, fun k hk => ?_⟩
    · rw [e]; exact f3
    · rw [e]; exact f4
    · rw [e]; exact f5
    · rw [e, zsl_ej, zPv_part hb hw' (by rw [es]; exact zPsn_r hb hc) hk, es]
      rfl
  rw [f2]
  have c0 : (0 : Int32).toInt = 0 := rfl
  by_cases z : (r 14 &&& 32) = 0
  · rw [if_pos z]
    refine zpc_if (fun _ => zpc_ck (go _ ?_)) (fun q => absurd rfl q)
    unfold zPsn zRy
    by_cases y : Int32.ofNat c ≤ 5
    · rw [if_pos y, if_pos rfl]
    · rw [if_neg y, if_pos z, if_pos rfl]
  · rw [if_neg z]
    refine zpc_if (fun q => absurd q (by decide)) (fun _ => zpc_if (fun q => zpc_ck (go _ ?_)) (fun q => go _ ?_))
    · have k : ∀ n : Fin 9, Int32.ofNat n.val < 6 → Int32.ofNat n.val ≤ 5 := by decide
      unfold zPsn zRy
      rw [if_pos (k ⟨c, hc⟩ q), if_pos rfl]
    · have k : ∀ n : Fin 9, ¬ Int32.ofNat n.val < 6 → ¬ Int32.ofNat n.val ≤ 5 := by decide
      unfold zPsn zRy
      rw [if_neg (k ⟨c, hc⟩ q), if_neg z, if_neg (by decide), Int32.add_comm]
/-- a byte of the patch -/
theorem c_part (h : zCh r c σ) (hk : k < 8) {x : Int32} (hx : x = Int32.ofNat k) : zpc (fX10_part σ x) (fun q => q = (σ, zPB r c k)) := by
  subst hx
  unfold fX10_part
  refine zpc_some ?_
  rw [show zgl σ 5 6 = σ.2 5 6 from rfl, h.2.2.2 k hk]
end ZWA
end ZJN7
section ZJN8
/-! WAVES: VALUES -/
section ZWB
variable {σ μ s t : zSt} {r : Nat → Int32} {c o k : Nat}
/-- is it on -/
noncomputable def zOn (r : Nat → Int32) (c o : Nat) : Int32 := if zRy r c = 0 then ((r (32 + c) >>> ((4 : Int32) &&& 31)) &&& 1) else if Int32.ofNat c = 6 then ((r (32 + c) >>> ((4 : Int32) &&& 31)) &&& 1) ||| ((r 14 >>> ((4 : Int32) &&& 31)) &&& 1) else if Int32.ofNat c = 7 then (if Int32.ofNat o = 0 then ((r (32 + c) >>> ((4 : Int32) &&& 31)) &&& 1) ||| ((r 14 >>> ((0 : Int32) &&& 31)) &&& 1) else ((r (32 + c) >>> ((4 : Int32) &&& 31)) &&& 1) ||| ((r 14 >>> ((3 : Int32) &&& 31)) &&& 1)) else (if Int32.ofNat o = 0 then ((r (32 + c) >>> ((4 : Int32) &&& 31)) &&& 1) ||| ((r 14 >>> ((2 : Int32) &&& 31)) &&& 1) else ((r (32 + c) >>> ((4 : Int32) &&& 31)) &&& 1) ||| ((r 14 >>> ((1 : Int32) &&& 31)) &&& 1))
noncomputable def zOnC (r : Nat → Int32) (c o : Nat) : Int32 := if (r (32 + c) &&& 16) = 0 then (if (if (r 14 &&& 32) = 0 then (0 : Int32) else 1) = 0 then 0 else if Int32.ofNat c = 6 then (if (r 14 &&& 16) = 0 then 0 else 1) else if Int32.ofNat c = 7 then (if Int32.ofNat o = 0 then (if (r 14 &&& 1) = 0 then 0 else 1) else (if (r 14 &&& 8) = 0 then 0 else 1)) else if Int32.ofNat c = 8 then (if Int32.ofNat o = 0 then (if (r 14 &&& 4) = 0 then 0 else 1) else (if (r 14 &&& 2) = 0 then 0 else 1)) else 0) else 1
theorem z_bt4w : ∀ n : Fin 256, (Int32.ofNat n.val >>> ((4 : Int32) &&& 31)) &&& 1 = if (Int32.ofNat n.val &&& 16) = 0 then 0 else 1 := by decide +kernel
theorem zOnC_g : ∀ (m : Fin 256) (o : Fin 2) (c : Fin 9) (B : Fin 2), (if Int32.ofNat B.val = 0 then (if (if (Int32.ofNat m.val &&& 32) = 0 then (0 : Int32) else 1) = 0 then 0 else if Int32.ofNat c.val = 6 then (if (Int32.ofNat m.val &&& 16) = 0 then 0 else 1) else if Int32.ofNat c.val = 7 then (if Int32.ofNat o.val = 0 then (if (Int32.ofNat m.val &&& 1) = 0 then 0 else 1) else (if (Int32.ofNat m.val &&& 8) = 0 then 0 else 1)) else if Int32.ofNat c.val = 8 then (if Int32.ofNat o.val = 0 then (if (Int32.ofNat m.val &&& 4) = 0 then 0 else 1) else (if (Int32.ofNat m.val &&& 2) = 0 then 0 else 1)) else 0) else (1 : Int32)) = (if (if Int32.ofNat c.val ≤ 5 then (0 : Int32) else (if (Int32.ofNat m.val &&& 32) = 0 then 0 else 1)) = 0 then Int32.ofNat B.val else if Int32.ofNat c.val = 6 then Int32.ofNat B.val ||| ((Int32.ofNat m.val >>> ((4 : Int32) &&& 31)) &&& 1) else if Int32.ofNat c.val = 7 then (if Int32.ofNat o.val = 0 then Int32.ofNat B.val ||| ((Int32.ofNat m.val >>> ((0 : Int32) &&& 31)) &&& 1) else Int32.ofNat B.val ||| ((Int32.ofNat m.val >>> ((3 : Int32) &&& 31)) &&& 1)) else (if Int32.ofNat o.val = 0 then Int32.ofNat B.val ||| ((Int32.ofNat m.val >>> ((2 : Int32) &&& 31)) &&& 1) else Int32.ofNat B.val ||| ((Int32.ofNat m.val >>> ((1 : Int32) &&& 31)) &&& 1))) := by decide +kernel
theorem zOnC_eq (hb : zRb r) (hc : c < 9) (ho : o < 2) : zOnC r c o = zOn r c o := by
  obtain ⟨m, em⟩ := z_F (m := 256) (hb 14 (by decide)) (by decide)
  obtain ⟨n, en⟩ := z_F (m := 256) (hb (32 + c) (by omega)) (by decide)
  unfold zOnC zOn zRy
  rw [en, em, z_bt4w n]
  by_cases q : (Int32.ofNat n.val &&& 16) = 0
  · simp only [if_pos q]
    have z := zOnC_g m ⟨o, ho⟩ ⟨c, hc⟩ 0
    rw [if_pos (show Int32.ofNat ((0 : Fin 2).val) = 0 from rfl)] at z
    exact z
  · simp only [if_neg q]
    have z := zOnC_g m ⟨o, ho⟩ ⟨c, hc⟩ 1
    rw [if_neg (show ¬ Int32.ofNat ((1 : Fin 2).val) = 0 by decide)] at z
    exact z
theorem zOn_r (hb : zRb r) (hc : c < 9) (ho : o < 2) : zOn r c o = 0 ∨ zOn r c o = 1 := by
  rw [← zOnC_eq hb hc ho]
  unfold zOnC
  repeat' split
  all_goals first | exact Or.inl rfl | exact Or.inr rfl
theorem m_on (h : zRm r μ) (hc : c < 9) : zpc (fX12_isOn μ (Int32.ofNat c) (Int32.ofNat o)) (fun q => q = (μ, zOn r c o)) := by
  unfold fX12_isOn fX12_isOn_60
  refine zpc_bi (m_wreg h (j := 32 + c) (by omega) (show 32 + Int32.ofNat c = Int32.ofNat (32 + c) from z_ofA (a := 32))) (fun s3 v4 q => ?_)
  cases q
  refine zpc_bv (fun v5 e5 => ?_)
  subst e5
  refine zpc_bi (m_rhy h) (fun s6 v7 q => ?_)
  cases q
  have w : ∀ (B k : Int32), zpc (zbi (fX12_wreg μ 14) (fun σ1 v2 => some (σ1, B ||| ((v2 >>> (k &&& 31)) &&& 1)))) (fun q => q = (μ, B ||| ((r 14 >>> (k &&& 31)) &&& 1))) := fun B k => zpc_bi (m_wreg h (j := 14) (by decide) rfl) (fun s v q => by cases q; exact zpc_some rfl)
  unfold zOn
  exact zpWif (fun _ => zpc_some rfl) (fun _ => zpWif (fun _ => w _ 4) (fun _ => zpWif (fun _ => zpWif (fun _ => w _ 0) (fun _ => w _ 3)) (fun _ => zpWif (fun _ => w _ 2) (fun _ => w _ 1))))
/-- the class: registers, channel -/
noncomputable def zCk (r : Nat → Int32) (c : Nat) (σ : zSt) : Prop := zRc4 r σ ∧ zCh r c σ ∧ σ.1 5 2 = if (r 14 &&& 32) = 0 then 0 else 1
theorem c_on (h : zCk r c σ) (hb : zRb r) (hc : c < 9) (ho : o < 2) : zpc (fX10_isOn σ (Int32.ofNat o)) (fun q => q = (σ, zOn r c o)) := by
  rw [← zOnC_eq hb hc ho]
  unfold fX10_isOn fX10_isOn_78 fX10_isOn_96 fX10_isOn_105 fX10_isOn_122 fX10_isOn_131 zOnC
  rw [show zgi σ 5 3 = Int32.ofNat c from h.2.1.1, show zgi σ 5 2 = (if (r 14 &&& 32) = 0 then 0 else 1) from h.2.2, show (32 + Int32.ofNat c).toNatClampNeg = 32 + c from z_atk (a := 32) (m := c) (by omega), show zgi σ 32 (32 + c) = r (32 + c) from h.1 _ (by omega), show zgi σ 32 (14 : Int32).toNatClampNeg = r 14 from h.1 14 (by decide)]
  have w : ∀ (p : Prop) (d1 d2 : Decidable p), zpc (@ite _ p d1 (zck (zbo 0) (some (σ, (0 : Int32)))) (zck (zbo 1) (some (σ, 1)))) (fun q => q = (σ, @ite _ p d2 0 1)) := fun p d1 d2 => zpWif (fun _ => zpc_ck (zpc_some rfl)) (fun _ => zpc_ck (zpc_some rfl))
  exact zpc_ck (zpWif (fun _ => zpWif (fun _ => zpc_ck (zpc_some rfl)) (fun _ => zpWif (fun _ => zpc_ck (w _ _ _)) (fun _ => zpWif (fun _ => zpc_ck (zpWif (fun _ => w _ _ _) (fun _ => w _ _ _))) (fun _ => zpWif (fun _ => zpc_ck (zpWif (fun _ => w _ _ _) (fun _ => w _ _ _))) (fun _ => zpc_ck (zpc_some rfl)))))) (fun _ => zpc_ck (zpc_some rfl)))
/-! rate -/
noncomputable def zRa7 (r : Nat → Int32) (c o : Nat) (x s0 : Int32) : Int32 := if x = 0 then 12 else if x = 1 then (zPB r c (4 + o) >>> ((4 : Int32) &&& 31)) else if x = 2 then zPB r c (4 + o) &&& 15 else if x = 3 then (if s0 = 0 then zPB r c (6 + o) &&& 15 else 0) else if (r (32 + c) &&& 32) = 0 then (if s0 = 0 then 7 else zPB r c (6 + o) &&& 15) else 5
noncomputable def zRa (r : Nat → Int32) (c o : Nat) (x : Int32) : Int32 := if (zPB r c o &&& 32) = 0 then zRa7 r c o x 0 else zRa7 r c o x 1
theorem m_rate (h : zRm r μ) (hc : c < 9) (ho : o < 2) {x : Int32} : zpc (fX12_rate μ x (Int32.ofNat c) (Int32.ofNat o)) (fun q => q = (μ, zRa r c o x)) := by
  unfold fX12_rate
  refine zpc_bi (m_pb h hc (k := o) (by omega) rfl) (fun s v q => ?_)
  cases q
  have e4 : 4 + Int32.ofNat o = Int32.ofNat (4 + o) := z_ofA (a := 4)
  have e6 : 6 + Int32.ofNat o = Int32.ofNat (6 + o) := z_ofA (a := 6)
  have go : ∀ s0, zpc (fX12_rate_17 μ x (Int32.ofNat c) (Int32.ofNat o) s0) (fun q => q = (μ, zRa7 r c o x s0)) := fun s0 => by
    unfold fX12_rate_17 fX12_rate_140 fX12_rate_99 zRa7
    refine zpWif (fun _ => zpc_some rfl) (fun _ => zpWif (fun _ => zpc_bi (m_pb h hc (k := 4 + o) (by omega) e4) (fun s v q => ?_)) (fun _ => zpWif (fun _ => zpc_bi (m_pb h hc (k := 4 + o) (by omega) e4) (fun s v q => ?_)) (fun _ => zpWif (fun _ => zpWif (fun _ => zpc_bi (m_pb h hc (k := 6 + o) (by omega) e6) (fun s v q => ?_)) (fun _ => zpc_some rfl)) (fun _ => zpc_bi (m_wreg h (j := 32 + c) (by omega) (show 32 + Int32.ofNat c = Int32.ofNat (32 + c) from z_ofA (a := 32))) (fun s v q => ?_)))))
    · cases q; exact zpc_some rfl
    · cases q; exact zpc_some rfl
    · cases q; exact zpc_some rfl
    · cases q
      refine zpWif (fun _ => zpWif (fun _ => zpc_some rfl) (fun _ => zpc_bi (m_pb h hc (k := 6 + o) (by omega) e6) (fun s v q => ?_))) (fun _ => zpc_some rfl)
      cases q; exact zpc_some rfl
  unfold zRa
  exact zpWif (fun _ => go 0) (fun _ => go 1)
theorem c_rate (h : zCk r c σ) (hc : c < 9) (ho : o < 2) {x : Int32} : zpc (fX10_rateIn σ x (Int32.ofNat o)) (fun q => q = (σ, zRa r c o x)) := by
  unfold fX10_rateIn
  refine zpc_bi (c_part h.2.1 (k := o) (by omega) rfl) (fun s v q => ?_)
  cases q
  have e4 : 4 + Int32.ofNat o = Int32.ofNat (4 + o) := z_ofA (a := 4)
  have e6 : 6 + Int32.ofNat o = Int32.ofNat (6 + o) := z_ofA (a := 6)
  have go : ∀ s0, zpc (fX10_rateIn_16 σ x (Int32.ofNat o) s0) (fun q => q = (σ, zRa7 r c o x s0)) := fun s0 => by
    unfold fX10_rateIn_16 fX10_rateIn_126 fX10_rateIn_94 zRa7
    refine zpc_bi (c_part h.2.1 (k := 6 + o) (by omega) e6) (fun s v q => ?_)
    cases q
    refine zpc_bv (fun v3 e3 => ?_)
    subst e3
    rw [show zgi σ 5 3 = Int32.ofNat c from h.2.1.1, show (32 + Int32.ofNat c).toNatClampNeg = 32 + c from z_atk (a := 32) (m := c) (by omega), show zgi σ 32 (32 + c) = r (32 + c) from h.1 _ (by omega)]
    refine zpWif (fun _ => zpc_some rfl) (fun _ => zpWif (fun _ => zpc_bi (c_part h.2.1 (k := 4 + o) (by omega) e4) (fun s v q => ?_)) (fun _ => zpWif (fun _ => zpc_bi (c_part h.2.1 (k := 4 + o) (by omega) e4) (fun s v q => ?_)) (fun _ => zpWif (fun _ => zpWif (fun _ => zpc_some rfl) (fun _ => zpc_some rfl)) (fun _ => zpc_ck (zpWif (fun _ => zpWif (fun _ => zpc_some rfl) (fun _ => zpc_some rfl)) (fun _ => zpc_some rfl))))))
    · cases q; exact zpc_some rfl
    · cases q; exact zpc_some rfl
  unfold zRa
  exact zpWif (fun _ => go 0) (fun _ => go 1)
theorem z_nib : ∀ n : Fin 256, (0 ≤ ((Int32.ofNat n.val >>> ((4 : Int32) &&& 31))).toInt ∧ ((Int32.ofNat n.val >>> ((4 : Int32) &&& 31))).toInt ≤ 15) ∧ (0 ≤ (Int32.ofNat n.val &&& 15).toInt ∧ (Int32.ofNat n.val &&& 15).toInt ≤ 15) := by decide +kernel
theorem zRa_r (hb : zRb r) (hc : c < 9) (ho : o < 2) {x : Int32} : zr 0 15 (zRa r c o x) := by
  have n1 : ∀ k : Nat, k < 8 → zr 0 15 ((zPB r c k) >>> ((4 : Int32) &&& 31)) ∧ zr 0 15 (zPB r c k &&& 15) := fun k hk => by
    obtain ⟨n, e⟩ := z_F (m := 256) (zPB_r hb hc hk) (by decide)
    rw [e]
    exact z_nib n
  have a4 := n1 (4 + o) (by omega)
  have a6 := n1 (6 + o) (by omega)
  have key : ∀ s0 : Int32, zr 0 15 (zRa7 r c o x s0) := fun s0 => by
    unfold zRa7
    by_cases h0 : x = 0
    · rw [if_pos h0]; exact zr_c (by decide)
    rw [if_neg h0]
    by_cases h1 : x = 1
    · rw [if_pos h1]; exact a4.1
    rw [if_neg h1]
    by_cases h2 : x = 2
    · rw [if_pos h2]; exact a4.2
    rw [if_neg h2]
    by_cases h3 : x = 3
    · rw [if_pos h3]
      by_cases h4 : s0 = 0
      · rw [if_pos h4]; exact a6.2
      · rw [if_neg h4]; exact zr_c (by decide)
    rw [if_neg h3]
    by_cases h5 : (r (32 + c) &&& 32) = 0
    · rw [if_pos h5]
      by_cases h4 : s0 = 0
      · rw [if_pos h4]; exact zr_c (by decide)
      · rw [if_neg h4]; exact a6.2
    · rw [if_neg h5]; exact zr_c (by decide)
  unfold zRa
  by_cases q : (zPB r c o &&& 32) = 0
  · rw [if_pos q]; exact key 0
  · rw [if_neg q]; exact key 1
/-! f, block, key -/
noncomputable def zFq (r : Nat → Int32) (c : Nat) : Int32 := r (16 + c) ||| ((r (32 + c) &&& 1) <<< ((8 : Int32) &&& 31))
noncomputable def zBkw (r : Nat → Int32) (c : Nat) : Int32 := (r (32 + c) >>> ((1 : Int32) &&& 31)) &&& 7
theorem m_f (h : zRm r μ) (hc : c < 9) : zpc (fX12_f μ (Int32.ofNat c)) (fun q => q = (μ, zFq r c)) := by
  unfold fX12_f
  refine zpc_bi (m_wreg h (j := 16 + c) (by omega) (show 16 + Int32.ofNat c = Int32.ofNat (16 + c) from z_ofA (a := 16))) (fun s v q => ?_)
  cases q
  refine zpc_bi (m_wreg h (j := 32 + c) (by omega) (show 32 + Int32.ofNat c = Int32.ofNat (32 + c) from z_ofA (a := 32))) (fun s v q => ?_)
  cases q
  exact zpc_some rfl
theorem m_blk (h : zRm r μ) (hc : c < 9) : zpc (fX12_block μ (Int32.ofNat c)) (fun q => q = (μ, zBkw r c)) := by
  unfold fX12_block
  refine zpc_bi (m_wreg h (j := 32 + c) (by omega) (show 32 + Int32.ofNat c = Int32.ofNat (32 + c) from z_ofA (a := 32))) (fun s v q => ?_)
  cases q
  exact zpc_some rfl
theorem z_f9 : ∀ n : Fin 256, (0 ≤ (Int32.ofNat n.val ||| ((0 : Int32) <<< ((8 : Int32) &&& 31))).toInt ∧ (Int32.ofNat n.val ||| ((0 : Int32) <<< ((8 : Int32) &&& 31))).toInt ≤ 511) ∧ (0 ≤ (Int32.ofNat n.val ||| ((1 : Int32) <<< ((8 : Int32) &&& 31))).toInt ∧ (Int32.ofNat n.val ||| ((1 : Int32) <<< ((8 : Int32) &&& 31))).toInt ≤ 511) := by decide +kernel
theorem z_lo1 : ∀ n : Fin 256, Int32.ofNat n.val &&& 1 = 0 ∨ Int32.ofNat n.val &&& 1 = 1 := by decide +kernel
theorem zFq_r (hb : zRb r) (hc : c < 9) : zr 0 511 (zFq r c) := by
  obtain ⟨n, en⟩ := z_F (m := 256) (hb (16 + c) (by omega)) (by decide)
  obtain ⟨m, em⟩ := z_F (m := 256) (hb (32 + c) (by omega)) (by decide)
  unfold zFq
  rw [en, em]
  rcases z_lo1 m with z | z
  · rw [z]; exact (z_f9 n).1
  · rw [z]; exact (z_f9 n).2
theorem z_bk7 : ∀ n : Fin 256, 0 ≤ ((Int32.ofNat n.val >>> ((1 : Int32) &&& 31)) &&& 7).toInt ∧ ((Int32.ofNat n.val >>> ((1 : Int32) &&& 31)) &&& 7).toInt ≤ 7 := by decide +kernel
theorem zBk_r (hb : zRb r) (hc : c < 9) : zr 0 7 (zBkw r c) := by
  obtain ⟨m, em⟩ := z_F (m := 256) (hb (32 + c) (by omega)) (by decide)
  unfold zBkw
  rw [em]
  exact z_bk7 m
theorem z_f256 {x : Int32} (h : zr 0 511 x) : (x >>> ((8 : Int32) &&& 31)) = x / 256 ∧ zr 0 1 (x / 256) := by
  obtain ⟨n, e⟩ := z_F (m := 512) h (by decide)
  have k : ∀ n : Fin 512, (Int32.ofNat n.val >>> ((8 : Int32) &&& 31)) = Int32.ofNat n.val / 256 ∧ (0 ≤ (Int32.ofNat n.val / 256).toInt ∧ (Int32.ofNat n.val / 256).toInt ≤ 1) := by decide +kernel
  rw [e]
  exact k n
/-- the key, parted by four where the patch says so -/
noncomputable def zKey (r : Nat → Int32) (c o : Nat) : Int32 := if (zPB r c o &&& 16) = 0 then ((2 * zBkw r c) + (zFq r c / 256)) / 4 else (2 * zBkw r c) + (zFq r c / 256)
theorem z_k15 : ∀ (a : Fin 8) (b : Fin 2), (0 ≤ ((2 * Int32.ofNat a.val) + Int32.ofNat b.val).toInt ∧ ((2 * Int32.ofNat a.val) + Int32.ofNat b.val).toInt ≤ 15) ∧ (0 ≤ (((2 * Int32.ofNat a.val) + Int32.ofNat b.val) / 4).toInt ∧ (((2 * Int32.ofNat a.val) + Int32.ofNat b.val) / 4).toInt ≤ 15) := by decide +kernel
theorem zKey_r (hb : zRb r) (hc : c < 9) : zr 0 15 (zKey r c o) := by
  obtain ⟨a, ea⟩ := z_F (m := 8) (zBk_r hb hc) (by decide)
  obtain ⟨b, eb⟩ := z_F (m := 2) (z_f256 (zFq_r hb hc)).2 (by decide)
  unfold zKey
  rw [ea, eb]
  split
  · exact (z_k15 a b).2
  · exact (z_k15 a b).1
end ZWB
end ZJN8
section ZJN9
/-! WAVES: TICKS, LEVEL -/
section ZWC
variable {σ μ s t : zSt} {r : Nat → Int32} {c o m h l : Nat}
noncomputable def zTi9 (i l : Int32) : Int32 := if l ≤ 1 then 0 else if i = 2 then 1 else if i = 6 then 1 else 0
noncomputable def zTiw (i l : Int32) : Int32 := if zrem i 2 = 1 then 1 else if zrem l 2 = 1 then (if i = 4 then 1 else zTi9 i l) else zTi9 i l
theorem m_t {i l : Int32} : zpc (fX12_t μ i l) (fun q => q = (μ, zTiw i l)) := by
  have g : zpc (fX12_t_19 μ i l) (fun q => q = (μ, zTi9 i l)) := by
    unfold fX12_t_19 fX12_t_39 fX12_t_35 fX12_t_40 zTi9
    exact zpWif (fun _ => zpc_some rfl) (fun _ => zpWif (fun _ => zpc_some rfl) (fun _ => zpWif (fun _ => zpc_some rfl) (fun _ => zpc_some rfl)))
  unfold fX12_t fX12_t_35 fX12_t_40 zTiw
  exact zpc_ck (zpWif (fun _ => zpc_some rfl) (fun _ => zpc_ck (zpWif (fun _ => zpWif (fun _ => zpc_some rfl) (fun _ => g)) (fun _ => g))))
theorem z_tick : ∀ (i : Fin 8) (l : Fin 4), (zt6 l.val >>> (Int32.ofNat i.val &&& 31)) &&& 1 = zTiw (Int32.ofNat i.val) (Int32.ofNat l.val) := by decide +kernel
theorem zTi_01 {i l : Int32} : zTiw i l = 0 ∨ zTiw i l = 1 := by
  unfold zTiw zTi9
  repeat' split
  all_goals first | exact Or.inl rfl | exact Or.inr rfl
theorem zNn_i (hm : m ≤ 1000000000) : (Int32.ofNat m).toInt = (m : Int) := Int32.toInt_ofNat_of_lt (by omega)
theorem zNn_q (hm : m ≤ 1000000000) {sh : Int32} {e : Nat} (hs : (sh.toBitVec.smod 32).toNat = e) : Int32.ofNat m >>> sh = Int32.ofNat (m / 2 ^ e) := by
  refine z_ofN ?_
  rw [z_quo (by rw [zNn_i hm]; omega) hs, zNn_i hm]
  exact (Int.natCast_ediv m (2 ^ e)).symm
theorem zNn_a (hm : m ≤ 1000000000) {ma : Int32} {e : Nat} (he : e < 31) (hs : ma.toBitVec.toNat = 2 ^ e - 1) : Int32.ofNat m &&& ma = Int32.ofNat (m % 2 ^ e) := by
  refine z_ofN ?_
  rw [z_mask (by rw [zNn_i hm]; omega) hs he, zNn_i hm]
  exact (Int.natCast_emod m (2 ^ e)).symm
theorem zNn_o {a : Nat} (ha : a ≤ 1000000000) : Int32.ofNat a = 0 ↔ a = 0 := by
  constructor
  · intro z
    have y := congrArg Int32.toInt z
    rw [zNn_i ha, show (0 : Int32).toInt = 0 from rfl] at y
    omega
  · intro z
    rw [z]
    rfl
/-- the slow count -/
noncomputable def zUu (m : Nat) : Int32 := Int32.ofNat (2 * (m / 4 % 4))
theorem z_u4 : ∀ v : Fin 4, 2 * Int32.ofNat v.val = Int32.ofNat (2 * v.val) ∧ (2 * Int64.ofNat v.val).toInt32 = Int32.ofNat (2 * v.val) := by decide +kernel
theorem z_of64 {x : Int64} {v : Nat} (h : x.toInt = (v : Int)) (hv : v < 1000000) : x = Int64.ofNat v := Int64.toInt_inj.mp (by rw [h, Int64.toInt_ofNat_of_lt (by omega)])
theorem c_slow (hn : σ.1 32 66 = Int32.ofNat m) (hm : m ≤ 1000000000) : zpc (fX10_slowTick σ ) (fun q => q = (σ, zUu m)) := by
  unfold fX10_slowTick
  rw [show zgi σ 32 (66 : Int32).toNatClampNeg = Int32.ofNat m from hn, zNn_q hm (e := 2) (by decide), zNn_a (m := m / 2 ^ 2) (e := 2) (by omega) (by decide) (by decide)]
  refine zpc_ck (zpc_some ?_)
  have z := (z_u4 ⟨m / 2 ^ 2 % 2 ^ 2, by omega⟩).1
  unfold zUu
  rw [show m / 4 % 4 = m / 2 ^ 2 % 2 ^ 2 from rfl, ← z]
theorem m_slow {L : Int64} (hL : L.toInt = (m : Int)) (hm : m ≤ 1000000000) : (2 * (zreml (L / 4) 4)).toInt32 = zUu m := by
  have d := z_tldiv (x := L) (y := 4) (a := 0) (b := 1000000000) 4 rfl ⟨by omega, by omega⟩ (by decide)
  have e := z_tlrem (x := L / 4) (y := 4) (a := 0) (b := 1000000000) 4 rfl ⟨by rw [d]; omega, by rw [d]; omega⟩ (by decide)
  have f : zreml (L / 4) 4 = Int64.ofNat (m / 4 % 4) := z_of64 (by rw [e, d, hL]; omega) (by omega)
  rw [f, (z_u4 ⟨m / 4 % 4, by omega⟩).2]
  rfl
/-- the tick that comes at h -/
noncomputable def zTkw (m h l : Nat) : Int32 := if m % 2 ^ (13 - h) = 0 then zTiw (Int32.ofNat (m / 2 ^ (13 - h) % 8)) (Int32.ofNat l) else 0
theorem z_h13 : ∀ h : Fin 13, ((1 <<< ((13 - Int32.ofNat h.val) &&& 31)) - 1 : Int32).toBitVec.toNat = 2 ^ (13 - h.val) - 1 ∧ (((13 - Int32.ofNat h.val) &&& 31 : Int32).toBitVec.smod 32).toNat = 13 - h.val ∧ (zlshl 1 (13 - Int32.ofNat h.val)).toInt = ((2 ^ (13 - h.val) : Nat) : Int) := by decide +kernel
theorem z_pw : ∀ h : Fin 13, 0 < 2 ^ (13 - h.val) ∧ 2 ^ (13 - h.val) ≤ 8192 := by decide
theorem c_tick (hn : σ.1 32 66 = Int32.ofNat m) (hm : m ≤ 1000000000) (hh : h < 13) (hl : l < 4) : zpc (fX10_tickAt σ (Int32.ofNat h) (zt6 l)) (fun q => q = (σ, zTkw m h l)) := by
  obtain ⟨f1, f2, _⟩ := z_h13 ⟨h, hh⟩
  obtain ⟨p1, p2⟩ := z_pw ⟨h, hh⟩
  have f1 : ((1 <<< ((13 - Int32.ofNat h) &&& 31)) - 1 : Int32).toBitVec.toNat = 2 ^ (13 - h) - 1 := f1
  have f2 : (((13 - Int32.ofNat h) &&& 31 : Int32).toBitVec.smod 32).toNat = 13 - h := f2
  have dl : m / 2 ^ (13 - h) ≤ 1000000000 := Nat.le_trans (Nat.div_le_self _ _) hm
  have ml : m % 2 ^ (13 - h) ≤ 1000000000 := Nat.le_trans (Nat.mod_le _ _) hm
  unfold fX10_tickAt fX10_tickAt_26 fX10_tickAt_53 zTkw
  refine zpc_bv (fun v1 e1 => ?_)
  subst e1
  rw [show zgi σ 32 (66 : Int32).toNatClampNeg = Int32.ofNat m from hn, zNn_a hm (by omega) f1, zNn_q hm f2, zNn_a (m := m / 2 ^ (13 - h)) (e := 3) dl (by decide) (by decide)]
  refine zpc_ck ?_
  by_cases q : m % 2 ^ (13 - h) = 0
  · rw [if_pos q, if_pos ((zNn_o ml).mpr q)]
    refine zpc_if (fun z => absurd z (by decide)) (fun _ => zpc_ck (zpc_some ?_))
    rw [show m / 2 ^ (13 - h) % 2 ^ 3 = m / 2 ^ (13 - h) % 8 from rfl]
    have z := z_tick ⟨m / 2 ^ (13 - h) % 8, by omega⟩ ⟨l, hl⟩
    have z : (zt6 l >>> (Int32.ofNat (m / 2 ^ (13 - h) % 8) &&& 31)) &&& 1 = zTiw (Int32.ofNat (m / 2 ^ (13 - h) % 8)) (Int32.ofNat l) := z
    rw [z]
  · rw [if_neg q, if_neg (fun z => q ((zNn_o ml).mp z))]
    exact zpc_if (fun _ => zpc_some rfl) (fun z => absurd rfl z)
/-- the same count of the reference -/
theorem m_tick {L : Int64} (hL : L.toInt = (m : Int)) (hm : m ≤ 1000000000) (hh : h < 13) : (lg_cmp (zreml L (zlshl 1 (13 - Int32.ofNat h))) 0 = 0 ↔ m % 2 ^ (13 - h) = 0) ∧ (zreml (L / (zlshl 1 (13 - Int32.ofNat h))) 8).toInt32 = Int32.ofNat (m / 2 ^ (13 - h) % 8) := by
  obtain ⟨_, _, f3⟩ := z_h13 ⟨h, hh⟩
  obtain ⟨p1, p2⟩ := z_pw ⟨h, hh⟩
  have f3 : (zlshl 1 (13 - Int32.ofNat h)).toInt = ((2 ^ (13 - h) : Nat) : Int) := f3
  have p1 : 0 < 2 ^ (13 - h) := p1
  have d := z_tldiv (x := L) (a := 0) (b := 1000000000) _ f3 ⟨by omega, by omega⟩ ⟨by decide, by exact_mod_cast p1⟩
  have e := z_tlrem (x := L) (a := 0) (b := 1000000000) _ f3 ⟨by omega, by omega⟩ ⟨by decide, by exact_mod_cast p1⟩
  rw [hL, ← Int.natCast_ediv] at d
  rw [hL, ← Int.natCast_emod] at e
  refine ⟨?_, ?_⟩
  · generalize m % 2 ^ (13 - h) = E at e ⊢
    rw [z_cmp_eq]
    constructor
    · intro z
      rw [z, show (0 : Int64).toInt = 0 from rfl] at e
      omega
    · intro z
      rw [z] at e
      exact Int64.toInt_inj.mp e
  · have dl : m / 2 ^ (13 - h) ≤ 1000000000 := Nat.le_trans (Nat.div_le_self _ _) hm
    generalize m / 2 ^ (13 - h) = D at d dl ⊢
    have g := z_tlrem (x := L / (zlshl 1 (13 - Int32.ofNat h))) (y := 8) (a := 0) (b := 1000000000) 8 rfl ⟨by rw [d]; omega, by rw [d]; omega⟩ (by decide)
    refine z_ofN ?_
    rw [Int64.toInt_toInt32, g, d, Int.bmod_eq_of_le (by omega) (by omega)]
    omega
/-! the level -/
/-- u, and the odd one behind it -/
noncomputable def zLn2 (m h l : Nat) (v x : Int32) : Int32 := if x = 1 then (if h = 15 then 0 else if h < 12 then (if zTkw m h l = 1 then (v - (v / 16)) - 1 else v) else (v - (v >>> (((16 - Int32.ofNat h) - zTiw (zUu m) (Int32.ofNat l)) &&& 31))) - 1) else v + (if h = 13 then zTiw (Int32.ofNat (2 * (m / 4 % 4) + m % 2)) (Int32.ofNat l) else if h = 14 then zTiw (zUu m) (Int32.ofNat l) + 1 else if h = 15 then 2 else zTkw m h l)
/-- the level, held within its bounds -/
noncomputable def zLn3 (m h l : Nat) (v x : Int32) : Int32 := if x = 1 then zmax 0 (zLn2 m h l v x) else zmin 127 (zLn2 m h l v x)
theorem z_u8 : ∀ (v : Fin 4) (b : Fin 2) (l : Fin 4), (zt6 l.val >>> (Int32.ofNat (2 * v.val) &&& 31)) &&& 1 = zTiw (Int32.ofNat (2 * v.val)) (Int32.ofNat l.val) ∧ (zt6 l.val >>> ((Int32.ofNat (2 * v.val) + Int32.ofNat b.val) &&& 31)) &&& 1 = zTiw (Int32.ofNat (2 * v.val + b.val)) (Int32.ofNat l.val) := by decide +kernel
theorem z_hq : ∀ h : Fin 16, (Int32.ofNat h.val = 15 ↔ h.val = 15) ∧ (Int32.ofNat h.val = 14 ↔ h.val = 14) ∧ (Int32.ofNat h.val = 13 ↔ h.val = 13) ∧ (Int32.ofNat h.val < 12 ↔ h.val < 12) ∧ (12 ≤ Int32.ofNat h.val ↔ ¬ h.val < 12) ∧ (13 ≤ Int32.ofNat h.val ↔ ¬ h.val < 13) := by decide
theorem c_louder (hn : σ.1 32 66 = Int32.ofNat m) (hm : m ≤ 1000000000) (hh : h < 16) (hl : l < 4) {v : Int32} : zpc (fX10_louder σ v (Int32.ofNat h) (zt6 l)) (fun q => q = (σ, zLn2 m h l v 1)) := by
  obtain ⟨h15, _, _, h12, _, _⟩ := z_hq ⟨h, hh⟩
  have h15 : Int32.ofNat h = 15 ↔ h = 15 := h15
  have h12 : Int32.ofNat h < 12 ↔ h < 12 := h12
  have u1 := (z_u8 ⟨m / 4 % 4, by omega⟩ 0 ⟨l, hl⟩).1
  have u1 : (zt6 l >>> (zUu m &&& 31)) &&& 1 = zTiw (zUu m) (Int32.ofNat l) := u1
  unfold fX10_louder fX10_louder_56 zLn2
  rw [if_pos rfl]
  by_cases q : h = 15
  · rw [if_pos q, if_pos (h15.mpr q)]
    exact zpc_some rfl
  rw [if_neg q, if_neg (fun z => q (h15.mp z))]
  by_cases y : h < 12
  · rw [if_pos y, if_pos (h12.mpr y)]
    refine zpc_bi (c_tick hn hm (by omega) hl) (fun s v q => ?_)
    cases q
    exact zpWif (fun _ => zpc_ck (zpc_some rfl)) (fun _ => zpc_some rfl)
  · rw [if_neg y, if_neg (fun z => y (h12.mp z))]
    refine zpc_bi (c_slow hn hm) (fun s v q => ?_)
    cases q
    rw [u1]
    exact zpc_some rfl
theorem c_softer (hn : σ.1 32 66 = Int32.ofNat m) (hm : m ≤ 1000000000) (hh : h < 16) (hl : l < 4) : zpc (fX10_softer σ (Int32.ofNat h) (zt6 l)) (fun q => q = (σ, if h = 13 then zTiw (Int32.ofNat (2 * (m / 4 % 4) + m % 2)) (Int32.ofNat l) else if h = 14 then zTiw (zUu m) (Int32.ofNat l) + 1 else if h = 15 then 2 else zTkw m h l)) := by
  obtain ⟨h15, h14, h13, _, _, _⟩ := z_hq ⟨h, hh⟩
  have h15 : Int32.ofNat h = 15 ↔ h = 15 := h15
  have h14 : Int32.ofNat h = 14 ↔ h = 14 := h14
  have h13 : Int32.ofNat h = 13 ↔ h = 13 := h13
  have u1 := (z_u8 ⟨m / 4 % 4, by omega⟩ 0 ⟨l, hl⟩).1
  have u1 : (zt6 l >>> (zUu m &&& 31)) &&& 1 = zTiw (zUu m) (Int32.ofNat l) := u1
  have u2 := (z_u8 ⟨m / 4 % 4, by omega⟩ ⟨m % 2, by omega⟩ ⟨l, hl⟩).2
  have u2 : (zt6 l >>> ((zUu m + Int32.ofNat (m % 2)) &&& 31)) &&& 1 = zTiw (Int32.ofNat (2 * (m / 4 % 4) + m % 2)) (Int32.ofNat l) := u2
  unfold fX10_softer
  by_cases q : h = 13
  · rw [if_pos q, if_pos (h13.mpr q)]
    refine zpc_bi (c_slow hn hm) (fun s v q => ?_)
    cases q
    rw [show zgi σ 32 (66 : Int32).toNatClampNeg = Int32.ofNat m from hn, zNn_a hm (e := 1) (by decide) (by decide), show m % 2 ^ 1 = m % 2 from rfl, u2]
    exact zpc_ck (zpc_some rfl)
  rw [if_neg q, if_neg (fun z => q (h13.mp z))]
  by_cases q2 : h = 14
  · rw [if_pos q2, if_pos (h14.mpr q2)]
    refine zpc_bi (c_slow hn hm) (fun s v q => ?_)
    cases q
    rw [u1]
    exact zpc_some rfl
  rw [if_neg q2, if_neg (fun z => q2 (h14.mp z))]
  by_cases q3 : h = 15
  · rw [if_pos q3, if_pos (h15.mpr q3)]
    exact zpc_some rfl
  rw [if_neg q3, if_neg (fun z => q3 (h15.mp z))]
  refine zpc_bi (c_tick hn hm (by omega) hl) (fun s v q => ?_)
  cases q
  exact zpc_some rfl
end ZWC
end ZJN9
section ZJN10
/-! WAVES: A LEVEL MOVES -/
section ZWD
variable {σ μ s t : zSt} {r : Nat → Int32} {c o m h l a k A : Nat}
noncomputable def zHh (a k : Nat) : Nat := if a + k / 4 ≤ 15 then a + k / 4 else 15
theorem z_hh : ∀ (a k : Fin 16), zmin 15 (Int32.ofNat a.val + (Int32.ofNat k.val / 4)) = Int32.ofNat (zHh a.val k.val) ∧ (if Int32.ofNat a.val + (Int32.ofNat k.val / 4) ≤ 15 then Int32.ofNat a.val + (Int32.ofNat k.val / 4) else (15 : Int32)) = Int32.ofNat (zHh a.val k.val) := by decide +kernel
theorem z_kk : ∀ k : Fin 16, (Int32.ofNat k.val &&& 3).toNatClampNeg = k.val % 4 ∧ zrem (Int32.ofNat k.val) 4 = Int32.ofNat (k.val % 4) := by decide +kernel
theorem zHh_r (a k : Nat) : zHh a k < 16 := by
  unfold zHh
  split <;> omega
theorem z_mx {v : Int32} : (if 0 ≤ v then v else 0) = zmax 0 v := by
  unfold zmax
  by_cases q : (0 : Int32) < v
  · rw [if_pos q, if_pos (Int32.le_iff_toInt_le.mpr (Int.le_of_lt (Int32.lt_iff_toInt_lt.mp q)))]
  · rw [if_neg q]
    by_cases y : (0 : Int32) ≤ v
    · rw [if_pos y]
      have y1 := Int32.le_iff_toInt_le.mp y
      have q1 := Int32.le_iff_toInt_le.mp (z_nlt q)
      exact Int32.toInt_inj.mp (by omega)
    · rw [if_neg y]
theorem z_mn {v : Int32} : (if v ≤ 127 then v else 127) = zmin 127 v := by
  unfold zmin
  by_cases q : v < (127 : Int32)
  · rw [if_pos q, if_pos (Int32.le_iff_toInt_le.mpr (Int.le_of_lt (Int32.lt_iff_toInt_lt.mp q)))]
  · rw [if_neg q]
    by_cases y : v ≤ (127 : Int32)
    · rw [if_pos y]
      have y1 := Int32.le_iff_toInt_le.mp y
      have q1 := Int32.le_iff_toInt_le.mp (z_nlt q)
      exact Int32.toInt_inj.mp (by omega)
    · rw [if_neg y]
theorem c_52 (hn : σ.1 32 66 = Int32.ofNat m) (hm : m ≤ 1000000000) (ha : a < 16) (hk : k < 16) (hA : A < 300) : zpc (fX10_moveLevel_52 σ (Int32.ofNat A) (Int32.ofNat a) (Int32.ofNat k)) (fun s => s = zsi σ 32 A (zLn3 m (zHh a k) (k % 4) (σ.1 32 A) (σ.1 32 (A + 1)))) := by
  have e1 := (z_hh ⟨a, ha⟩ ⟨k, hk⟩).1
  have e1 : zmin 15 (Int32.ofNat a + (Int32.ofNat k / 4)) = Int32.ofNat (zHh a k) := e1
  have e2 := (z_kk ⟨k, hk⟩).1
  have e2 : (Int32.ofNat k &&& 3).toNatClampNeg = k % 4 := e2
  have i0 : (Int32.ofNat A + 0).toNatClampNeg = A := z_atk (m := 0) (by omega)
  have i1 : (Int32.ofNat A + 1).toNatClampNeg = A + 1 := z_atk (m := 1) (by omega)
  unfold fX10_moveLevel_52 fX10_moveLevel_148
  rw [e1, e2, i0, i1]
  refine zpc_ck (zpc_bv (fun v1 f1 => zpc_ck (zpc_bv (fun v2 f2 => zpc_ck ?_))))
  subst f1
  subst f2
  unfold zLn3
  by_cases q : σ.1 32 (A + 1) = 1
  · rw [if_pos q]
    refine zpc_if (fun _ => zpc_ck (zpc_bi (c_louder hn hm (zHh_r a k) (by omega)) (fun s6 v7 e => ?_))) (fun z => absurd q z)
    cases e
    refine zpc_ck (zpc_bv (fun s8 e8 => zpc_some ?_))
    rw [e8, q]
    rfl
  · rw [if_neg q]
    refine zpc_if (fun z => absurd z q) (fun _ => zpc_ck (zpc_bi (c_softer hn hm (zHh_r a k) (by omega)) (fun s3 v4 e => ?_)))
    cases e
    refine zpc_ck (zpc_bv (fun s5 e5 => zpc_some ?_))
    rw [e5]
    unfold zLn2
    rw [if_neg q]
    rfl
theorem c_lvl (hc : zCk r c σ) (h9 : c < 9) (ho : o < 2) (hb : zRb r) (hn : σ.1 32 66 = Int32.ofNat m) (hm : m ≤ 1000000000) (ea : zRa r c o (σ.1 32 (A + 1)) = Int32.ofNat a) (ha : a < 16) (ek : zKey r c o = Int32.ofNat k) (hk : k < 16) (hA : A < 300) : zpc (fX10_moveLevel σ (Int32.ofNat A) (Int32.ofNat o)) (fun s => s = if Int32.ofNat a = 0 then σ else zsi σ 32 A (zLn3 m (zHh a k) (k % 4) (σ.1 32 A) (σ.1 32 (A + 1)))) := by
  have i1 : (Int32.ofNat A + 1).toNatClampNeg = A + 1 := z_atk (m := 1) (by omega)
  unfold fX10_moveLevel
  rw [i1]
  refine zpc_ck (zpc_bi (c_rate hc h9 ho) (fun s9 v10 e => ?_))
  cases e
  rw [show zgi σ 32 (A + 1) = σ.1 32 (A + 1) from rfl, ea]
  by_cases q : Int32.ofNat a = 0
  · rw [if_pos q, if_pos q]
    exact zpc_some rfl
  · rw [if_neg q, if_neg q]
    refine zpc_bv (fun v11 e11 => zpc_bi (c_part hc.2.1 (k := o) (by omega) rfl) (fun s12 v13 e => ?_))
    cases e
    have g : v11 = (2 * zBkw r c) + (zFq r c / 256) := by
      rw [e11, show zgi σ 5 5 = zBkw r c from hc.2.1.2.2.1, show zgi σ 5 4 = zFq r c from hc.2.1.2.1, (z_f256 (zFq_r hb h9)).1]
    unfold zKey at ek
    by_cases y : (zPB r c o &&& 16) = 0
    · rw [if_pos y] at ek
      refine zpc_if (fun _ => zpc_ck (zpc_bv (fun v14 e14 => ?_))) (fun z => absurd y z)
      rw [e14, g, ek]
      exact c_52 hn hm ha hk hA
    · rw [if_neg y] at ek
      refine zpc_if (fun z => absurd z y) (fun _ => ?_)
      rw [g, ek]
      exact c_52 hn hm ha hk hA
/-! the reference -/
theorem m_159 {L : Int64} (hL : L.toInt = (m : Int)) (hm : m ≤ 1000000000) (hh : h < 16) (hA : A < 1000) {x w : Int32} (hw : h < 13 → w = zTkw m h l) : zpc (fX12_envelope_159 μ (Int32.ofNat A) x (Int32.ofNat h) (Int32.ofNat l) L w) (fun t => t = zsi μ 3 A (zLn3 m h l (μ.1 3 A) x)) := by
  obtain ⟨h15, h14, h13, _, h12, h13'⟩ := z_hq ⟨h, hh⟩
  have h15 : Int32.ofNat h = 15 ↔ h = 15 := h15
  have h14 : Int32.ofNat h = 14 ↔ h = 14 := h14
  have h13 : Int32.ofNat h = 13 ↔ h = 13 := h13
  have h12 : 12 ≤ Int32.ofNat h ↔ ¬ h < 12 := h12
  have h13' : 13 ≤ Int32.ofNat h ↔ ¬ h < 13 := h13'
  have iA : (Int32.ofNat A).toNatClampNeg = A := z_ofC (by omega)
  have odd : (zreml L 2).toInt32 = Int32.ofNat (m % 2) := by
    have e := z_tlrem (x := L) (y := 2) (a := 0) (b := 1000000000) 2 rfl ⟨by omega, by omega⟩ (by decide)
    refine z_ofN ?_
    rw [Int64.toInt_toInt32, e, hL, Int.bmod_eq_of_le (by omega) (by omega)]
    omega
  have w275 : ∀ v : Int32, zpc (fX12_envelope_259 μ (Int32.ofNat A) v) (fun t => t = zsi μ 3 A (zmax 0 v)) := fun v => by
    unfold fX12_envelope_259 fX12_envelope_275
    rw [iA, ← z_mx]
    by_cases q : 0 ≤ v
    · rw [if_pos q, if_pos q]
      exact zpc_ck (zpc_bv (fun s e => zpc_some e))
    · rw [if_neg q, if_neg q]
      exact zpc_ck (zpc_bv (fun s e => zpc_some e))
  have w336 : ∀ v u : Int32, zpc (fX12_envelope_336 μ (Int32.ofNat A) v u) (fun t => t = zsi μ 3 A (zmin 127 (u + v))) := fun v u => by
    unfold fX12_envelope_336 fX12_envelope_358
    refine zpc_bv (fun v3 e3 => ?_)
    subst e3
    rw [iA, ← z_mn]
    by_cases q : u + v ≤ 127
    · rw [if_pos q, if_pos q]
      exact zpc_ck (zpc_bv (fun s e => zpc_some e))
    · rw [if_neg q, if_neg q]
      exact zpc_ck (zpc_bv (fun s e => zpc_some e))
  unfold fX12_envelope_159 fX12_envelope_257 fX12_envelope_220
  rw [iA, m_slow hL hm, odd]
  refine zpc_ck (zpc_ck (zpc_bv (fun v4 e4 => zpc_ck (zpc_bv (fun v5 e5 => ?_)))))
  subst e4
  subst e5
  unfold zLn3
  by_cases q : x = 1
  · rw [if_pos q, if_pos q]
    unfold zLn2
    rw [if_pos q]
    by_cases y : h < 12
    · rw [if_neg (fun z => (h12.mp z) y), if_neg (show ¬ h = 15 by omega), if_pos y, hw (by omega)]
      by_cases z : zTkw m h l = 1
      · rw [if_pos z, if_pos z]
        exact zpc_ck (w275 _)
      · rw [if_neg z, if_neg z]
        exact w275 _
    · rw [if_pos (h12.mpr y)]
      by_cases z : h = 15
      · rw [if_pos (h15.mpr z), if_pos z]
        exact w275 _
      · rw [if_neg (fun u => z (h15.mp u)), if_neg z, if_neg y]
        refine zpc_bi m_t (fun s10 v11 e => ?_)
        cases e
        exact w275 _
  · rw [if_neg q, if_neg q]
    unfold zLn2
    rw [if_neg q]
    by_cases y : h < 13
    · rw [if_neg (fun z => (h13'.mp z) y), if_neg (show ¬ h = 13 by omega), if_neg (show ¬ h = 14 by omega), if_neg (show ¬ h = 15 by omega), hw y]
      exact w336 _ _
    · rw [if_pos (h13'.mpr y)]
      by_cases z : h = 13
      · rw [if_pos (h13.mpr z), if_pos z]
        refine zpc_ck (zpc_bi m_t (fun s8 v9 e => ?_))
        cases e
        rw [show zUu m + Int32.ofNat (m % 2) = Int32.ofNat (2 * (m / 4 % 4) + m % 2) from z_ofA]
        exact w336 _ _
      · rw [if_neg (fun u => z (h13.mp u)), if_neg z]
        by_cases z2 : h = 14
        · rw [if_pos (h14.mpr z2), if_pos z2]
          refine zpc_bi m_t (fun s8 v9 e => ?_)
          cases e
          exact w336 _ _
        · rw [if_neg (fun u => z2 (h14.mp u)), if_neg z2, if_pos (show h = 15 by omega)]
          exact w336 _ _
theorem m_63 (hL : (μ.2 4 4).toInt = (m : Int)) (hm : m ≤ 1000000000) (ha : a < 16) (hk : k < 16) (hA : A < 1000) {x : Int32} : zpc (fX12_envelope_63 μ (Int32.ofNat A) x (Int32.ofNat a) (Int32.ofNat k)) (fun t => t = zsi μ 3 A (zLn3 m (zHh a k) (k % 4) (μ.1 3 A) x)) := by
  have e1 := (z_hh ⟨a, ha⟩ ⟨k, hk⟩).2
  have e1 : (if Int32.ofNat a + (Int32.ofNat k / 4) ≤ 15 then Int32.ofNat a + (Int32.ofNat k / 4) else (15 : Int32)) = Int32.ofNat (zHh a k) := e1
  have e2 := (z_kk ⟨k, hk⟩).2
  have e2 : zrem (Int32.ofNat k) 4 = Int32.ofNat (k % 4) := e2
  have hh := zHh_r a k
  have go : zpc (fX12_envelope_87 μ (Int32.ofNat A) x (Int32.ofNat k) (Int32.ofNat (zHh a k))) (fun t => t = zsi μ 3 A (zLn3 m (zHh a k) (k % 4) (μ.1 3 A) x)) := by
    generalize zHh a k = h at hh ⊢
    obtain ⟨_, _, _, _, _, h13'⟩ := z_hq ⟨h, hh⟩
    have h13' : 13 ≤ Int32.ofNat h ↔ ¬ h < 13 := h13'
    unfold fX12_envelope_87 fX12_envelope_121 fX12_envelope_158
    rw [e2]
    refine zpc_ck (zpc_bv (fun v14 f14 => zpc_ck (zpc_bv (fun v15 f15 => ?_))))
    subst f14
    have f15 : v15 = μ.2 4 4 := f15
    subst f15
    by_cases y : h < 13
    · rw [if_neg (fun z => (h13'.mp z) y), if_neg (fun z => (h13'.mp z) y)]
      obtain ⟨t1, t2⟩ := m_tick hL hm y
      refine zpc_ck ?_
      by_cases z : m % 2 ^ (13 - h) = 0
      · rw [if_pos (t1.mpr z), t2]
        refine zpc_ck (zpc_ck (zpc_bi m_t (fun s12 v13 e => ?_)))
        cases e
        exact m_159 hL hm hh hA (fun _ => by unfold zTkw; rw [if_pos z])
      · rw [if_neg (fun u => z (t1.mp u))]
        exact m_159 hL hm hh hA (fun _ => by unfold zTkw; rw [if_neg z])
    · rw [if_pos (h13'.mpr y), if_pos (h13'.mpr y)]
      exact m_159 hL hm hh hA (fun z => absurd z y)
  unfold fX12_envelope_63
  refine zpc_ck ?_
  by_cases q : Int32.ofNat a + (Int32.ofNat k / 4) ≤ 15
  · rw [if_pos q] at e1 ⊢
    rw [e1]
    exact zpc_ck go
  · rw [if_neg q] at e1 ⊢
    rw [e1]
    exact go
theorem m_lvl (hr : zRm r μ) (h9 : c < 9) (ho : o < 2) (hL : (μ.2 4 4).toInt = (m : Int)) (hm : m ≤ 1000000000) (ea : zRa r c o (μ.1 3 (A + 1)) = Int32.ofNat a) (ha : a < 16) (ek : zKey r c o = Int32.ofNat k) (hk : k < 16) (hA : A < 900) : zpc (fX12_envelope μ (Int32.ofNat A) (Int32.ofNat c) (Int32.ofNat o)) (fun t => t = if Int32.ofNat a = 0 then μ else zsi μ 3 A (zLn3 m (zHh a k) (k % 4) (μ.1 3 A) (μ.1 3 (A + 1)))) := by
  have i1 : (Int32.ofNat A + 1).toNatClampNeg = A + 1 := z_atk (m := 1) (by omega)
  unfold fX12_envelope
  rw [i1]
  refine zpc_ck (zpc_bv (fun v16 e16 => zpc_bi (m_rate hr h9 ho) (fun s17 v18 e => ?_)))
  cases e
  have e16 : v16 = μ.1 3 (A + 1) := e16
  subst e16
  rw [ea]
  by_cases q : Int32.ofNat a = 0
  · rw [if_pos q, if_pos q]
    exact zpc_some rfl
  · rw [if_neg q, if_neg q]
    refine zpc_bi (m_blk hr h9) (fun s19 v20 e => ?_)
    cases e
    refine zpc_bi (m_f hr h9) (fun s21 v22 e => ?_)
    cases e
    refine zpc_ck (zpc_bv (fun v23 e23 => zpc_bi (m_pb hr h9 (k := o) (by omega) rfl) (fun s24 v25 e => ?_)))
    cases e
    unfold zKey at ek
    by_cases y : (zPB r c o &&& 16) = 0
    · rw [if_pos y] at ek
      refine zpc_if (fun _ => zpc_ck (zpc_bv (fun v26 e26 => ?_))) (fun z => absurd y z)
      rw [e26, e23, ek]
      exact m_63 hL hm ha hk (by omega)
    · rw [if_neg y] at ek
      refine zpc_if (fun z => absurd z y) (fun _ => ?_)
      rw [e23, ek]
      exact m_63 hL hm ha hk (by omega)
end ZWD
end ZJN10
section ZJN11
/-! WAVES: ON, LEVEL, STATE OF ONE OPERATOR -/
theorem zsi_id {s : zSt} {k j : Nat} : zsi s k j (s.1 k j) = s := by
  refine Prod.ext (funext fun a => funext fun b => ?_) rfl
  rw [zsi_at]
  by_cases q : a = k ∧ b = j
  · rw [if_pos q, q.1, q.2]
  · rw [if_neg q]
theorem zsi_cm {s : zSt} {k i j : Nat} {v w : Int32} (h : ¬ i = j) : zsi (zsi s k i v) k j w = zsi (zsi s k j w) k i v := by
  refine Prod.ext (funext fun a => funext fun b => ?_) rfl
  rw [zsi_at, zsi_at, zsi_at, zsi_at]
  by_cases q : a = k ∧ b = j
  · rw [if_pos q, if_neg (fun z => h (by omega)), if_pos q]
  · rw [if_neg q]
    by_cases y : a = k ∧ b = i
    · rw [if_pos y, if_pos y]
    · rw [if_neg y, if_neg y, if_neg q]
section ZWE
variable {σ μ s t : zSt} {r g : Nat → Int32} {c o m h l a k q j : Nat} {Q : zSt → zSt → Prop}
noncomputable def zFmw (σ μ : zSt) : Prop := (∀ q j : Nat, q < 18 → j < 6 → σ.1 32 (128 + 8 * q + j) = μ.1 3 (172 + 6 * q + j)) ∧ (∀ q : Nat, q < 18 → zr 0 127 (σ.1 32 (128 + 8 * q)) ∧ zr 0 4 (σ.1 32 (128 + 8 * q + 1)) ∧ zr 0 524287 (σ.1 32 (128 + 8 * q + 2)) ∧ zr (-4084) 4084 (σ.1 32 (128 + 8 * q + 3)))
noncomputable def zOg (j : Nat) (v : Int32) : Prop := (j = 0 → zr 0 127 v) ∧ (j = 1 → zr 0 4 v) ∧ (j = 2 → zr 0 524287 v) ∧ (j = 3 → zr (-4084) 4084 v)
theorem zFmw.w (h : zFmw σ μ) (hq : q < 18) (hj : j < 6) {v : Int32} (og : zOg j v) : zFmw (zsi σ 32 (128 + 8 * q + j) v) (zsi μ 3 (172 + 6 * q + j) v) := by
  obtain ⟨h1, h2⟩ := h
  have gt : ∀ q' j' : Nat, q' < 18 → j' < 6 → (zsi σ 32 (128 + 8 * q + j) v).1 32 (128 + 8 * q' + j') = if q' = q ∧ j' = j then v else σ.1 32 (128 + 8 * q' + j') := fun q' j' h3 h4 => by
    rw [zsi_at]
    by_cases z : q' = q ∧ j' = j
    · rw [if_pos z, if_pos ⟨rfl, by rw [z.1, z.2]⟩]
    · rw [if_neg z, if_neg (fun y => z (by have := y.2; omega))]
  have gm : ∀ q' j' : Nat, q' < 18 → j' < 6 → (zsi μ 3 (172 + 6 * q + j) v).1 3 (172 + 6 * q' + j') = if q' = q ∧ j' = j then v else μ.1 3 (172 + 6 * q' + j') := fun q' j' h3 h4 => by
    rw [zsi_at]
    by_cases z : q' = q ∧ j' = j
    · rw [if_pos z, if_pos ⟨rfl, by rw [z.1, z.2]⟩]
    · rw [if_neg z, if_neg (fun y => z (by have := y.2; omega))]
  refine ⟨fun q' j' h3 h4 => ?_, fun q' h3 => ?_⟩
  · rw [gt q' j' h3 h4, gm q' j' h3 h4]
    by_cases z : q' = q ∧ j' = j
    · rw [if_pos z, if_pos z]
    · rw [if_neg z, if_neg z]; exact h1 q' j' h3 h4
  · have e0 := gt q' 0 h3 (by decide)
    have e1 := gt q' 1 h3 (by decide)
    have e2 := gt q' 2 h3 (by decide)
    have e3 := gt q' 3 h3 (by decide)
    rw [Nat.add_zero] at e0
    obtain ⟨r0, r1, r2, r3⟩ := h2 q' h3
    refine ⟨?_, ?_, ?_, ?_⟩
    · rw [e0]
      by_cases z : q' = q ∧ 0 = j
      · rw [if_pos z]; exact og.1 z.2.symm
      · rw [if_neg z]; exact r0
    · rw [e1]
      by_cases z : q' = q ∧ 1 = j
      · rw [if_pos z]; exact og.2.1 z.2.symm
      · rw [if_neg z]; exact r1
    · rw [e2]
      by_cases z : q' = q ∧ 2 = j
      · rw [if_pos z]; exact og.2.2.1 z.2.symm
      · rw [if_neg z]; exact r2
    · rw [e3]
      by_cases z : q' = q ∧ 3 = j
      · rw [if_pos z]; exact og.2.2.2 z.2.symm
      · rw [if_neg z]; exact r3
/-- what an operator's move rests on, on both sides -/
noncomputable def zWo (r g : Nat → Int32) (c m : Nat) (σ μ : zSt) : Prop := zCk r c σ ∧ zRm r μ ∧ zFmw σ μ ∧ σ.1 32 66 = Int32.ofNat m ∧ (μ.2 4 4).toInt = (m : Int) ∧ σ.1 32 65 = μ.1 3 164 ∧ (∀ j : Nat, 128 ≤ j → j < 128 + 16 * c → σ.1 32 j = g j) ∧ zOwn r (σ.2 5 7)
theorem zWo.w (h : zWo r g c m σ μ) (hq : q < 18 ∧ 2 * c ≤ q) (hj : j < 6) {v : Int32} (og : zOg j v) : zWo r g c m (zsi σ 32 (128 + 8 * q + j) v) (zsi μ 3 (172 + 6 * q + j) v) := by
  obtain ⟨⟨h1, h2, h3⟩, h4, h5, h6, h7, h8, h9, h10⟩ := h
  refine ⟨⟨fun i hi => ?_, ⟨?_, ?_, ?_, h2.2.2.2⟩, ?_⟩, fun i hi => ?_, h5.w hq.1 hj og, ?_, h7, ?_, fun i h1 h2 => ?_, h10⟩
  · rw [zsi_nj (by omega)]; exact h1 i hi
  · rw [zsi_ne (by decide)]; exact h2.1
  · rw [zsi_ne (by decide)]; exact h2.2.1
  · rw [zsi_ne (by decide)]; exact h2.2.2.1
  · rw [zsi_ne (by decide)]; exact h3
  · rw [zsi_nj (by omega)]; exact h4 i hi
  · rw [zsi_nj (by omega)]; exact h6
  · rw [zsi_nj (by omega), zsi_nj (by omega)]; exact h8
  · rw [zsi_nj (by omega)]; exact h9 i h1 h2
theorem zOg_o {v : Int32} (h : 3 < j) : zOg j v := ⟨fun z => by omega, fun z => by omega, fun z => by omega, fun z => by omega⟩
theorem zOg_1 {v : Int32} (h : zr 0 4 v) : zOg 1 v := ⟨fun z => absurd z (by decide), fun _ => h, fun z => absurd z (by decide), fun z => absurd z (by decide)⟩
theorem zOg_0 {v : Int32} (h : zr 0 127 v) : zOg 0 v := ⟨fun _ => h, fun z => absurd z (by decide), fun z => absurd z (by decide), fun z => absurd z (by decide)⟩
theorem zOg_2 {v : Int32} (h : zr 0 524287 v) : zOg 2 v := ⟨fun z => absurd z (by decide), fun z => absurd z (by decide), fun _ => h, fun z => absurd z (by decide)⟩
theorem zOg_3 {v : Int32} (h : zr (-4084) 4084 v) : zOg 3 v := ⟨fun z => absurd z (by decide), fun z => absurd z (by decide), fun z => absurd z (by decide), fun _ => h⟩
theorem zWo.at (h : zWo r g c m σ μ) (hq : q < 18 ∧ 2 * c ≤ q) (hj : j < 6) : μ.1 3 (172 + 6 * q + j) = σ.1 32 (128 + 8 * q + j) := (h.2.2.1.1 q j hq.1 hj).symm
theorem zWo.lv (h : zWo r g c m σ μ) (hq : q < 18 ∧ 2 * c ≤ q) : zr 0 127 (σ.1 32 (128 + 8 * q)) := (h.2.2.1.2 q hq.1).1
theorem zWo.st (h : zWo r g c m σ μ) (hq : q < 18 ∧ 2 * c ≤ q) : zr 0 4 (σ.1 32 (128 + 8 * q + 1)) := (h.2.2.1.2 q hq.1).2.1
theorem zWo.ph (h : zWo r g c m σ μ) (hq : q < 18 ∧ 2 * c ≤ q) : zr 0 524287 (σ.1 32 (128 + 8 * q + 2)) := (h.2.2.1.2 q hq.1).2.2.1
noncomputable def zTr (c o A : Nat) (σ20 : zSt) : Option zSt := zck (zin (Int32.ofNat A + 1) 1048) (if (zgi σ20 3 (Int32.ofNat A + 1).toNatClampNeg) = 0 then zck (zin (Int32.ofNat A) 1048) (if (zgi σ20 3 (Int32.ofNat A).toNatClampNeg) < 124 then fX12_operator_113 σ20 (Int32.ofNat c) (Int32.ofNat o) (Int32.ofNat A) else zck (zin (Int32.ofNat A + 1) 1048) (zbv (zsi σ20 3 ((Int32.ofNat A + 1).toNatClampNeg) 1) (fun σ21 => zck (zin (Int32.ofNat A + 2) 1048) (zbv (zsi σ21 3 ((Int32.ofNat A + 2).toNatClampNeg) 0) (fun σ22 => fX12_operator_190 σ22 (Int32.ofNat c) (Int32.ofNat o) (Int32.ofNat A)))))) else fX12_operator_113 σ20 (Int32.ofNat c) (Int32.ofNat o) (Int32.ofNat A))
theorem zp2_uck {α β : Type} {b : Bool} {X : Option zSt} {F : zSt → Option α} {p : Option β} {Q : α → β → Prop} (h : zp2 (zbu X F) p Q) : zp2 (zbu (zck b X) F) p Q := by
  cases b with
  | true => exact h
  | false => exact zp2_nl
theorem zp2_uif {α β : Type} {c : Prop} {d : Decidable c} {X Y : Option zSt} {F : zSt → Option α} {p : Option β} {Q : α → β → Prop} (h1 : c → zp2 (zbu X F) p Q) (h2 : ¬ c → zp2 (zbu Y F) p Q) : zp2 (zbu (@ite _ c d X Y) F) p Q := by
  by_cases z : c
  · rw [if_pos z]; exact h1 z
  · rw [if_neg z]; exact h2 z
theorem zp2_ubv {α β γ : Type} {x : γ} {f : γ → Option zSt} {F : zSt → Option α} {p : Option β} {Q : α → β → Prop} (h : ∀ y, y = x → zp2 (zbu (f y) F) p Q) : zp2 (zbu (zbv x f) F) p Q := h x rfl
theorem zp2_uso {α β : Type} {s : zSt} {F : zSt → Option α} {p : Option β} {Q : α → β → Prop} (h : zp2 (F s) p Q) : zp2 (zbu (some s) F) p Q := h
/-! on -/
theorem w_on (hb : zRb r) (h9 : c < 9) (ho : o < 2) (eq : q = 2 * c + o) (h : zWo r g c m σ μ) (K : ∀ s t, zWo r g c m s t → zp2 (fX10_moveOperator_53 s (Int32.ofNat (128 + 8 * q)) (Int32.ofNat o)) (zbu (fX12_envelope t (Int32.ofNat (172 + 6 * q)) (Int32.ofNat c) (Int32.ofNat o)) (zTr c o (172 + 6 * q))) Q) : zp2 (fX10_moveOperator σ (Int32.ofNat (128 + 8 * q)) (Int32.ofNat o)) (fX12_operator μ (Int32.ofNat c) (Int32.ofNat o)) Q := by
  have hq : q < 18 ∧ 2 * c ≤ q := ⟨by omega, by omega⟩
  have e24 : ∀ (c : Fin 9) (o : Fin 2), 172 + (6 * ((2 * Int32.ofNat c.val) + Int32.ofNat o.val)) = Int32.ofNat (172 + 6 * (2 * c.val + o.val)) := by decide
  have e24 : 172 + (6 * ((2 * Int32.ofNat c) + Int32.ofNat o)) = Int32.ofNat (172 + 6 * q) := by rw [eq]; exact e24 ⟨c, h9⟩ ⟨o, ho⟩
  have i1 : (Int32.ofNat (172 + 6 * q) + 1).toNatClampNeg = 172 + 6 * q + 1 := z_atk (m := 1) (by omega)
  have i5 : (Int32.ofNat (172 + 6 * q) + 5).toNatClampNeg = 172 + 6 * q + 5 := z_atk (m := 5) (by omega)
  have j1 : (Int32.ofNat (128 + 8 * q) + 1).toNatClampNeg = 128 + 8 * q + 1 := z_atk (m := 1) (by omega)
  have j5 : (Int32.ofNat (128 + 8 * q) + 5).toNatClampNeg = 128 + 8 * q + 5 := z_atk (m := 5) (by omega)
  unfold fX10_moveOperator fX12_operator
  refine zp2_bil (c_on h.1 hb h9 ho) (fun s1 v1 e => ?_)
  cases e
  refine zp2_bvr (fun v24 f24 => ?_)
  rw [f24, e24]
  refine zp2_bir (m_on h.2.1 h9) (fun t1 w1 e => ?_)
  cases e
  rw [i5, show zgi μ 3 (172 + 6 * q + 5) = σ.1 32 (128 + 8 * q + 5) from h.at hq (by decide)]
  refine zp2_ckr ?_
  have go : ∀ v : Int32, (v = 0 ∨ v = 1) → zp2 (fX10_moveOperator_13 σ (Int32.ofNat (128 + 8 * q)) (Int32.ofNat o) v) (if v = σ.1 32 (128 + 8 * q + 5) then fX12_operator_53 μ (Int32.ofNat c) (Int32.ofNat o) (Int32.ofNat (172 + 6 * q)) v else if v = 1 then fX12_operator_52 μ (Int32.ofNat c) (Int32.ofNat o) (Int32.ofNat (172 + 6 * q)) v 0 (Int32.ofNat (172 + 6 * q) + 1) else fX12_operator_52 μ (Int32.ofNat c) (Int32.ofNat o) (Int32.ofNat (172 + 6 * q)) v 4 (Int32.ofNat (172 + 6 * q) + 1)) Q := fun v hv => by
    have two : ∀ w : Int32, zr 0 4 w → zp2 (fX10_moveOperator_52 (zsi σ 32 (128 + 8 * q + 5) v) (Int32.ofNat (128 + 8 * q)) (Int32.ofNat o) w (Int32.ofNat (128 + 8 * q) + 1)) (fX12_operator_52 μ (Int32.ofNat c) (Int32.ofNat o) (Int32.ofNat (172 + 6 * q)) v w (Int32.ofNat (172 + 6 * q) + 1)) Q := fun w hw => by
      unfold fX10_moveOperator_52 fX12_operator_52
      rw [j1, i1]
      refine zp2_ckl (zp2_bvl (fun s2 e2 => zp2_ckr (zp2_bvr (fun t2 f2 => ?_))))
      unfold fX12_operator_53
      rw [i5]
      refine zp2_ckr (zp2_bvr (fun t3 f3 => ?_))
      rw [zsi_cm (by omega)] at e2
      refine K s2 t3 ?_
      rw [e2, f3, f2]
      exact (h.w hq (by decide) (zOg_1 hw)).w hq (by decide) (zOg_o (by decide))
    unfold fX10_moveOperator_13
    rw [j5, show zgi σ 32 (128 + 8 * q + 5) = σ.1 32 (128 + 8 * q + 5) from rfl]
    refine zp2_ckl (zp2_if (fun z => ?_) (fun z => zp2_ckl (zp2_bvl (fun s2 e2 => ?_))))
    · unfold fX12_operator_53
      rw [i5]
      refine zp2_ckr (zp2_bvr (fun t2 f2 => ?_))
      have f3 : t2 = μ := by
        rw [f2, z, ← h.at hq (by decide)]
        exact zsi_id
      rw [f3]
      exact K σ μ h
    · subst e2
      exact zp2_if (fun _ => two 0 (zr_c (by decide))) (fun _ => two 4 (zr_c (by decide)))
  rcases zOn_r hb h9 ho with z | z
  · refine zp2_ifl (fun _ => ?_) (fun y => absurd z y)
    rw [z]
    exact go 0 (Or.inl rfl)
  · refine zp2_ifl (fun y => absurd (z.symm.trans y) (by decide)) (fun _ => ?_)
    rw [z]
    exact go 1 (Or.inr rfl)
/-! level and state -/
theorem zLn3_r {v x : Int32} (hv : zr 0 127 v) : zr 0 127 (zLn3 m h l v x) := by
  have c0 : (0 : Int32).toInt = 0 := rfl
  have c1 : (1 : Int32).toInt = 1 := rfl
  have c127 : (127 : Int32).toInt = 127 := rfl
  have v0 := hv.1
  have v1 := hv.2
  have low : ∀ w : Int32, zr 0 127 w → zr (-128) 127 (v - w - 1) := fun w hw => by
    have w0 := hw.1
    have w1 := hw.2
    have t1 := z_tsub hv hw (by decide)
    have t2 := z_tsub (x := v - w) (y := 1) (a := -127) (b := 127) ⟨by omega, by omega⟩ (zr_c (lo := 1) (hi := 1) (x := 1) (by decide)) (by decide)
    exact ⟨by rw [t2, t1, c1]; omega, by rw [t2, t1, c1]; omega⟩
  have mx : ∀ w : Int32, zr (-128) 127 w → zr 0 127 (zmax 0 w) := fun w hw => by
    unfold zmax
    by_cases q : (0 : Int32) < w
    · rw [if_pos q]
      have q1 := Int32.lt_iff_toInt_lt.mp q
      exact ⟨by omega, hw.2⟩
    · rw [if_neg q]; exact zr_c (by decide)
  have mn : ∀ w : Int32, zr 0 3 w → zr 0 127 (zmin 127 (v + w)) := fun w hw => by
    have w0 := hw.1
    have t1 := z_tadd hv hw (by decide)
    unfold zmin
    by_cases q : v + w < (127 : Int32)
    · rw [if_pos q]
      have q1 := Int32.lt_iff_toInt_lt.mp q
      exact ⟨by rw [t1]; omega, by omega⟩
    · rw [if_neg q]; exact zr_c (by decide)
  have t01 : ∀ i j : Int32, zr 0 1 (zTiw i j) := fun i j => by
    rcases zTi_01 (i := i) (l := j) with z | z
    · rw [z]; exact zr_c (by decide)
    · rw [z]; exact zr_c (by decide)
  have k01 : zr 0 1 (zTkw m h l) := by
    unfold zTkw
    by_cases z : m % 2 ^ (13 - h) = 0
    · rw [if_pos z]; exact t01 _ _
    · rw [if_neg z]; exact zr_c (by decide)
  unfold zLn3
  by_cases q : x = 1
  · rw [if_pos q]
    refine mx _ ?_
    unfold zLn2
    rw [if_pos q]
    by_cases h1 : h = 15
    · rw [if_pos h1]; exact zr_c (by decide)
    rw [if_neg h1]
    by_cases h2 : h < 12
    · rw [if_pos h2]
      by_cases h3 : zTkw m h l = 1
      · rw [if_pos h3]
        refine low _ ?_
        have d := z_tdiv (x := v) (y := 16) 16 rfl hv (by decide)
        exact ⟨by rw [d]; omega, by rw [d]; omega⟩
      · rw [if_neg h3]; exact zr_w hv (by decide)
    · rw [if_neg h2]
      refine low _ ?_
      have d := z_quo (x := v) (s := ((16 - Int32.ofNat h) - zTiw (zUu m) (Int32.ofNat l)) &&& 31) v0 rfl
      have p : (0 : Int) < ((2 ^ ((((16 - Int32.ofNat h) - zTiw (zUu m) (Int32.ofNat l)) &&& 31).toBitVec.smod 32).toNat : Nat) : Int) := by exact_mod_cast Nat.two_pow_pos _
      exact ⟨by rw [d]; exact Int.ediv_nonneg v0 (Int.le_of_lt p), by rw [d]; exact Int.le_trans (Int.ediv_le_self _ v0) v1⟩
  · rw [if_neg q]
    unfold zLn2
    rw [if_neg q]
    refine mn _ ?_
    by_cases h1 : h = 13
    · rw [if_pos h1]; exact zr_w (t01 _ _) (by decide)
    rw [if_neg h1]
    by_cases h2 : h = 14
    · rw [if_pos h2]
      rcases zTi_01 (i := zUu m) (l := Int32.ofNat l) with z | z
      · rw [z]; exact zr_c (by decide)
      · rw [z]; exact zr_c (by decide)
    rw [if_neg h2]
    by_cases h3 : h = 15
    · rw [if_pos h3]; exact zr_c (by decide)
    · rw [if_neg h3]; exact zr_w k01 (by decide)
/-- what is silent stays silent -/
theorem zLn3_4 {v : Int32} (hv : v = 127) : zLn3 m h l v 4 = 127 := by
  subst hv
  have t01 : ∀ i j : Int32, zTiw i j = 0 ∨ zTiw i j = 1 := fun i j => zTi_01
  have k01 : zTkw m h l = 0 ∨ zTkw m h l = 1 := by
    unfold zTkw
    by_cases z : m % 2 ^ (13 - h) = 0
    · rw [if_pos z]; exact t01 _ _
    · rw [if_neg z]; exact Or.inl rfl
  have d : ∀ w : Int32, w = 0 ∨ w = 1 ∨ w = 2 → zmin 127 (127 + w) = 127 := fun w hw => by
    rcases hw with z | z | z <;> rw [z] <;> decide
  unfold zLn3 zLn2
  rw [if_neg (by decide), if_neg (by decide)]
  refine d _ ?_
  by_cases h1 : h = 13
  · rw [if_pos h1]
    rcases t01 (Int32.ofNat (2 * (m / 4 % 4) + m % 2)) (Int32.ofNat l) with z | z
    · exact Or.inl z
    · exact Or.inr (Or.inl z)
  rw [if_neg h1]
  by_cases h2 : h = 14
  · rw [if_pos h2]
    rcases t01 (zUu m) (Int32.ofNat l) with z | z
    · rw [z]; exact Or.inr (Or.inl rfl)
    · rw [z]; exact Or.inr (Or.inr rfl)
  rw [if_neg h2]
  by_cases h3 : h = 15
  · rw [if_pos h3]; exact Or.inr (Or.inr rfl)
  rw [if_neg h3]
  rcases k01 with z | z
  · exact Or.inl z
  · exact Or.inr (Or.inl z)
theorem w_ls (hb : zRb r) (hm : m ≤ 1000000000) (h9 : c < 9) (ho : o < 2) (eq : q = 2 * c + o) (h : zWo r g c m σ μ) (K : ∀ s t, zWo r g c m s t → zp2 (fX10_moveOperator_99 s (Int32.ofNat (128 + 8 * q)) (Int32.ofNat o)) (fX12_operator_190 t (Int32.ofNat c) (Int32.ofNat o) (Int32.ofNat (172 + 6 * q))) Q) : zp2 (fX10_moveOperator_53 σ (Int32.ofNat (128 + 8 * q)) (Int32.ofNat o)) (zbu (fX12_envelope μ (Int32.ofNat (172 + 6 * q)) (Int32.ofNat c) (Int32.ofNat o)) (zTr c o (172 + 6 * q))) Q := by
  have hq : q < 18 ∧ 2 * c ≤ q := ⟨by omega, by omega⟩
  have i0 : (Int32.ofNat (172 + 6 * q)).toNatClampNeg = 172 + 6 * q := z_ofC (by omega)
  have i1 : (Int32.ofNat (172 + 6 * q) + 1).toNatClampNeg = 172 + 6 * q + 1 := z_atk (m := 1) (by omega)
  have i2 : (Int32.ofNat (172 + 6 * q) + 2).toNatClampNeg = 172 + 6 * q + 2 := z_atk (m := 2) (by omega)
  have j0 : (Int32.ofNat (128 + 8 * q) + 0).toNatClampNeg = 128 + 8 * q := z_atk (m := 0) (by omega)
  have j1 : (Int32.ofNat (128 + 8 * q) + 1).toNatClampNeg = 128 + 8 * q + 1 := z_atk (m := 1) (by omega)
  have j2 : (Int32.ofNat (128 + 8 * q) + 2).toNatClampNeg = 128 + 8 * q + 2 := z_atk (m := 2) (by omega)
  obtain ⟨a, ea⟩ := z_F (m := 16) (zRa_r (x := σ.1 32 (128 + 8 * q + 1)) hb h9 ho) (by decide)
  obtain ⟨k, ek⟩ := z_F (m := 16) (zKey_r (o := o) hb h9) (by decide)
  have em1 : μ.1 3 (172 + 6 * q + 1) = σ.1 32 (128 + 8 * q + 1) := h.at hq (by decide)
  have em0 : μ.1 3 (172 + 6 * q) = σ.1 32 (128 + 8 * q) := h.at (j := 0) hq (by decide)
  have hl := m_lvl (A := 172 + 6 * q) (k := k.val) (a := a.val) h.2.1 h9 ho h.2.2.2.2.1 hm (by rw [em1]; exact ea) a.2 ek k.2 (by omega)
  rw [em1, em0] at hl
  -- the states of both
  have ms : ∀ s t, zWo r g c m s t → zp2 (zbu (fX10_moveState s (Int32.ofNat (128 + 8 * q)) (zPB r c (6 + o) >>> ((4 : Int32) &&& 31))) (fun σ8 => fX10_moveOperator_99 σ8 (Int32.ofNat (128 + 8 * q)) (Int32.ofNat o))) (zTr c o (172 + 6 * q) t) Q := fun s t h => by
    have em1 : zgi t 3 (172 + 6 * q + 1) = s.1 32 (128 + 8 * q + 1) := h.at hq (by decide)
    have em0 : zgi t 3 (172 + 6 * q) = s.1 32 (128 + 8 * q) := h.at (j := 0) hq (by decide)
    have h73 : zp2 (zbu (fX10_moveState_73 s (Int32.ofNat (128 + 8 * q)) (zPB r c (6 + o) >>> ((4 : Int32) &&& 31)) (s.1 32 (128 + 8 * q)) (s.1 32 (128 + 8 * q + 1))) (fun σ8 => fX10_moveOperator_99 σ8 (Int32.ofNat (128 + 8 * q)) (Int32.ofNat o))) (fX12_operator_146 t (Int32.ofNat c) (Int32.ofNat o) (Int32.ofNat (172 + 6 * q))) Q := by
      unfold fX10_moveState_73 fX10_moveState_96 fX12_operator_146
      rw [i0, i1, em1, em0, j1]
      refine zp2_ckr ?_
      by_cases z : s.1 32 (128 + 8 * q + 1) = 2
      · refine zp2_uif (fun _ => zp2_uck ?_) (fun y => absurd z y)
        refine zp2_ifr (fun _ => zp2_ckr (zp2_ckr (zp2_bir (m_pb h.2.1 h9 (k := 6 + o) (by omega) (z_ofA (a := 6))) (fun t15 v16 e => ?_)))) (fun y => absurd z y)
        cases e
        by_cases y : (s.1 32 (128 + 8 * q) / 8) < (zPB r c (6 + o) >>> ((4 : Int32) &&& 31))
        · exact zp2_uif (fun _ => zp2_uso (zp2_ifr (fun _ => K s t h) (fun u => absurd y u))) (fun u => absurd y u)
        · refine zp2_uif (fun u => absurd u y) (fun _ => zp2_uck (zp2_ubv (fun s1 e1 => zp2_uso ?_)))
          refine zp2_ifr (fun u => absurd u y) (fun _ => zp2_ckr (zp2_bvr (fun t17 e17 => ?_)))
          rw [e1, e17]
          exact K _ _ (h.w hq (by decide) (zOg_1 (zr_c (by decide))))
      · exact zp2_uif (fun y => absurd y z) (fun _ => zp2_uso (zp2_ifr (fun y => absurd y z) (fun _ => K s t h)))
    have h51 : zp2 (zbu (fX10_moveState_51 s (Int32.ofNat (128 + 8 * q)) (zPB r c (6 + o) >>> ((4 : Int32) &&& 31)) (s.1 32 (128 + 8 * q)) (s.1 32 (128 + 8 * q + 1))) (fun σ8 => fX10_moveOperator_99 σ8 (Int32.ofNat (128 + 8 * q)) (Int32.ofNat o))) (fX12_operator_113 t (Int32.ofNat c) (Int32.ofNat o) (Int32.ofNat (172 + 6 * q))) Q := by
      unfold fX10_moveState_51 fX10_moveState_96 fX12_operator_113
      rw [i0, i1, em1, em0, j1]
      refine zp2_ckr ?_
      by_cases z : s.1 32 (128 + 8 * q + 1) = 1
      · refine zp2_uif (fun _ => ?_) (fun y => absurd z y)
        refine zp2_ifr (fun _ => zp2_ckr ?_) (fun y => absurd z y)
        by_cases y : s.1 32 (128 + 8 * q) = 0
        · refine zp2_uif (fun _ => zp2_uck (zp2_ubv (fun s2 e2 => zp2_uso ?_))) (fun u => absurd y u)
          refine zp2_ifr (fun _ => zp2_ckr (zp2_bvr (fun t18 e18 => ?_))) (fun u => absurd y u)
          rw [e2, e18]
          exact K _ _ (h.w hq (by decide) (zOg_1 (zr_c (by decide))))
        · exact zp2_uif (fun u => absurd u y) (fun _ => zp2_ifr (fun u => absurd u y) (fun _ => h73))
      · exact zp2_uif (fun y => absurd y z) (fun _ => zp2_ifr (fun y => absurd y z) (fun _ => h73))
    unfold fX10_moveState fX10_moveState_96 zTr
    rw [j0, j1, j2, i0, i1, i2, em1, em0]
    refine zp2_uck (zp2_ubv (fun v3 e3 => zp2_uck (zp2_ubv (fun v4 e4 => zp2_ckr ?_))))
    have e3 : v3 = s.1 32 (128 + 8 * q) := e3
    have e4 : v4 = s.1 32 (128 + 8 * q + 1) := e4
    subst e3
    subst e4
    by_cases z : s.1 32 (128 + 8 * q + 1) = 0
    · refine zp2_uif (fun _ => ?_) (fun y => absurd z y)
      refine zp2_ifr (fun _ => zp2_ckr ?_) (fun y => absurd z y)
      by_cases y : s.1 32 (128 + 8 * q) < 124
      · exact zp2_uif (fun _ => zp2_ifr (fun _ => h51) (fun u => absurd y u)) (fun u => absurd y u)
      · refine zp2_uif (fun u => absurd u y) (fun _ => zp2_uck (zp2_ubv (fun s5 e5 => zp2_uck (zp2_ubv (fun s6 e6 => zp2_uso ?_)))))
        refine zp2_ifr (fun u => absurd u y) (fun _ => zp2_ckr (zp2_bvr (fun t21 e21 => zp2_ckr (zp2_bvr (fun t22 e22 => ?_)))))
        rw [e6, e5, e22, e21]
        exact K _ _ ((h.w hq (by decide) (zOg_1 (zr_c (by decide)))).w hq (by decide) (zOg_2 (zr_c (by decide))))
    · exact zp2_uif (fun y => absurd y z) (fun _ => zp2_ifr (fun y => absurd y z) (fun _ => h51))
  -- behind the level
  have lv : ∀ s t, zWo r g c m s t → zp2 (zbi (fX10_part s (6 + Int32.ofNat o)) (fun σ6 v7 => zbu (fX10_moveState σ6 (Int32.ofNat (128 + 8 * q)) (v7 >>> ((4 : Int32) &&& 31))) (fun σ8 => fX10_moveOperator_99 σ8 (Int32.ofNat (128 + 8 * q)) (Int32.ofNat o)))) (zTr c o (172 + 6 * q) t) Q := fun s t h => by
    refine zp2_bil (c_part h.1.2.1 (k := 6 + o) (by omega) (z_ofA (a := 6))) (fun s6 v7 e => ?_)
    cases e
    exact ms s t h
  have both : zp2 (fX10_moveOperator_78 σ (Int32.ofNat (128 + 8 * q)) (Int32.ofNat o)) (zbu (fX12_envelope μ (Int32.ofNat (172 + 6 * q)) (Int32.ofNat c) (Int32.ofNat o)) (zTr c o (172 + 6 * q))) Q := by
    unfold fX10_moveOperator_78
    refine zp2_bul (c_lvl (A := 128 + 8 * q) (k := k.val) (a := a.val) h.1 h9 ho hb h.2.2.2.1 hm ea a.2 ek k.2 (by omega)) (fun s5 e5 => ?_)
    refine zp2_bur hl (fun t5 f5 => ?_)
    rw [e5, f5]
    by_cases z : Int32.ofNat a.val = 0
    · rw [if_pos z, if_pos z]
      exact lv σ μ h
    · rw [if_neg z, if_neg z]
      exact lv _ _ (h.w (j := 0) hq (by decide) (zOg_0 (zLn3_r (h.lv hq))))
  unfold fX10_moveOperator_53
  rw [j0, j1]
  refine zp2_ckl ?_
  by_cases z : zgi σ 32 (128 + 8 * q + 1) = 4
  · refine zp2_ifl (fun _ => zp2_ckl ?_) (fun y => absurd z y)
    by_cases y : 127 ≤ zgi σ 32 (128 + 8 * q)
    · refine zp2_ifl (fun _ => ?_) (fun u => absurd y u)
      have z : σ.1 32 (128 + 8 * q + 1) = 4 := z
      have v127 : σ.1 32 (128 + 8 * q) = 127 := by
        have y1 : (127 : Int32).toInt ≤ (σ.1 32 (128 + 8 * q)).toInt := Int32.le_iff_toInt_le.mp y
        have y2 := (h.lv hq).2
        exact Int32.toInt_inj.mp (by rw [show (127 : Int32).toInt = 127 from rfl] at y1 ⊢; omega)
      refine zp2_bur hl (fun t5 f5 => ?_)
      have e5 : t5 = μ := by
        rw [f5, z, zLn3_4 v127]
        by_cases u : Int32.ofNat a.val = 0
        · rw [if_pos u]
        · rw [if_neg u, ← v127, ← em0]
          exact zsi_id
      rw [e5]
      unfold zTr fX12_operator_113 fX12_operator_146
      have n1 : zgi μ 3 (172 + 6 * q + 1) = 4 := em1.trans z
      rw [i1, n1]
      exact zp2_ckr (zp2_ifr (fun u => absurd u (by decide)) (fun _ => zp2_ckr (zp2_ifr (fun u => absurd u (by decide)) (fun _ => zp2_ckr (zp2_ifr (fun u => absurd u (by decide)) (fun _ => K σ μ h))))))
    · exact zp2_ifl (fun u => absurd u y) (fun _ => both)
  · exact zp2_ifl (fun y => absurd y z) (fun _ => both)
end ZWE
end ZJN11
section ZJN12
/-! WAVES: THE PHASE MOVES -/
section ZWF
variable {σ μ s t : zSt} {r : Nat → Int32} {c o m h l a k q j A : Nat} {Q : zSt → zSt → Prop}
noncomputable def zSz (G x : Int32) : Int32 := if zrem G 4 = 0 then 0 else if zrem G 4 = 2 then x else x / 2
noncomputable def zSw (G x : Int32) : Int32 := if 4 ≤ G then -(zSz G x) else zSz G x
noncomputable def zSwC (G x : Int32) : Int32 := if G = 1 then x / 2 else if G = 2 then x else if G = 3 then x / 2 else if G = 4 then 0 else if G = 5 then -(x / 2) else if G = 6 then -x else if G = 7 then -(x / 2) else 0
theorem z_sway (g : Fin 8) (x : Int32) : zSwC (Int32.ofNat g.val) x = zSw (Int32.ofNat g.val) x := by
  obtain ⟨g, hg⟩ := g
  rcases (show g = 0 ∨ g = 1 ∨ g = 2 ∨ g = 3 ∨ g = 4 ∨ g = 5 ∨ g = 6 ∨ g = 7 by omega) with rfl | rfl | rfl | rfl | rfl | rfl | rfl | rfl
  all_goals simp (decide := true) [zSwC, zSw, zSz]
noncomputable def zMuw (v : Int32) : Int32 := if v = 0 then 1 else if 11 ≤ v then (if v = 11 then 20 else if 14 ≤ v then 30 else 24) else 2 * v
theorem z_mul7 : ∀ n : Fin 256, zt7 (Int32.ofNat n.val &&& 15).toNatClampNeg = zMuw (Int32.ofNat n.val &&& 15) := by decide +kernel
noncomputable def zG8 (m : Nat) : Int32 := Int32.ofNat (m / 1024 % 8)
noncomputable def zWw (r : Nat → Int32) (c o m : Nat) : Int32 := if (zPB r c o &&& 64) = 0 then 0 else zSw (zG8 m) (zFq r c / 64)
noncomputable def zNp (r : Nat → Int32) (c o m : Nat) (p : Int32) : Int32 := (p + (((((2 * zFq r c) + zWw r c o m) * zMuw (zPB r c o &&& 15)) <<< (zBkw r c &&& 31)) / 4)) &&& 524287
theorem zNp_r {p : Int32} : zr 0 524287 (zNp r c o m p) := zr_andr (lo := 0) (hi := 524287) (zr_c (lo := 524287) (hi := 524287) (by decide)) (by decide)
theorem c_ph (hc : zCk r c σ) (hb : zRb r) (h9 : c < 9) (ho : o < 2) (hn : σ.1 32 66 = Int32.ofNat m) (hm : m ≤ 1000000000) (hA : A < 300) : zpc (fX10_movePhase σ (Int32.ofNat A) (zPB r c o)) (fun s => s = zsi σ 32 (A + 2) (zNp r c o m (σ.1 32 (A + 2)))) := by
  have j2 : (Int32.ofNat A + 2).toNatClampNeg = A + 2 := z_atk (m := 2) (by omega)
  obtain ⟨n, en⟩ := z_F (m := 256) (zPB_r (k := o) hb h9 (by omega)) (by decide)
  have mu : zt7 (zPB r c o &&& 15).toNatClampNeg = zMuw (zPB r c o &&& 15) := by rw [en]; exact z_mul7 n
  have go : ∀ w : Int32, w = zWw r c o m → zpc (fX10_movePhase_22 σ (Int32.ofNat A) (zPB r c o) w) (fun s => s = zsi σ 32 (A + 2) (zNp r c o m (σ.1 32 (A + 2)))) := fun w ew => by
    unfold fX10_movePhase_22
    rw [j2, mu, show zgi σ 5 4 = zFq r c from hc.2.1.2.1, show zgi σ 5 5 = zBkw r c from hc.2.1.2.2.1]
    refine zpc_ck (zpc_ck (zpc_bv (fun v1 e1 => zpc_ck (zpc_ck (zpc_bv (fun s2 e2 => zpc_some ?_))))))
    rw [e2, e1, ew]
    rfl
  unfold fX10_movePhase
  by_cases q : (zPB r c o &&& 64) = 0
  · refine zpc_if (fun _ => go 0 ?_) (fun y => absurd q y)
    unfold zWw
    rw [if_pos q]
  · refine zpc_if (fun y => absurd y q) (fun _ => zpc_ck (zpc_bi (P := fun z => z = (σ, zSwC (zG8 m) (zFq r c / 64))) ?_ (fun s3 v4 e => ?_)))
    · rw [show zgi σ 5 4 = zFq r c from hc.2.1.2.1]
      unfold fX10_sway fX10_sway_56 fX10_sway_62 fX10_sway_70 zSwC zG8
      rw [show zgi σ 32 (66 : Int32).toNatClampNeg = Int32.ofNat m from hn, zNn_q hm (e := 10) (by decide), zNn_a (m := m / 2 ^ 10) (e := 3) (Nat.le_trans (Nat.div_le_self _ _) hm) (by decide) (by decide), show m / 2 ^ 10 % 2 ^ 3 = m / 1024 % 8 from rfl]
      exact zpc_ck (zpWif (fun _ => zpc_ck (zpc_some rfl)) (fun _ => zpWif (fun _ => zpc_some rfl) (fun _ => zpWif (fun _ => zpc_ck (zpc_some rfl)) (fun _ => zpWif (fun _ => zpc_some rfl) (fun _ => zpWif (fun _ => zpc_ck (zpc_some rfl)) (fun _ => zpWif (fun _ => zpc_some rfl) (fun _ => zpWif (fun _ => zpc_ck (zpc_some rfl)) (fun _ => zpc_some rfl))))))))
    · cases e
      refine go _ ?_
      unfold zWw
      rw [if_neg q]
      exact z_sway ⟨m / 1024 % 8, by omega⟩ _
theorem m_ph (hr : zRm r μ) (hb : zRb r) (h9 : c < 9) (ho : o < 2) (hL : (μ.2 4 4).toInt = (m : Int)) (hm : m ≤ 1000000000) (hA : A < 900) : zpc (fX12_phase μ (Int32.ofNat A) (Int32.ofNat c) (Int32.ofNat o)) (fun t => t = zsi μ 3 (A + 2) (zNp r c o m (μ.1 3 (A + 2)))) := by
  have j2 : (Int32.ofNat A + 2).toNatClampNeg = A + 2 := z_atk (m := 2) (by omega)
  have g8 : (zreml (μ.2 4 4 / 1024) 8).toInt32 = zG8 m := by
    have d := z_tldiv (x := μ.2 4 4) (y := 1024) (a := 0) (b := 1000000000) 1024 rfl ⟨by omega, by omega⟩ (by decide)
    have e := z_tlrem (x := μ.2 4 4 / 1024) (y := 8) (a := 0) (b := 1000000000) 8 rfl ⟨by rw [d]; omega, by rw [d]; omega⟩ (by decide)
    refine z_ofN ?_
    rw [Int64.toInt_toInt32, e, d, hL, Int.bmod_eq_of_le (by omega) (by omega)]
    omega
  have p150 : ∀ mu w : Int32, mu = zMuw (zPB r c o &&& 15) → w = zWw r c o m → zpc (fX12_phase_150 μ (Int32.ofNat A) (Int32.ofNat c) mu w) (fun t => t = zsi μ 3 (A + 2) (zNp r c o m (μ.1 3 (A + 2)))) := fun mu w e1 e2 => by
    unfold fX12_phase_150
    rw [j2]
    refine zpc_ck (zpc_bi (m_f hr h9) (fun s1 v2 e => ?_))
    cases e
    refine zpc_bi (m_blk hr h9) (fun s3 v4 e => ?_)
    cases e
    refine zpc_ck (zpc_ck (zpc_bv (fun s5 e5 => zpc_some ?_)))
    rw [e5, e1, e2]
    rfl
  have p60 : ∀ mu : Int32, mu = zMuw (zPB r c o &&& 15) → zpc (fX12_phase_60 μ (Int32.ofNat A) (Int32.ofNat c) (Int32.ofNat o) mu) (fun t => t = zsi μ 3 (A + 2) (zNp r c o m (μ.1 3 (A + 2)))) := fun mu e1 => by
    unfold fX12_phase_60
    refine zpc_bi (m_pb hr h9 (k := o) (by omega) rfl) (fun s6 v7 e => ?_)
    cases e
    by_cases q : (zPB r c o &&& 64) = 0
    · refine zpc_if (fun _ => p150 mu 0 e1 ?_) (fun y => absurd q y)
      unfold zWw
      rw [if_pos q]
    · refine zpc_if (fun y => absurd y q) (fun _ => zpc_ck (zpc_ck (zpc_ck (zpc_bv (fun v8 e8 => ?_)))))
      have e8 : v8 = zG8 m := e8.trans g8
      subst e8
      refine zpc_bi (m_f hr h9) (fun s9 v10 e => ?_)
      cases e
      refine zpc_ck (zpc_bv (fun v11 e11 => zpc_ck ?_))
      have w132 : ∀ z : Int32, z = zSz (zG8 m) (zFq r c / 64) → zpc (fX12_phase_132 μ (Int32.ofNat A) (Int32.ofNat c) mu (zG8 m) z) (fun t => t = zsi μ 3 (A + 2) (zNp r c o m (μ.1 3 (A + 2)))) := fun z ez => by
        unfold fX12_phase_132 fX12_phase_148
        have ww : zWw r c o m = if 4 ≤ zG8 m then -z else z := by
          unfold zWw zSw
          rw [if_neg q, ez]
        by_cases y : 4 ≤ zG8 m
        · refine zpc_if (fun _ => p150 mu (-z) e1 ?_) (fun u => absurd y u)
          rw [ww, if_pos y]
        · refine zpc_if (fun u => absurd u y) (fun _ => p150 mu z e1 ?_)
          rw [ww, if_neg y]
      refine zpc_if (fun y => w132 0 ?_) (fun y => zpc_ck (zpc_if (fun y2 => w132 v11 ?_) (fun y2 => zpc_ck (w132 (v11 / 2) ?_))))
      · unfold zSz
        rw [if_pos y]
      · unfold zSz
        rw [if_neg y, if_pos y2, e11]
      · unfold zSz
        rw [if_neg y, if_neg y2, e11]
  unfold fX12_phase
  refine zpc_bi (m_pb hr h9 (k := o) (by omega) rfl) (fun s12 v13 e => ?_)
  cases e
  refine zpc_bv (fun v14 e14 => ?_)
  subst e14
  have mm : ∀ v : Int32, zMuw v = if v = 0 then 1 else if 11 ≤ v then (if v = 11 then 20 else if 14 ≤ v then 30 else 24) else 2 * v := fun v => rfl
  refine zpc_if (fun y => p60 1 ?_) (fun y => zpc_if (fun y2 => zpc_if (fun y3 => p60 20 ?_) (fun y3 => zpc_if (fun y4 => p60 30 ?_) (fun y4 => p60 24 ?_))) (fun y2 => p60 _ ?_))
  · rw [mm, if_pos y]
  · rw [mm, if_neg y, if_pos y2, if_pos y3]
  · rw [mm, if_neg y, if_pos y2, if_neg y3, if_pos y4]
  · rw [mm, if_neg y, if_pos y2, if_neg y3, if_neg y4]
  · rw [mm, if_neg y, if_neg y2]
end ZWF
end ZJN12
section ZJN13
/-! WAVES: WHAT AN OPERATOR GIVES -/
section ZWG
variable {σ μ s t : zSt} {r : Nat → Int32} {c o m h l a k q j A : Nat} {Q : zSt → zSt → Prop}
/-! drums -/
noncomputable def zDx (a b : Int32) : Int32 := if ((a >>> ((2 : Int32) &&& 31)) &&& 1) = ((a >>> ((7 : Int32) &&& 31)) &&& 1) then (if ((a >>> ((3 : Int32) &&& 31)) &&& 1) = ((b >>> ((5 : Int32) &&& 31)) &&& 1) then (if ((b >>> ((3 : Int32) &&& 31)) &&& 1) = ((b >>> ((5 : Int32) &&& 31)) &&& 1) then 0 else 1) else 1) else 1
theorem z_d5w : ∀ a b c d e : Fin 2, ((((Int32.ofNat a.val ^^^ Int32.ofNat b.val) ||| (Int32.ofNat c.val ^^^ Int32.ofNat d.val)) ||| (Int32.ofNat e.val ^^^ Int32.ofNat d.val)) = 0) ↔ (Int32.ofNat a.val = Int32.ofNat b.val ∧ Int32.ofNat c.val = Int32.ofNat d.val ∧ Int32.ofNat e.val = Int32.ofNat d.val) := by decide +kernel
theorem z_lo2 (x : Int32) : ∃ n : Fin 2, x &&& 1 = Int32.ofNat n.val := by
  have h : zr 0 1 (x &&& 1) := zr_andr (lo := 0) (hi := 1) (zr_c (lo := 1) (hi := 1) (by decide)) (by decide)
  exact z_F (m := 2) h (by decide)
theorem z_oad2 (x y m : Int32) : (x ||| y) &&& m = (x &&& m) ||| (y &&& m) := by rw [Int32.and_comm, z_oad, Int32.and_comm m x, Int32.and_comm m y]
theorem z_dx (a b : Int32) : ((((((a >>> ((2 : Int32) &&& 31)) ^^^ (a >>> ((7 : Int32) &&& 31))) ||| ((a >>> ((3 : Int32) &&& 31)) ^^^ (b >>> ((5 : Int32) &&& 31)))) ||| ((b >>> ((3 : Int32) &&& 31)) ^^^ (b >>> ((5 : Int32) &&& 31)))) &&& 1) = 0) ↔ zDx a b = 0 := by
  rw [z_oad2, z_oad2, z_xad, z_xad, z_xad]
  unfold zDx
  obtain ⟨n1, e1⟩ := z_lo2 (a >>> ((2 : Int32) &&& 31))
  obtain ⟨n2, e2⟩ := z_lo2 (a >>> ((7 : Int32) &&& 31))
  obtain ⟨n3, e3⟩ := z_lo2 (a >>> ((3 : Int32) &&& 31))
  obtain ⟨n4, e4⟩ := z_lo2 (b >>> ((5 : Int32) &&& 31))
  obtain ⟨n5, e5⟩ := z_lo2 (b >>> ((3 : Int32) &&& 31))
  rw [e1, e2, e3, e4, e5, z_d5w]
  by_cases q1 : Int32.ofNat n1.val = Int32.ofNat n2.val
  · rw [if_pos q1]
    by_cases q2 : Int32.ofNat n3.val = Int32.ofNat n4.val
    · rw [if_pos q2]
      by_cases q3 : Int32.ofNat n5.val = Int32.ofNat n4.val
      · rw [if_pos q3]; exact ⟨fun _ => rfl, fun _ => ⟨q1, q2, q3⟩⟩
      · rw [if_neg q3]; exact ⟨fun z => absurd z.2.2 q3, fun z => absurd z (by decide)⟩
    · rw [if_neg q2]; exact ⟨fun z => absurd z.2.1 q2, fun z => absurd z (by decide)⟩
  · rw [if_neg q1]; exact ⟨fun z => absurd z.1 q1, fun z => absurd z (by decide)⟩
theorem zDx_01 (a b : Int32) : zDx a b = 0 ∨ zDx a b = 1 := by
  unfold zDx
  repeat' split
  all_goals first | exact Or.inl rfl | exact Or.inr rfl
/-- x, y: what the drums turn by -/
noncomputable def zDr8 (c o : Nat) (p x y : Int32) : Int32 := if c = 8 then (if o = 0 then p else if x = 0 then 256 else 768) else if o = 0 then (if x = 0 then (if y = 0 then 208 else 52) else (if y = 0 then 564 else 720)) else (if (p &&& 512) = 0 then (if y = 0 then 256 else 0) else (if y = 0 then 512 else 768))
noncomputable def zDy (d : Int32) : Int32 := if (d &&& 1) = 1 then 1 else 0
theorem z_c78 : ∀ c : Fin 9, (Int32.ofNat c.val = 8 ↔ c.val = 8) ∧ (Int32.ofNat c.val = 7 ↔ c.val = 7) ∧ (Int32.ofNat c.val < 7 ↔ c.val < 7) ∧ (Int32.ofNat c.val ≤ 6 ↔ c.val < 7) ∧ (Int32.ofNat c.val ≤ 5 ↔ c.val < 6) := by decide
theorem z_o01 : ∀ o : Fin 2, (Int32.ofNat o.val = 0 ↔ o.val = 0) ∧ (Int32.ofNat o.val = 1 ↔ ¬ o.val = 0) := by decide
theorem c_drum (e3 : σ.1 5 3 = Int32.ofNat c) (h9 : c < 9) (h7 : 7 ≤ c) (ho : o < 2) {p : Int32} : zpc (fX10_drumPhase σ p (Int32.ofNat o)) (fun z => z = (σ, zDr8 c o p (zDx ((σ.1 32 242) >>> ((9 : Int32) &&& 31)) ((σ.1 32 266) >>> ((9 : Int32) &&& 31))) (zDy (σ.1 32 65)))) := by
  obtain ⟨c8, c7, _, _, _⟩ := z_c78 ⟨c, h9⟩
  have c8 : Int32.ofNat c = 8 ↔ c = 8 := c8
  obtain ⟨o0, _⟩ := z_o01 ⟨o, ho⟩
  have o0 : Int32.ofNat o = 0 ↔ o = 0 := o0
  unfold fX10_drumPhase
  rw [show zgi σ 32 (242 : Int32).toNatClampNeg = σ.1 32 242 from rfl, show zgi σ 32 (266 : Int32).toNatClampNeg = σ.1 32 266 from rfl]
  refine zpc_ck (zpc_bv (fun v1 e1 => zpc_ck (zpc_bv (fun v2 e2 => ?_))))
  subst e1
  subst e2
  have g82 : ∀ x y : Int32, zpc (fX10_drumPhase_82 σ p (Int32.ofNat o) x y) (fun z => z = (σ, zDr8 c o p x y)) := fun x y => by
    unfold fX10_drumPhase_82 fX10_drumPhase_115 fX10_drumPhase_155 fX10_drumPhase_193 zDr8
    rw [show zgi σ 5 3 = Int32.ofNat c from e3]
    by_cases z8 : c = 8
    · rw [if_pos z8, if_pos (c8.mpr z8)]
      by_cases z0 : o = 0
      · rw [if_pos z0, if_pos (o0.mpr z0)]
        exact zpc_some rfl
      · rw [if_neg z0, if_neg (fun u => z0 (o0.mp u))]
        exact zpWif (fun _ => zpc_some rfl) (fun _ => zpc_some rfl)
    · rw [if_neg z8, if_neg (fun u => z8 (c8.mp u))]
      by_cases z0 : o = 0
      · rw [if_pos z0, if_pos (o0.mpr z0)]
        exact zpWif (fun _ => zpWif (fun _ => zpc_some rfl) (fun _ => zpc_some rfl)) (fun _ => zpWif (fun _ => zpc_some rfl) (fun _ => zpc_some rfl))
      · rw [if_neg z0, if_neg (fun u => z0 (o0.mp u))]
        exact zpWif (fun _ => zpWif (fun _ => zpc_some rfl) (fun _ => zpc_some rfl)) (fun _ => zpWif (fun _ => zpc_some rfl) (fun _ => zpc_some rfl))
  have g62 : ∀ x : Int32, zpc (fX10_drumPhase_62 σ p (Int32.ofNat o) x) (fun z => z = (σ, zDr8 c o p x (zDy (σ.1 32 65)))) := fun x => by
    unfold fX10_drumPhase_62 zDy
    rw [show zgi σ 32 (65 : Int32).toNatClampNeg = σ.1 32 65 from rfl]
    by_cases z : (σ.1 32 65 &&& 1) = 1
    · rw [if_pos z, if_pos z]; exact zpc_ck (g82 x 1)
    · rw [if_neg z, if_neg z]; exact zpc_ck (g82 x 0)
  have dx := z_dx ((σ.1 32 242) >>> ((9 : Int32) &&& 31)) ((σ.1 32 266) >>> ((9 : Int32) &&& 31))
  rcases zDx_01 ((σ.1 32 242) >>> ((9 : Int32) &&& 31)) ((σ.1 32 266) >>> ((9 : Int32) &&& 31)) with z | z
  · rw [z]
    exact zpc_if (fun _ => g62 0) (fun y => absurd (dx.mpr z) y)
  · rw [z]
    exact zpc_if (fun y => absurd (z.symm.trans (dx.mp y)) (by decide)) (fun _ => g62 1)
theorem m_drum (h9 : c < 9) (h7 : 7 ≤ c) (ho : o < 2) {p : Int32} : zpc (fX12_drum μ (Int32.ofNat c) (Int32.ofNat o) p) (fun z => z = (μ, zDr8 c o p (zDx (μ.1 3 258 / 512) (μ.1 3 276 / 512)) (zDy (μ.1 3 164)))) := by
  obtain ⟨c8, c7, _, _, _⟩ := z_c78 ⟨c, h9⟩
  have c7 : Int32.ofNat c = 7 ↔ c = 7 := c7
  obtain ⟨o0, _⟩ := z_o01 ⟨o, ho⟩
  have o0 : Int32.ofNat o = 0 ↔ o = 0 := o0
  unfold fX12_drum
  rw [show zgi μ 3 (258 : Int32).toNatClampNeg = μ.1 3 258 from rfl, show zgi μ 3 (276 : Int32).toNatClampNeg = μ.1 3 276 from rfl]
  refine zpc_ck (zpc_ck (zpc_bv (fun v1 e1 => zpc_ck (zpc_ck (zpc_bv (fun v2 e2 => ?_))))))
  subst e1
  subst e2
  have g100 : ∀ x y : Int32, zpc (fX12_drum_100 μ (Int32.ofNat c) (Int32.ofNat o) p x y) (fun z => z = (μ, zDr8 c o p x y)) := fun x y => by
    unfold fX12_drum_100 fX12_drum_148 fX12_drum_147 fX12_drum_191 fX12_drum_214 zDr8
    by_cases z8 : c = 8
    · have n7 : ¬ Int32.ofNat c = 7 := fun u => by have := c7.mp u; omega
      rw [if_pos z8, if_neg n7, if_neg n7]
      by_cases z0 : o = 0
      · rw [if_pos z0, if_pos (o0.mpr z0)]
        exact zpc_some rfl
      · rw [if_neg z0, if_neg (fun u => z0 (o0.mp u))]
        exact zpWif (fun _ => zpc_some rfl) (fun _ => zpc_some rfl)
    · have y7 : Int32.ofNat c = 7 := c7.mpr (by omega)
      rw [if_neg z8, if_pos y7]
      by_cases z0 : o = 0
      · rw [if_pos z0, if_pos (o0.mpr z0)]
        exact zpWif (fun _ => zpWif (fun _ => zpc_some rfl) (fun _ => zpc_some rfl)) (fun _ => zpWif (fun _ => zpc_some rfl) (fun _ => zpc_some rfl))
      · rw [if_neg z0, if_neg (fun u => z0 (o0.mp u)), if_pos y7]
        exact zpWif (fun _ => zpWif (fun _ => zpc_some rfl) (fun _ => zpc_some rfl)) (fun _ => zpWif (fun _ => zpc_some rfl) (fun _ => zpc_some rfl))
  have g79 : ∀ x : Int32, zpc (fX12_drum_79 μ (Int32.ofNat c) (Int32.ofNat o) p x) (fun z => z = (μ, zDr8 c o p x (zDy (μ.1 3 164)))) := fun x => by
    unfold fX12_drum_79 zDy
    rw [show zgi μ 3 (164 : Int32).toNatClampNeg = μ.1 3 164 from rfl]
    by_cases z : (μ.1 3 164 &&& 1) = 1
    · rw [if_pos z, if_pos z]; exact zpc_ck (g100 x 1)
    · rw [if_neg z, if_neg z]; exact zpc_ck (g100 x 0)
  unfold fX12_drum_74 zDx
  by_cases q1 : (((μ.1 3 258 / 512) >>> ((2 : Int32) &&& 31)) &&& 1) = (((μ.1 3 258 / 512) >>> ((7 : Int32) &&& 31)) &&& 1)
  · rw [if_pos q1, if_pos q1]
    by_cases q2 : (((μ.1 3 258 / 512) >>> ((3 : Int32) &&& 31)) &&& 1) = (((μ.1 3 276 / 512) >>> ((5 : Int32) &&& 31)) &&& 1)
    · rw [if_pos q2, if_pos q2]
      by_cases q3 : (((μ.1 3 276 / 512) >>> ((3 : Int32) &&& 31)) &&& 1) = (((μ.1 3 276 / 512) >>> ((5 : Int32) &&& 31)) &&& 1)
      · rw [if_pos q3, if_pos q3]; exact g79 0
      · rw [if_neg q3, if_neg q3]; exact g79 1
    · rw [if_neg q2, if_neg q2]; exact g79 1
  · rw [if_neg q1, if_neg q1]; exact g79 1
theorem z_ph9 {x : Int32} (h : zr 0 524287 x) : (x >>> ((9 : Int32) &&& 31)) = x / 512 ∧ zr 0 1023 (x / 512) := by
  have a : ((x >>> ((9 : Int32) &&& 31))).toInt = x.toInt / 512 := z_quo (k := 9) (s := (9 : Int32) &&& 31) h.1 rfl
  have b := z_tdiv (x := x) (y := 512) 512 rfl h (by decide)
  have h0 := h.1
  have h1 := h.2
  exact ⟨Int32.toInt_inj.mp (by rw [a, b]), ⟨by rw [b]; omega, by rw [b]; omega⟩⟩
/-! the phase turned -/
noncomputable def zBd (r : Nat → Int32) (c o : Nat) (u v w : Int32) : Int32 := if o = 0 then (if (zPB r c 3 &&& 7) = 0 then 0 else (v + w) >>> ((9 - (zPB r c 3 &&& 7)) &&& 31)) else u
noncomputable def zTp (r : Nat → Int32) (c o : Nat) (p d x y : Int32) : Int32 := if zRy r c = 0 then p + d else if c < 7 then p + d else zDr8 c o p x y
/-! softness -/
noncomputable def zKp (x : Int32) : Int32 := if x = 0 then 0 else if x = 1 then 48 else if x = 2 then 64 else if x = 3 then 74 else if x = 4 then 80 else if x = 5 then 86 else if x = 6 then 90 else if x = 7 then 94 else if x = 8 then 96 else 82 + (2 * x)
theorem m_kept {x : Int32} : zpc (fX12_kept μ x) (fun z => z = (μ, zKp x)) := by
  unfold fX12_kept fX12_kept_97 zKp
  exact zpWif (fun _ => zpc_some rfl) (fun _ => zpWif (fun _ => zpc_some rfl) (fun _ => zpWif (fun _ => zpc_some rfl) (fun _ => zpWif (fun _ => zpc_some rfl) (fun _ => zpWif (fun _ => zpc_some rfl) (fun _ => zpWif (fun _ => zpc_some rfl) (fun _ => zpWif (fun _ => zpc_some rfl) (fun _ => zpWif (fun _ => zpc_some rfl) (fun _ => zpWif (fun _ => zpc_some rfl) (fun _ => zpc_some rfl)))))))))
theorem z_kp : ∀ n : Fin 512, zt8 ((Int32.ofNat n.val >>> ((5 : Int32) &&& 31)) &&& 15).toNatClampNeg = zKp (Int32.ofNat n.val / 32) ∧ (0 ≤ (zKp (Int32.ofNat n.val / 32)).toInt ∧ (zKp (Int32.ofNat n.val / 32)).toInt ≤ 112) := by decide +kernel
noncomputable def zGk (r : Nat → Int32) (c : Nat) : Int32 := zKp (zFq r c / 32) - (16 * (7 - zBkw r c))
noncomputable def zGs (g s : Int32) : Int32 := if g < 0 then 0 else if s = 0 then 0 else if s = 1 then g / 4 else if s = 2 then g / 2 else g
theorem z_gs : ∀ (n : Fin 226) (s : Fin 4), (if Int32.ofNat s.val = 0 then (0 : Int32) else if (Int32.ofNat n.val - 113) ≤ 0 then 0 else (Int32.ofNat n.val - 113) >>> ((3 - Int32.ofNat s.val) &&& 31)) = zGs (Int32.ofNat n.val - 113) (Int32.ofNat s.val) := by decide +kernel
theorem zGk_r (hb : zRb r) (h9 : c < 9) : zr (-112) 112 (zGk r c) := by
  obtain ⟨n, en⟩ := z_F (m := 512) (zFq_r hb h9) (by decide)
  obtain ⟨b, eb⟩ := z_F (m := 8) (zBk_r hb h9) (by decide)
  have k1 : zr 0 112 (zKp (zFq r c / 32)) := by rw [en]; exact (z_kp n).2
  have k2 : ∀ b : Fin 8, 0 ≤ (16 * (7 - Int32.ofNat b.val)).toInt ∧ (16 * (7 - Int32.ofNat b.val)).toInt ≤ 112 := by decide
  have k3 : zr 0 112 (16 * (7 - zBkw r c)) := by rw [eb]; exact k2 b
  have t := z_tsub k1 k3 (by decide)
  have a0 := k1.1
  have a1 := k1.2
  have b0 := k3.1
  have b1 := k3.2
  exact ⟨by show -112 ≤ (zKp (zFq r c / 32) - (16 * (7 - zBkw r c))).toInt; rw [t]; omega, by show (zKp (zFq r c / 32) - (16 * (7 - zBkw r c))).toInt ≤ 112; rw [t]; omega⟩
theorem z_s6 : ∀ n : Fin 256, 0 ≤ ((Int32.ofNat n.val >>> ((6 : Int32) &&& 31))).toInt ∧ ((Int32.ofNat n.val >>> ((6 : Int32) &&& 31))).toInt ≤ 3 := by decide +kernel
theorem c_scal (hc : zCk r c σ) (hb : zRb r) (h9 : c < 9) (hk : k < 8) : zpc (fX10_scaled σ ((zPB r c k) >>> ((6 : Int32) &&& 31))) (fun z => z = (σ, zGs (zGk r c) ((zPB r c k) >>> ((6 : Int32) &&& 31)))) := by
  obtain ⟨n, en⟩ := z_F (m := 512) (zFq_r hb h9) (by decide)
  obtain ⟨p, ep⟩ := z_F (m := 256) (zPB_r hb h9 hk) (by decide)
  have s4 : zr 0 3 ((zPB r c k) >>> ((6 : Int32) &&& 31)) := by rw [ep]; exact z_s6 p
  obtain ⟨s, es⟩ := z_F (m := 4) s4 (by decide)
  have gr := zGk_r hb h9
  have g0 := gr.1
  have g1 := gr.2
  have t := z_tadd gr (zr_c (lo := 113) (hi := 113) (x := 113) (by decide)) (by decide)
  have c113 : (113 : Int32).toInt = 113 := rfl
  obtain ⟨g, eg⟩ := z_F (m := 226) (x := zGk r c + 113) (b := 225) ⟨by rw [t]; omega, by rw [t]; omega⟩ (by decide)
  have eg2 : zGk r c = Int32.ofNat g.val - 113 := by rw [← eg, Int32.add_sub_cancel]
  have key := z_gs g s
  rw [← eg2, ← es] at key
  rw [← key]
  unfold fX10_scaled fX10_scaled_44
  have e8 : zt8 ((((zgi σ 5 4) >>> ((5 : Int32) &&& 31)) &&& 15).toNatClampNeg) = zKp (zFq r c / 32) := by
    rw [show zgi σ 5 4 = zFq r c from hc.2.1.2.1, en]
    exact (z_kp n).1
  rw [e8, show zgi σ 5 5 = zBkw r c from hc.2.1.2.2.1]
  refine zpWif (fun _ => zpc_some rfl) (fun _ => zpc_ck (zpc_bv (fun v1 e1 => ?_)))
  have e1 : v1 = zGk r c := e1
  subst e1
  exact zpWif (fun _ => zpc_some rfl) (fun _ => zpc_some rfl)
/-- loudness of the channel -/
noncomputable def zLd (r : Nat → Int32) (c o : Nat) : Int32 := if o = 0 then (if zRy r c = 0 then 2 * (zPB r c 2 &&& 63) else if c < 7 then 2 * (zPB r c 2 &&& 63) else 8 * (r (48 + c) >>> ((4 : Int32) &&& 31))) else 8 * (r (48 + c) &&& 15)
theorem z_low : ∀ n : Fin 256, (8 * ((Int32.ofNat n.val &&& 63) / 4)) + (2 * (zrem (Int32.ofNat n.val &&& 63) 4)) = 2 * (Int32.ofNat n.val &&& 63) := by decide +kernel
noncomputable def zQ210 (m : Nat) : Int32 := Int32.ofNat (m / 64 % 210)
noncomputable def zAm (r : Nat → Int32) (c o m : Nat) : Int32 := if (zPB r c o &&& 128) = 0 then 0 else if 105 ≤ zQ210 m then (210 - zQ210 m) / 8 else zQ210 m / 8
noncomputable def zSf (r : Nat → Int32) (c o m : Nat) (v : Int32) : Int32 := zmin 127 (((v + zGs (zGk r c) ((zPB r c (2 + o)) >>> ((6 : Int32) &&& 31))) + zLd r c o) + zAm r c o m)
end ZWG
end ZJN13
section ZJN14
/-! WAVES: ONE OPERATOR OF BOTH -/
section ZWH
variable {σ μ s t : zSt} {r : Nat → Int32} {c o m h l a k q j A : Nat} {Q : zSt → zSt → Prop}
theorem zRy_0 (z : (r 14 &&& 32) = 0) : zRy r c = 0 := by
  unfold zRy
  by_cases y : Int32.ofNat c ≤ 5
  · rw [if_pos y]
  · rw [if_neg y, if_pos z]
theorem z_ofB {a b : Nat} (h : b ≤ a) (ha : a < 100000) : Int32.ofNat a - Int32.ofNat b = Int32.ofNat (a - b) := by
  refine z_ofN ?_
  rw [z_tsub (x := Int32.ofNat a) (y := Int32.ofNat b) (a := 0) (b := 100000) (c := 0) (d := 100000) ⟨by rw [z_ofI ha]; omega, by rw [z_ofI ha]; omega⟩ ⟨by rw [z_ofI (by omega)]; omega, by rw [z_ofI (by omega)]; omega⟩ (by decide), z_ofI ha, z_ofI (by omega)]
  omega
theorem c_tp (hc : zCk r c σ) (h9 : c < 9) (ho : o < 2) (eq : q = 2 * c + o) : zpc (fX10_turnedPhase σ (Int32.ofNat (128 + 8 * q)) (Int32.ofNat o)) (fun z => z = (σ, zTp r c o ((σ.1 32 (128 + 8 * q + 2)) >>> ((9 : Int32) &&& 31)) (zBd r c o (σ.1 32 (128 + 8 * q - 5)) (σ.1 32 (128 + 8 * q + 3)) (σ.1 32 (128 + 8 * q + 4))) (zDx ((σ.1 32 242) >>> ((9 : Int32) &&& 31)) ((σ.1 32 266) >>> ((9 : Int32) &&& 31))) (zDy (σ.1 32 65)))) := by
  have j2 : (Int32.ofNat (128 + 8 * q) + 2).toNatClampNeg = 128 + 8 * q + 2 := z_atk (m := 2) (by omega)
  have j3 : (Int32.ofNat (128 + 8 * q) + 3).toNatClampNeg = 128 + 8 * q + 3 := z_atk (m := 3) (by omega)
  have j4 : (Int32.ofNat (128 + 8 * q) + 4).toNatClampNeg = 128 + 8 * q + 4 := z_atk (m := 4) (by omega)
  have j5 : ((Int32.ofNat (128 + 8 * q) - 8) + 3).toNatClampNeg = 128 + 8 * q - 5 := by
    rw [show Int32.ofNat (128 + 8 * q) - 8 = Int32.ofNat (128 + 8 * q - 8) from z_ofB (b := 8) (by omega) (by omega)]
    rw [show (Int32.ofNat (128 + 8 * q - 8) + 3).toNatClampNeg = 128 + 8 * q - 8 + 3 from z_atk (m := 3) (by omega)]
    omega
  obtain ⟨o0, o1⟩ := z_o01 ⟨o, ho⟩
  have o1 : Int32.ofNat o = 1 ↔ ¬ o = 0 := o1
  obtain ⟨_, _, c7, _, c5⟩ := z_c78 ⟨c, h9⟩
  have c7 : Int32.ofNat c < 7 ↔ c < 7 := c7
  have c5 : Int32.ofNat c ≤ 5 ↔ c < 6 := c5
  unfold fX10_turnedPhase
  rw [j2, show zgi σ 5 2 = (if (r 14 &&& 32) = 0 then 0 else 1) from hc.2.2, show zgi σ 5 3 = Int32.ofNat c from hc.2.1.1]
  refine zpc_ck (zpc_bv (fun v4 e4 => ?_))
  have e4 : v4 = ((σ.1 32 (128 + 8 * q + 2)) >>> ((9 : Int32) &&& 31)) := e4
  subst e4
  have g35 : ∀ p : Int32, zpc (fX10_turnedPhase_35 σ (Int32.ofNat (128 + 8 * q)) (Int32.ofNat o) p) (fun z => z = (σ, p + zBd r c o (σ.1 32 (128 + 8 * q - 5)) (σ.1 32 (128 + 8 * q + 3)) (σ.1 32 (128 + 8 * q + 4)))) := fun p => by
    unfold fX10_turnedPhase_35 fX10_turnedPhase_98 zBd
    rw [j3, j4, j5]
    by_cases z : o = 0
    · rw [if_pos z]
      refine zpc_if (fun u => absurd z (o1.mp u)) (fun _ => zpc_bi (c_part hc.2.1 (k := 3) (by decide) rfl) (fun s1 v2 e => ?_))
      cases e
      refine zpc_bv (fun v3 e3 => ?_)
      subst e3
      by_cases y : (zPB r c 3 &&& 7) = 0
      · rw [if_pos y, if_pos y, Int32.add_zero]
        exact zpc_some rfl
      · rw [if_neg y, if_neg y]
        exact zpc_ck (zpc_ck (zpc_some rfl))
    · rw [if_neg z]
      exact zpc_if (fun _ => zpc_ck (zpc_some rfl)) (fun u => absurd (o1.mpr z) u)
  unfold zTp
  by_cases z : (r 14 &&& 32) = 0
  · have y : zRy r c = 0 := zRy_0 z
    rw [if_pos z, if_pos y]
    exact zpc_if (fun _ => g35 _) (fun u => absurd rfl u)
  · rw [if_neg z]
    refine zpc_if (fun u => absurd u (by decide)) (fun _ => ?_)
    by_cases y : c < 7
    · have w : (if zRy r c = 0 then ((σ.1 32 (128 + 8 * q + 2)) >>> ((9 : Int32) &&& 31)) + zBd r c o (σ.1 32 (128 + 8 * q - 5)) (σ.1 32 (128 + 8 * q + 3)) (σ.1 32 (128 + 8 * q + 4)) else if c < 7 then ((σ.1 32 (128 + 8 * q + 2)) >>> ((9 : Int32) &&& 31)) + zBd r c o (σ.1 32 (128 + 8 * q - 5)) (σ.1 32 (128 + 8 * q + 3)) (σ.1 32 (128 + 8 * q + 4)) else zDr8 c o ((σ.1 32 (128 + 8 * q + 2)) >>> ((9 : Int32) &&& 31)) (zDx ((σ.1 32 242) >>> ((9 : Int32) &&& 31)) ((σ.1 32 266) >>> ((9 : Int32) &&& 31))) (zDy (σ.1 32 65))) = ((σ.1 32 (128 + 8 * q + 2)) >>> ((9 : Int32) &&& 31)) + zBd r c o (σ.1 32 (128 + 8 * q - 5)) (σ.1 32 (128 + 8 * q + 3)) (σ.1 32 (128 + 8 * q + 4)) := by
        rw [if_pos y]
        split <;> rfl
      rw [w]
      exact zpc_if (fun _ => g35 _) (fun u => absurd (c7.mpr y) u)
    · have nz : ¬ zRy r c = 0 := by
        unfold zRy
        rw [if_neg (fun u => y (by have := c5.mp u; omega)), if_neg z]
        decide
      rw [if_neg nz, if_neg y]
      refine zpc_if (fun u => absurd (c7.mp u) y) (fun _ => zpc_bi (c_drum hc.2.1.1 h9 (by omega) ho) (fun s5 v6 e => ?_))
      cases e
      exact zpc_some rfl
theorem c_trem (hn : σ.1 32 66 = Int32.ofNat m) (hm : m ≤ 1000000000) : zpc (fX10_tremble σ ) (fun z => z = (σ, if 105 ≤ zQ210 m then (210 - zQ210 m) / 8 else zQ210 m / 8)) := by
  have e : zrem (Int32.ofNat m / 64) 210 = zQ210 m := by
    have i := zNn_i hm
    have d := z_tdiv (x := Int32.ofNat m) (y := 64) (a := 0) (b := 1000000000) 64 rfl ⟨by rw [i]; omega, by rw [i]; omega⟩ (by decide)
    have f := z_trem (x := Int32.ofNat m / 64) (y := 210) (a := 0) (b := 1000000000) 210 rfl ⟨by rw [d, i]; omega, by rw [d, i]; omega⟩ (by decide)
    refine z_ofN ?_
    rw [f, d, i]
    omega
  unfold fX10_tremble fX10_tremble_30
  rw [show zgi σ 32 (66 : Int32).toNatClampNeg = Int32.ofNat m from hn, e]
  refine zpc_ck (zpc_ck (zpc_ck (zpc_bv (fun v1 e1 => ?_))))
  subst e1
  exact zpWif (fun _ => zpc_ck (zpc_some rfl)) (fun _ => zpc_ck (zpc_some rfl))
theorem c_soft (hc : zCk r c σ) (hb : zRb r) (h9 : c < 9) (ho : o < 2) (hn : σ.1 32 66 = Int32.ofNat m) (hm : m ≤ 1000000000) (hA : A < 300) : zpc (fX10_softness σ (Int32.ofNat A) (Int32.ofNat o)) (fun z => z = (σ, zSf r c o m (σ.1 32 A))) := by
  have j0 : (Int32.ofNat A + 0).toNatClampNeg = A := z_atk (m := 0) (by omega)
  obtain ⟨o0, o1⟩ := z_o01 ⟨o, ho⟩
  have o1 : Int32.ofNat o = 1 ↔ ¬ o = 0 := o1
  obtain ⟨_, _, c7, _, c5⟩ := z_c78 ⟨c, h9⟩
  have c7 : Int32.ofNat c < 7 ↔ c < 7 := c7
  have c5 : Int32.ofNat c ≤ 5 ↔ c < 6 := c5
  have g103 : ∀ x : Int32, zpc (fX10_softness_103 σ (Int32.ofNat o) x) (fun z => z = (σ, zmin 127 (x + zAm r c o m))) := fun x => by
    unfold fX10_softness_103 fX10_softness_124 zAm
    refine zpc_bi (c_part hc.2.1 (k := o) (by omega) rfl) (fun s1 v2 e => ?_)
    cases e
    by_cases y : (zPB r c o &&& 128) = 0
    · rw [if_pos y, if_pos y, Int32.add_zero]
      exact zpc_some rfl
    · rw [if_neg y, if_neg y]
      refine zpc_bi (c_trem hn hm) (fun s3 v4 e => ?_)
      cases e
      refine zpc_bv (fun v5 e5 => ?_)
      subst e5
      exact zpc_some rfl
  unfold fX10_softness
  rw [j0, show zgi σ 5 3 = Int32.ofNat c from hc.2.1.1, show (48 + Int32.ofNat c).toNatClampNeg = 48 + c from z_atk (a := 48) (m := c) (by omega), show zgi σ 32 (48 + c) = r (48 + c) from hc.1 _ (by omega)]
  refine zpc_ck (zpc_bv (fun v9 e9 => zpc_ck (zpc_bi (c_part hc.2.1 (k := 2 + o) (by omega) (z_ofA (a := 2))) (fun s10 v11 e => ?_))))
  subst e9
  cases e
  refine zpc_bi (c_scal hc hb h9 (k := 2 + o) (by omega)) (fun s12 v13 e => ?_)
  cases e
  refine zpc_bv (fun v14 e14 => ?_)
  have e14 : v14 = σ.1 32 A + zGs (zGk r c) ((zPB r c (2 + o)) >>> ((6 : Int32) &&& 31)) := e14
  subst e14
  have g88 : zLd r c o = 2 * (zPB r c 2 &&& 63) → zpc (fX10_softness_88 σ (Int32.ofNat o) (σ.1 32 A + zGs (zGk r c) ((zPB r c (2 + o)) >>> ((6 : Int32) &&& 31)))) (fun z => z = (σ, zSf r c o m (σ.1 32 A))) := fun el => by
    unfold fX10_softness_88 zSf
    rw [el]
    refine zpc_bi (c_part hc.2.1 (k := 2) (by decide) rfl) (fun s6 v7 e => ?_)
    cases e
    refine zpc_bv (fun v8 e8 => ?_)
    subst e8
    exact g103 _
  rw [show zgi σ 5 2 = (if (r 14 &&& 32) = 0 then 0 else 1) from hc.2.2, show zgi σ 5 3 = Int32.ofNat c from hc.2.1.1]
  by_cases z : o = 0
  · refine zpc_if (fun u => absurd z (o1.mp u)) (fun _ => ?_)
    by_cases y : (r 14 &&& 32) = 0
    · rw [if_pos y]
      refine zpc_if (fun _ => g88 ?_) (fun u => absurd rfl u)
      have w : zRy r c = 0 := zRy_0 y
      unfold zLd
      rw [if_pos z, if_pos w]
    · rw [if_neg y]
      refine zpc_if (fun u => absurd u (by decide)) (fun _ => ?_)
      by_cases x : c < 7
      · refine zpc_if (fun _ => g88 ?_) (fun u => absurd (c7.mpr x) u)
        unfold zLd
        rw [if_pos z, if_pos x]
        split <;> rfl
      · refine zpc_if (fun u => absurd (c7.mp u) x) (fun _ => zpc_bv (fun v15 e15 => ?_))
        subst e15
        have nz : ¬ zRy r c = 0 := by
          unfold zRy
          rw [if_neg (fun u => x (by have := c5.mp u; omega)), if_neg y]
          decide
        unfold zSf zLd
        rw [if_pos z, if_neg nz, if_neg x]
        exact g103 _
  · refine zpc_if (fun _ => zpc_bv (fun v16 e16 => ?_)) (fun u => absurd (o1.mpr z) u)
    subst e16
    unfold zSf zLd
    rw [if_neg z]
    exact g103 _
/-! ranges -/
theorem zGs_r {g s : Int32} (h : zr (-112) 112 g) : zr 0 112 (zGs g s) := by
  have h0 := h.1
  have h1 := h.2
  unfold zGs
  by_cases q : g < 0
  · rw [if_pos q]; exact zr_c (by decide)
  · rw [if_neg q]
    have q1 := Int32.le_iff_toInt_le.mp (z_nlt q)
    rw [show (0 : Int32).toInt = 0 from rfl] at q1
    have d4 := z_tdiv (x := g) (y := 4) (a := 0) (b := 112) 4 rfl ⟨q1, h1⟩ (by decide)
    have d2 := z_tdiv (x := g) (y := 2) (a := 0) (b := 112) 2 rfl ⟨q1, h1⟩ (by decide)
    split
    · exact zr_c (by decide)
    split
    · exact ⟨by rw [d4]; omega, by rw [d4]; omega⟩
    split
    · exact ⟨by rw [d2]; omega, by rw [d2]; omega⟩
    · exact ⟨q1, h1⟩
theorem z_ldr : ∀ n : Fin 256, (0 ≤ (2 * (Int32.ofNat n.val &&& 63)).toInt ∧ (2 * (Int32.ofNat n.val &&& 63)).toInt ≤ 126) ∧ (0 ≤ (8 * (Int32.ofNat n.val >>> ((4 : Int32) &&& 31))).toInt ∧ (8 * (Int32.ofNat n.val >>> ((4 : Int32) &&& 31))).toInt ≤ 126) ∧ (0 ≤ (8 * (Int32.ofNat n.val &&& 15)).toInt ∧ (8 * (Int32.ofNat n.val &&& 15)).toInt ≤ 126) := by decide +kernel
theorem zLd_r (hb : zRb r) (h9 : c < 9) : zr 0 126 (zLd r c o) := by
  obtain ⟨n, en⟩ := z_F (m := 256) (zPB_r (k := 2) hb h9 (by decide)) (by decide)
  obtain ⟨p, ep⟩ := z_F (m := 256) (hb (48 + c) (by omega)) (by decide)
  unfold zLd
  rw [en, ep]
  by_cases z : o = 0
  · rw [if_pos z]
    by_cases y : zRy r c = 0
    · rw [if_pos y]; exact (z_ldr n).1
    · rw [if_neg y]
      by_cases x : c < 7
      · rw [if_pos x]; exact (z_ldr n).1
      · rw [if_neg x]; exact (z_ldr p).2.1
  · rw [if_neg z]; exact (z_ldr p).2.2
theorem zAm_r : zr 0 26 (zAm r c o m) := by
  have k : ∀ n : Fin 210, (0 ≤ ((210 - Int32.ofNat n.val) / 8).toInt ∧ ((210 - Int32.ofNat n.val) / 8).toInt ≤ 26) ∧ (0 ≤ (Int32.ofNat n.val / 8).toInt ∧ (Int32.ofNat n.val / 8).toInt ≤ 26) := by decide +kernel
  have kk := k ⟨m / 64 % 210, by omega⟩
  unfold zAm zQ210
  by_cases z : (zPB r c o &&& 128) = 0
  · rw [if_pos z]; exact zr_c (by decide)
  · rw [if_neg z]
    by_cases y : 105 ≤ Int32.ofNat (m / 64 % 210)
    · rw [if_pos y]; exact kk.1
    · rw [if_neg y]; exact kk.2
theorem zSf_r (hb : zRb r) (h9 : c < 9) {v : Int32} (hv : zr 0 127 v) : zr 0 127 (zSf r c o m v) := by
  have g := zGs_r (s := ((zPB r c (2 + o)) >>> ((6 : Int32) &&& 31))) (zGk_r hb h9)
  have l := zLd_r (o := o) hb h9
  have a := zAm_r (r := r) (c := c) (o := o) (m := m)
  have s1 := zr_add (lo := 0) (hi := 239) hv g (by decide)
  have s2 := zr_add (lo := 0) (hi := 365) s1 l (by decide)
  have s3 := zr_add (lo := 0) (hi := 391) s2 a (by decide)
  unfold zSf zmin
  by_cases q : (((v + zGs (zGk r c) ((zPB r c (2 + o)) >>> ((6 : Int32) &&& 31))) + zLd r c o) + zAm r c o m) < (127 : Int32)
  · rw [if_pos q]
    have q1 := Int32.lt_iff_toInt_lt.mp q
    rw [show (127 : Int32).toInt = 127 from rfl] at q1
    exact ⟨s3.1, by omega⟩
  · rw [if_neg q]; exact zr_c (by decide)
/-! the wave -/
noncomputable def zWiw (p : Int32) : Int32 := if (p &&& 256) = 0 then p &&& 255 else 255 - (p &&& 255)
noncomputable def zWqw (p t : Int32) : Int32 := 2 * ((1024 + (zt10 (255 - (((zt9 (zWiw p).toNatClampNeg) + (16 * t)) &&& 255)).toNatClampNeg)) >>> ((((zt9 (zWiw p).toNatClampNeg) + (16 * t)) >>> ((8 : Int32) &&& 31)) &&& 31))
noncomputable def zWv (p t hv : Int32) : Int32 := if (p &&& 512) = 0 then zWqw p t else if hv = 0 then -(zWqw p t) else 0
theorem c_wave {p t hv : Int32} : zpc (fX10_waveAt σ p t hv) (fun z => z = (σ, zWv p t hv)) := by
  have g24 : ∀ b : Int32, zpc (fX10_waveAt_24 σ p t b) (fun z => z = (σ, if b = 0 then zWqw p t else -(zWqw p t))) := fun b => by
    have g49 : ∀ i : Int32, i = zWiw p → zpc (fX10_waveAt_49 σ t b i) (fun z => z = (σ, if b = 0 then zWqw p t else -(zWqw p t))) := fun i ei => by
      subst ei
      unfold fX10_waveAt_49 fX10_waveAt_104
      refine zpc_ck (zpc_bv (fun v1 e1 => zpc_ck (zpc_bv (fun v2 e2 => ?_))))
      subst e1
      subst e2
      exact zpWif (fun _ => zpc_some rfl) (fun _ => zpc_some rfl)
    unfold fX10_waveAt_24
    by_cases z : (p &&& 256) = 0
    · refine zpc_if (fun _ => g49 _ ?_) (fun u => absurd z u)
      unfold zWiw
      rw [if_pos z]
    · refine zpc_if (fun u => absurd u z) (fun _ => g49 _ ?_)
      unfold zWiw
      rw [if_neg z]
  unfold fX10_waveAt fX10_waveAt_13 zWv
  by_cases z : (p &&& 512) = 0
  · rw [if_pos z, if_pos z]
    refine zpc_if (fun _ => ?_) (fun u => absurd rfl u)
    have y := g24 0
    rw [if_pos rfl] at y
    exact y
  · rw [if_neg z, if_neg z]
    refine zpc_if (fun u => absurd u (by decide)) (fun _ => ?_)
    by_cases x : hv = 0
    · rw [if_pos x, if_pos x]
      have y := g24 1
      rw [if_neg (by decide)] at y
      exact y
    · rw [if_neg x, if_neg x]
      exact zpc_some rfl
noncomputable def zHv (r : Nat → Int32) (c o : Nat) : Int32 := if ((zPB r c 3 >>> ((3 + Int32.ofNat o) &&& 31)) &&& 1) = 1 then 1 else 0
/-- what it gives -/
noncomputable def zOut (r : Nat → Int32) (c o m : Nat) (v p d x y : Int32) : Int32 := if 124 ≤ v then 0 else zWv (zTp r c o p d x y &&& 1023) (zSf r c o m v) (zHv r c o)
theorem c_outw (hc : zCk r c σ) (hb : zRb r) (h9 : c < 9) (ho : o < 2) (eq : q = 2 * c + o) (hn : σ.1 32 66 = Int32.ofNat m) (hm : m ≤ 1000000000) : zpc (fX10_moveOut σ (Int32.ofNat (128 + 8 * q)) (Int32.ofNat o)) (fun s => s = zsi (zsi σ 32 (128 + 8 * q + 4) (σ.1 32 (128 + 8 * q + 3))) 32 (128 + 8 * q + 3) (zOut r c o m (σ.1 32 (128 + 8 * q)) ((σ.1 32 (128 + 8 * q + 2)) >>> ((9 : Int32) &&& 31)) (zBd r c o (σ.1 32 (128 + 8 * q - 5)) (σ.1 32 (128 + 8 * q + 3)) (σ.1 32 (128 + 8 * q + 4))) (zDx ((σ.1 32 242) >>> ((9 : Int32) &&& 31)) ((σ.1 32 266) >>> ((9 : Int32) &&& 31))) (zDy (σ.1 32 65)))) := by
  have hq : q < 18 := by omega
  have j0 : (Int32.ofNat (128 + 8 * q) + 0).toNatClampNeg = 128 + 8 * q := z_atk (m := 0) (by omega)
  have j3 : (Int32.ofNat (128 + 8 * q) + 3).toNatClampNeg = 128 + 8 * q + 3 := z_atk (m := 3) (by omega)
  have j4 : (Int32.ofNat (128 + 8 * q) + 4).toNatClampNeg = 128 + 8 * q + 4 := z_atk (m := 4) (by omega)
  have g55 : ∀ v : Int32, zpc (fX10_moveOut_55 σ (Int32.ofNat (128 + 8 * q)) v) (fun s => s = zsi (zsi σ 32 (128 + 8 * q + 4) (σ.1 32 (128 + 8 * q + 3))) 32 (128 + 8 * q + 3) v) := fun v => by
    unfold fX10_moveOut_55
    rw [j3, j4]
    exact zpc_ck (zpc_ck (zpc_bv (fun s1 e1 => zpc_ck (zpc_bv (fun s2 e2 => zpc_some (by rw [e2, e1]; rfl))))))
  unfold fX10_moveOut zOut
  rw [j0, show zgi σ 32 (128 + 8 * q) = σ.1 32 (128 + 8 * q) from rfl]
  by_cases z : 124 ≤ σ.1 32 (128 + 8 * q)
  · rw [if_pos z, if_pos z]
    exact zpc_ck (g55 0)
  · rw [if_neg z, if_neg z]
    refine zpc_ck (zpc_bi (c_tp hc h9 ho eq) (fun s5 v6 e => ?_))
    cases e
    refine zpc_bi (c_soft hc hb h9 ho hn hm (by omega)) (fun s7 v8 e => ?_)
    cases e
    refine zpc_bi (c_part hc.2.1 (k := 3) (by decide) rfl) (fun s9 v10 e => ?_)
    cases e
    have g51 : ∀ hv : Int32, zpc (fX10_moveOut_51 σ (Int32.ofNat (128 + 8 * q)) hv (zSf r c o m (σ.1 32 (128 + 8 * q))) (zTp r c o ((σ.1 32 (128 + 8 * q + 2)) >>> ((9 : Int32) &&& 31)) (zBd r c o (σ.1 32 (128 + 8 * q - 5)) (σ.1 32 (128 + 8 * q + 3)) (σ.1 32 (128 + 8 * q + 4))) (zDx ((σ.1 32 242) >>> ((9 : Int32) &&& 31)) ((σ.1 32 266) >>> ((9 : Int32) &&& 31))) (zDy (σ.1 32 65)) &&& 1023)) (fun s => s = zsi (zsi σ 32 (128 + 8 * q + 4) (σ.1 32 (128 + 8 * q + 3))) 32 (128 + 8 * q + 3) (zWv (zTp r c o ((σ.1 32 (128 + 8 * q + 2)) >>> ((9 : Int32) &&& 31)) (zBd r c o (σ.1 32 (128 + 8 * q - 5)) (σ.1 32 (128 + 8 * q + 3)) (σ.1 32 (128 + 8 * q + 4))) (zDx ((σ.1 32 242) >>> ((9 : Int32) &&& 31)) ((σ.1 32 266) >>> ((9 : Int32) &&& 31))) (zDy (σ.1 32 65)) &&& 1023) (zSf r c o m (σ.1 32 (128 + 8 * q))) hv)) := fun hv => by
      unfold fX10_moveOut_51
      refine zpc_bi c_wave (fun s3 v4 e => ?_)
      cases e
      exact g55 _
    unfold zHv
    by_cases y : ((zPB r c 3 >>> ((3 + Int32.ofNat o) &&& 31)) &&& 1) = 1
    · rw [if_pos y, if_pos y]; exact g51 1
    · rw [if_neg y, if_neg y]; exact g51 0
end ZWH
end ZJN14
section ZJN15
/-! WAVES: THE REFERENCE'S OPERATOR; BOTH -/
section ZWI
variable {σ μ s t : zSt} {r : Nat → Int32} {c o m h l a k q j A : Nat} {Q : zSt → zSt → Prop}
theorem z_t9 : ∀ n : Fin 256, zt11 n.val = zt9 n.val ∧ zt12 n.val = zt10 n.val ∧ (0 ≤ (zt9 n.val).toInt ∧ (zt9 n.val).toInt ≤ 2137) := by decide +kernel
theorem z_pm : ∀ n : Fin 1024, zrem (Int32.ofNat n.val) 256 = Int32.ofNat n.val &&& 255 ∧ (0 ≤ (zWiw (Int32.ofNat n.val)).toInt ∧ (zWiw (Int32.ofNat n.val)).toInt ≤ 255) := by decide +kernel
theorem m_296 (hr : zRm r μ) (h9 : c < 9) (ho : o < 2) {p v : Int32} (hp : zr 0 1023 p) (hv : zr 0 127 v) : zpc (fX12_waveAt_296 μ (Int32.ofNat c) (Int32.ofNat o) p (zWiw p) v) (fun z => z = (μ, zWv p v (zHv r c o))) := by
  obtain ⟨n, en⟩ := z_F (m := 1024) hp (by decide)
  have wi : zr 0 255 (zWiw p) := by rw [en]; exact (z_pm n).2
  obtain ⟨i, ei⟩ := z_F (m := 256) wi (by decide)
  obtain ⟨t1, _, t3⟩ := z_t9 i
  have iw : (zWiw p).toNatClampNeg = i.val := by rw [ei]; exact z_ofC (by omega)
  have v0 := hv.1
  have v1 := hv.2
  have r9 : zr 0 2137 (zt9 (zWiw p).toNatClampNeg) := by rw [iw]; exact t3
  have m16 := zr_mul (lo := 0) (hi := 2032) (zr_c (x := 16) (lo := 16) (hi := 16) (by decide)) hv (by decide)
  have s1 := zr_add (lo := 0) (hi := 4169) r9 m16 (by decide)
  have e11 : zt11 (zWiw p).toNatClampNeg = zt9 (zWiw p).toNatClampNeg := by rw [iw]; exact t1
  generalize hx : zt9 (zWiw p).toNatClampNeg + (16 * v) = x at s1
  have a255 : (x &&& 255).toInt = x.toInt % 256 := z_mask (k := 8) s1.1 rfl (by decide)
  have b255 := z_trem (x := x) (y := 256) 256 rfl s1 (by decide)
  have er : zrem x 256 = x &&& 255 := Int32.toInt_inj.mp (by rw [a255, b255])
  have a8 : ((x >>> ((8 : Int32) &&& 31))).toInt = x.toInt / 256 := z_quo (k := 8) (s := (8 : Int32) &&& 31) s1.1 rfl
  have b8 := z_tdiv (x := x) (y := 256) 256 rfl s1 (by decide)
  have ed : x / 256 = (x >>> ((8 : Int32) &&& 31)) := Int32.toInt_inj.mp (by rw [a8, b8])
  have r255 : zr 0 255 (255 - (x &&& 255)) := by
    have t := z_tsub (x := 255) (y := x &&& 255) (a := 255) (b := 255) (c := 0) (d := 255) (zr_c (by decide)) ⟨by rw [a255]; omega, by rw [a255]; omega⟩ (by decide)
    exact ⟨by rw [t, a255, show (255 : Int32).toInt = 255 from rfl]; omega, by rw [t, a255, show (255 : Int32).toInt = 255 from rfl]; omega⟩
  obtain ⟨k, ek⟩ := z_F (m := 256) r255 (by decide)
  have e12 : zt12 (255 - (x &&& 255)).toNatClampNeg = zt10 (255 - (x &&& 255)).toNatClampNeg := by
    have kw : (255 - (x &&& 255)).toNatClampNeg = k.val := by rw [ek]; exact z_ofC (by omega)
    rw [kw]
    exact (z_t9 k).2.1
  unfold fX12_waveAt_296 fX12_waveAt_376 zWv zWqw
  rw [e11, hx]
  refine zpc_ck (zpc_bv (fun w1 f1 => ?_))
  subst f1
  rw [er, ed, e12]
  refine zpc_ck (zpc_ck (zpc_ck (zpc_bv (fun w2 f2 => ?_))))
  subst f2
  refine zpWif (fun _ => zpc_some rfl) (fun _ => zpc_bi (m_pb hr h9 (k := 3) (by decide) rfl) (fun s3 v4 e => ?_))
  cases e
  unfold zHv
  by_cases y : ((zPB r c 3 >>> ((3 + Int32.ofNat o) &&& 31)) &&& 1) = 1
  · rw [if_pos y, if_pos y, if_neg (by decide)]
    exact zpc_some rfl
  · rw [if_neg y, if_neg y, if_pos rfl]
    exact zpc_some rfl
theorem z_p10 : ∀ n : Fin 256, 0 ≤ (zt10 n.val).toInt ∧ (zt10 n.val).toInt ≤ 1018 := by decide +kernel
theorem zWqw_r {p v : Int32} : zr 0 4084 (zWqw p v) := by
  unfold zWqw
  generalize (zt9 (zWiw p).toNatClampNeg) + (16 * v) = x
  have a : zr 0 255 (x &&& 255) := z_r8 x
  have a0 := a.1
  have a1 := a.2
  have t := z_tsub (x := 255) (y := x &&& 255) (a := 255) (b := 255) (c := 0) (d := 255) (zr_c (by decide)) a (by decide)
  have r255 : zr 0 255 (255 - (x &&& 255)) := ⟨by rw [t, show (255 : Int32).toInt = 255 from rfl]; omega, by rw [t, show (255 : Int32).toInt = 255 from rfl]; omega⟩
  obtain ⟨k, ek⟩ := z_F (m := 256) r255 (by decide)
  have kw : (255 - (x &&& 255)).toNatClampNeg = k.val := by rw [ek]; exact z_ofC (by omega)
  have b : zr 0 1018 (zt10 (255 - (x &&& 255)).toNatClampNeg) := by rw [kw]; exact z_p10 k
  have s1 := zr_add (lo := 1024) (hi := 2042) (zr_c (x := 1024) (lo := 1024) (hi := 1024) (by decide)) b (by decide)
  generalize 1024 + (zt10 (255 - (x &&& 255)).toNatClampNeg) = y at s1
  have y0 := s1.1
  have y1 := s1.2
  have d := z_quo (x := y) (s := (x >>> ((8 : Int32) &&& 31)) &&& 31) (by omega) rfl
  have pp : (0 : Int) < ((2 ^ ((((x >>> ((8 : Int32) &&& 31)) &&& 31).toBitVec.smod 32).toNat) : Nat) : Int) := by exact_mod_cast Nat.two_pow_pos _
  have e : zr 0 2042 (y >>> ((x >>> ((8 : Int32) &&& 31)) &&& 31)) := ⟨by rw [d]; exact Int.ediv_nonneg (by omega) (Int.le_of_lt pp), by rw [d]; exact Int.le_trans (Int.ediv_le_self _ (by omega)) y1⟩
  exact zr_mul (lo := 0) (hi := 4084) (zr_c (x := 2) (lo := 2) (hi := 2) (by decide)) e (by decide)
theorem zWv_r {p v hv : Int32} : zr (-4084) 4084 (zWv p v hv) := by
  have a := zWqw_r (p := p) (v := v)
  have a0 := a.1
  have a1 := a.2
  unfold zWv
  split
  · exact ⟨by omega, a1⟩
  split
  · have e : (-(zWqw p v)).toInt = -(zWqw p v).toInt := by
      rw [Int32.toInt_neg]
      exact z_bm (by omega) (by omega)
    exact ⟨by rw [e]; omega, by rw [e]; omega⟩
  · exact zr_c (by decide)
theorem zOut_r {v p d x y : Int32} : zr (-4084) 4084 (zOut r c o m v p d x y) := by
  unfold zOut
  split
  · exact zr_c (by decide)
  · exact zWv_r
theorem m_263 (hr : zRm r μ) (h9 : c < 9) (ho : o < 2) {p g d w : Int32} (hp : zr 0 1023 p) (hA : A < 1000) (hv : zr 0 127 (zmin 127 (((μ.1 3 A + g) + d) + w))) : zpc (fX12_waveAt_263 μ (Int32.ofNat A) (Int32.ofNat c) (Int32.ofNat o) p (zWiw p) g d w) (fun z => z = (μ, zWv p (zmin 127 (((μ.1 3 A + g) + d) + w)) (zHv r c o))) := by
  unfold fX12_waveAt_263
  rw [z_ofC (by omega)]
  refine zpc_ck (zpc_bv (fun v5 e5 => ?_))
  have e5 : v5 = ((μ.1 3 A + g) + d) + w := e5
  subst e5
  have mn := z_mn (v := ((μ.1 3 A + g) + d) + w)
  rw [← mn] at hv ⊢
  by_cases y : ((μ.1 3 A + g) + d) + w ≤ 127
  · rw [if_pos y] at hv
    rw [if_pos y, if_pos y]
    exact m_296 hr h9 ho hp hv
  · rw [if_neg y] at hv
    rw [if_neg y, if_neg y]
    exact m_296 hr h9 ho hp hv
theorem m_wavq (hr : zRm r μ) (hb : zRb r) (h9 : c < 9) (ho : o < 2) (hL : (μ.2 4 4).toInt = (m : Int)) (hm : m ≤ 1000000000) (hA : A < 1000) (hl : zr 0 127 (μ.1 3 A)) {p : Int32} (hp : zr 0 1023 p) : zpc (fX12_waveAt μ (Int32.ofNat A) (Int32.ofNat c) (Int32.ofNat o) p) (fun z => z = (μ, if 124 ≤ μ.1 3 A then 0 else zWv p (zSf r c o m (μ.1 3 A)) (zHv r c o))) := by
  obtain ⟨n, en⟩ := z_F (m := 1024) hp (by decide)
  have pm : zrem p 256 = p &&& 255 := by rw [en]; exact (z_pm n).1
  obtain ⟨o0, o1⟩ := z_o01 ⟨o, ho⟩
  have o1 : Int32.ofNat o = 1 ↔ ¬ o = 0 := o1
  obtain ⟨_, _, _, c6, c5⟩ := z_c78 ⟨c, h9⟩
  have c6 : Int32.ofNat c ≤ 6 ↔ c < 7 := c6
  obtain ⟨p2, ep2⟩ := z_F (m := 256) (zPB_r (k := 2) hb h9 (by decide)) (by decide)
  have q210 : (zreml (μ.2 4 4 / 64) 210).toInt32 = zQ210 m := by
    have d := z_tldiv (x := μ.2 4 4) (y := 64) (a := 0) (b := 1000000000) 64 rfl ⟨by omega, by omega⟩ (by decide)
    have e := z_tlrem (x := μ.2 4 4 / 64) (y := 210) (a := 0) (b := 1000000000) 210 rfl ⟨by rw [d]; omega, by rw [d]; omega⟩ (by decide)
    refine z_ofN ?_
    rw [Int64.toInt_toInt32, e, d, hL, Int.bmod_eq_of_le (by omega) (by omega)]
    omega
  have sf := zSf_r (o := o) (m := m) hb h9 hl
  have g206 : ∀ d : Int32, d = zLd r c o → zpc (fX12_waveAt_206 μ (Int32.ofNat A) (Int32.ofNat c) (Int32.ofNat o) p (zWiw p) (zGs (zGk r c) ((zPB r c (2 + o)) >>> ((6 : Int32) &&& 31))) d) (fun z => z = (μ, zWv p (zSf r c o m (μ.1 3 A)) (zHv r c o))) := fun d ed => by
    unfold fX12_waveAt_206 fX12_waveAt_260
    refine zpc_ck (zpc_ck (zpc_ck (zpc_bv (fun v6 e6 => zpc_bi (m_pb hr h9 (k := o) (by omega) rfl) (fun s7 v8 e => ?_)))))
    cases e
    have e6 : v6 = zQ210 m := e6.trans q210
    subst e6
    unfold zSf zAm at sf ⊢
    rw [← ed] at sf ⊢
    by_cases y : (zPB r c o &&& 128) = 0
    · rw [if_pos y] at sf
      rw [if_pos y, if_pos y]
      exact m_263 hr h9 ho hp hA sf
    · rw [if_neg y] at sf
      rw [if_neg y, if_neg y]
      by_cases x : 105 ≤ zQ210 m
      · rw [if_pos x] at sf
        rw [if_pos x, if_pos x]
        exact zpc_ck (m_263 hr h9 ho hp hA sf)
      · rw [if_neg x] at sf
        rw [if_neg x, if_neg x]
        exact zpc_ck (m_263 hr h9 ho hp hA sf)
  have g123 : zpc (fX12_waveAt_123 μ (Int32.ofNat A) (Int32.ofNat c) (Int32.ofNat o) p (zWiw p) (zGs (zGk r c) ((zPB r c (2 + o)) >>> ((6 : Int32) &&& 31)))) (fun z => z = (μ, zWv p (zSf r c o m (μ.1 3 A)) (zHv r c o))) := by
    unfold fX12_waveAt_123
    refine zpc_bi (m_pb hr h9 (k := 2) (by decide) rfl) (fun s9 v10 e => ?_)
    cases e
    refine zpc_bv (fun v11 e11 => zpc_bi (m_wreg hr (j := 48 + c) (by omega) (show 48 + Int32.ofNat c = Int32.ofNat (48 + c) from z_ofA (a := 48))) (fun s12 v13 e => ?_))
    cases e
    subst e11
    refine zpc_bv (fun v14 e14 => ?_)
    subst e14
    have low : (8 * ((zPB r c 2 &&& 63) / 4)) + (2 * (zrem (zPB r c 2 &&& 63) 4)) = 2 * (zPB r c 2 &&& 63) := by rw [ep2]; exact z_low p2
    have g192 : zLd r c o = 2 * (zPB r c 2 &&& 63) → zpc (fX12_waveAt_192 μ (Int32.ofNat A) (Int32.ofNat c) (Int32.ofNat o) p (zWiw p) (zGs (zGk r c) ((zPB r c (2 + o)) >>> ((6 : Int32) &&& 31))) (zPB r c 2 &&& 63)) (fun z => z = (μ, zWv p (zSf r c o m (μ.1 3 A)) (zHv r c o))) := fun el => by
      unfold fX12_waveAt_192
      exact zpc_ck (zpc_ck (g206 _ (low.trans el.symm)))
    by_cases z : o = 0
    · refine zpc_if (fun u => absurd z (o1.mp u)) (fun _ => zpc_bi (m_rhy hr) (fun s15 v16 e => ?_))
      cases e
      by_cases y : zRy r c = 0
      · refine zpc_if (fun _ => g192 ?_) (fun u => absurd y u)
        unfold zLd
        rw [if_pos z, if_pos y]
      · refine zpc_if (fun u => absurd u y) (fun _ => ?_)
        by_cases x : c < 7
        · refine zpc_if (fun _ => g192 ?_) (fun u => absurd (c6.mpr x) u)
          unfold zLd
          rw [if_pos z, if_neg y, if_pos x]
        · refine zpc_if (fun u => absurd (c6.mp u) x) (fun _ => zpc_bi (m_wreg hr (j := 48 + c) (by omega) (show 48 + Int32.ofNat c = Int32.ofNat (48 + c) from z_ofA (a := 48))) (fun s17 v18 e => ?_))
          cases e
          refine g206 _ ?_
          unfold zLd
          rw [if_pos z, if_neg y, if_neg x]
    · refine zpc_if (fun _ => g206 _ ?_) (fun u => absurd (o1.mpr z) u)
      unfold zLd
      rw [if_neg z]
  have g41 : zpc (fX12_waveAt_41 μ (Int32.ofNat A) (Int32.ofNat c) (Int32.ofNat o) p (zWiw p)) (fun z => z = (μ, zWv p (zSf r c o m (μ.1 3 A)) (zHv r c o))) := by
    unfold fX12_waveAt_41 fX12_waveAt_91
    refine zpc_bi (m_pb hr h9 (k := 2 + o) (by omega) (z_ofA (a := 2))) (fun s19 v20 e => ?_)
    cases e
    refine zpc_bv (fun v21 e21 => zpc_bi (m_f hr h9) (fun s22 v23 e => ?_))
    cases e
    subst e21
    refine zpc_ck (zpc_bi m_kept (fun s24 v25 e => ?_))
    cases e
    refine zpc_bi (m_blk hr h9) (fun s26 v27 e => ?_)
    cases e
    refine zpc_bv (fun v28 e28 => ?_)
    have e28 : v28 = zGk r c := e28
    subst e28
    have gs : ∀ v : Int32, v = zGs (zGk r c) ((zPB r c (2 + o)) >>> ((6 : Int32) &&& 31)) → zpc (fX12_waveAt_123 μ (Int32.ofNat A) (Int32.ofNat c) (Int32.ofNat o) p (zWiw p) v) (fun z => z = (μ, zWv p (zSf r c o m (μ.1 3 A)) (zHv r c o))) := fun v ev => by
      rw [ev]
      exact g123
    have us : ∀ g s : Int32, zGs g s = if g < 0 then 0 else if s = 0 then 0 else if s = 1 then g / 4 else if s = 2 then g / 2 else g := fun g s => rfl
    refine zpc_if (fun y1 => gs 0 ?_) (fun y1 => zpc_if (fun y2 => gs 0 ?_) (fun y2 => zpc_if (fun y3 => zpc_ck (gs _ ?_)) (fun y3 => zpc_if (fun y4 => zpc_ck (gs _ ?_)) (fun y4 => gs _ ?_))))
    · rw [us, if_pos y1]
    · rw [us, if_neg y1, if_pos y2]
    · rw [us, if_neg y1, if_neg y2, if_pos y3]
    · rw [us, if_neg y1, if_neg y2, if_neg y3, if_pos y4]
    · rw [us, if_neg y1, if_neg y2, if_neg y3, if_neg y4]
  unfold fX12_waveAt
  rw [z_ofC (by omega), pm]
  refine zpc_ck ?_
  by_cases z : 124 ≤ μ.1 3 A
  · rw [if_pos z]
    have nz : ¬ zgi μ 3 A < 124 := fun u => by
      have a := Int32.le_iff_toInt_le.mp z
      have b := Int32.lt_iff_toInt_lt.mp u
      have b : (μ.1 3 A).toInt < (124 : Int32).toInt := b
      omega
    exact zpc_if (fun u => absurd u nz) (fun _ => zpc_some rfl)
  · rw [if_neg z]
    have nz : zgi μ 3 A < 124 := by
      refine Int32.lt_iff_toInt_lt.mpr ?_
      have a : ¬ (124 : Int32).toInt ≤ (μ.1 3 A).toInt := fun u => z (Int32.le_iff_toInt_le.mpr u)
      show (μ.1 3 A).toInt < (124 : Int32).toInt
      omega
    refine zpc_if (fun _ => ?_) (fun u => absurd nz u)
    have w : zWiw p = if (p &&& 256) = 0 then p &&& 255 else 255 - (p &&& 255) := rfl
    by_cases y : (p &&& 256) = 0
    · rw [if_pos y] at w
      rw [← w]
      exact zpc_if (fun _ => zpc_ck g41) (fun u => absurd y u)
    · rw [if_neg y] at w
      rw [← w]
      exact zpc_if (fun u => absurd u y) (fun _ => zpc_ck g41)
end ZWI
end ZJN15
section ZJN16
/-! WAVES: ONE OPERATOR, ONE CHANNEL, ONE WAVE OF BOTH -/
section ZWJ
variable {σ μ s t : zSt} {r g : Nat → Int32} {c o m h l a k q j A : Nat} {Q : zSt → zSt → Prop}
theorem w_99 (hb : zRb r) (hm : m ≤ 1000000000) (h9 : c < 9) (ho : o < 2) (eq : q = 2 * c + o) (h : zWo r g c m σ μ) : zp2 (fX10_moveOperator_99 σ (Int32.ofNat (128 + 8 * q)) (Int32.ofNat o)) (fX12_operator_190 μ (Int32.ofNat c) (Int32.ofNat o) (Int32.ofNat (172 + 6 * q))) (zWo r g c m) := by
  have hq : q < 18 ∧ 2 * c ≤ q := ⟨by omega, by omega⟩
  have i2 : (Int32.ofNat (172 + 6 * q) + 2).toNatClampNeg = 172 + 6 * q + 2 := z_atk (m := 2) (by omega)
  have i3 : (Int32.ofNat (172 + 6 * q) + 3).toNatClampNeg = 172 + 6 * q + 3 := z_atk (m := 3) (by omega)
  have i4 : (Int32.ofNat (172 + 6 * q) + 4).toNatClampNeg = 172 + 6 * q + 4 := z_atk (m := 4) (by omega)
  have im3 : (Int32.ofNat (172 + 6 * q) - 3).toNatClampNeg = 172 + 6 * q - 3 := by
    rw [show Int32.ofNat (172 + 6 * q) - 3 = Int32.ofNat (172 + 6 * q - 3) from z_ofB (b := 3) (by omega) (by omega)]
    exact z_ofC (by omega)
  obtain ⟨o0, o1⟩ := z_o01 ⟨o, ho⟩
  have o1 : Int32.ofNat o = 1 ↔ ¬ o = 0 := o1
  obtain ⟨_, _, _, c6, _⟩ := z_c78 ⟨c, h9⟩
  have c6 : Int32.ofNat c ≤ 6 ↔ c < 7 := c6
  unfold fX10_moveOperator_99 fX12_operator_190
  refine zp2_bil (c_part h.1.2.1 (k := o) (by omega) rfl) (fun s1 v2 e => ?_)
  cases e
  refine zp2_bul (c_ph (A := 128 + 8 * q) h.1 hb h9 ho h.2.2.2.1 hm (by omega)) (fun s3 e3 => ?_)
  refine zp2_bur (m_ph (A := 172 + 6 * q) h.2.1 hb h9 ho h.2.2.2.2.1 hm (by omega)) (fun t3 f3 => ?_)
  rw [h.at hq (by decide)] at f3
  have h1 : zWo r g c m s3 t3 := by
    rw [e3, f3]
    exact h.w hq (by decide) (zOg_2 zNp_r)
  refine zp2_bul (c_outw h1.1 hb h9 ho eq h1.2.2.2.1 hm) (fun s4 e4 => ?_)
  -- the reference's values by the class's
  have a3 : t3.1 3 (172 + 6 * q + 3) = s3.1 32 (128 + 8 * q + 3) := h1.at hq (by decide)
  have a4 : t3.1 3 (172 + 6 * q + 4) = s3.1 32 (128 + 8 * q + 4) := h1.at hq (by decide)
  have a2 : t3.1 3 (172 + 6 * q + 2) = s3.1 32 (128 + 8 * q + 2) := h1.at hq (by decide)
  have a0 : t3.1 3 (172 + 6 * q) = s3.1 32 (128 + 8 * q) := h1.at (j := 0) hq (by decide)
  have a14 : t3.1 3 258 = s3.1 32 242 := (h1.2.2.1.1 14 2 (by decide) (by decide)).symm
  have a17 : t3.1 3 276 = s3.1 32 266 := (h1.2.2.1.1 17 2 (by decide) (by decide)).symm
  have r14 : zr 0 524287 (s3.1 32 242) := (h1.2.2.1.2 14 (by decide)).2.2.1
  have r17 : zr 0 524287 (s3.1 32 266) := (h1.2.2.1.2 17 (by decide)).2.2.1
  have p9 := (z_ph9 (h1.ph hq)).1
  have p14 := (z_ph9 r14).1
  have p17 := (z_ph9 r17).1
  rw [p9, p14, p17] at e4
  have g319 : ∀ x8 : Int32, x8 = zTp r c o (s3.1 32 (128 + 8 * q + 2) / 512) (zBd r c o (s3.1 32 (128 + 8 * q - 5)) (s3.1 32 (128 + 8 * q + 3)) (s3.1 32 (128 + 8 * q + 4))) (zDx (s3.1 32 242 / 512) (s3.1 32 266 / 512)) (zDy (s3.1 32 65)) → zp2 (some s4) (fX12_operator_319 t3 (Int32.ofNat c) (Int32.ofNat o) (Int32.ofNat (172 + 6 * q)) (s3.1 32 (128 + 8 * q + 3)) x8) (zWo r g c m) := fun x8 ex => by
    unfold fX12_operator_319
    rw [i3, i4]
    refine zp2_ckr (zp2_bvr (fun t5 f5 => ?_))
    have k3 : ∀ j : Nat, ¬ j = 172 + 6 * q + 4 → t5.1 3 j = t3.1 3 j := fun j hj => by rw [f5, zsi_nj hj]
    have hr5 : zRm r t5 := fun j hj => by rw [k3 _ (by omega)]; exact h1.2.1 j hj
    have hL5 : (t5.2 4 4).toInt = (m : Int) := by rw [f5]; exact h1.2.2.2.2.1
    have l5 : t5.1 3 (172 + 6 * q) = s3.1 32 (128 + 8 * q) := by rw [k3 _ (by omega)]; exact a0
    refine zp2_bir (m_wavq (A := 172 + 6 * q) hr5 hb h9 ho hL5 hm (by omega) (by rw [l5]; exact h1.lv hq) (p := x8 &&& 1023) (zr_andr (lo := 0) (hi := 1023) (zr_c (lo := 1023) (hi := 1023) (by decide)) (by decide))) (fun t6 v3 e => ?_)
    cases e
    refine zp2_ckr (zp2_bvr (fun t7 f7 => zp2_some ?_))
    rw [f7, l5, f5, e4, ex]
    exact (h1.w (j := 4) hq (by decide) (zOg_o (by decide))).w (j := 3) hq (by decide) (zOg_3 zOut_r)
  have g266 : ∀ d : Int32, d = zBd r c o (s3.1 32 (128 + 8 * q - 5)) (s3.1 32 (128 + 8 * q + 3)) (s3.1 32 (128 + 8 * q + 4)) → zp2 (some s4) (fX12_operator_266 t3 (Int32.ofNat c) (Int32.ofNat o) (Int32.ofNat (172 + 6 * q)) (s3.1 32 (128 + 8 * q + 3)) d) (zWo r g c m) := fun d ed => by
    unfold fX12_operator_266
    rw [i2, show zgi t3 3 (172 + 6 * q + 2) = s3.1 32 (128 + 8 * q + 2) from a2]
    refine zp2_ckr (zp2_ckr (zp2_bvr (fun v5 f5 => zp2_bir (m_rhy h1.2.1) (fun t6 v7 e => ?_))))
    cases e
    by_cases z : zRy r c = 0
    · refine zp2_ifr (fun _ => g319 _ ?_) (fun u => absurd z u)
      unfold zTp
      rw [if_pos z, f5, ed]
    · refine zp2_ifr (fun u => absurd u z) (fun _ => ?_)
      by_cases y : c < 7
      · refine zp2_ifr (fun _ => g319 _ ?_) (fun u => absurd (c6.mpr y) u)
        unfold zTp
        rw [if_neg z, if_pos y, f5, ed]
      · refine zp2_ifr (fun u => absurd (c6.mp u) y) (fun _ => zp2_ckr (zp2_ckr (zp2_bir (m_drum h9 (by omega) ho) (fun t8 v9 e => ?_))))
        cases e
        refine g319 _ ?_
        unfold zTp
        rw [if_neg z, if_neg y, a14, a17, ← h1.2.2.2.2.2.1, show zgi t3 3 (172 + 6 * q + 2) = s3.1 32 (128 + 8 * q + 2) from a2]
  rw [i3, show zgi t3 3 (172 + 6 * q + 3) = s3.1 32 (128 + 8 * q + 3) from a3]
  refine zp2_ckr (zp2_bvr (fun v11 f11 => zp2_bir (m_pb h1.2.1 h9 (k := 3) (by decide) rfl) (fun t12 v13 e => ?_)))
  cases e
  subst f11
  refine zp2_bvr (fun v14 f14 => ?_)
  subst f14
  by_cases z : o = 0
  · refine zp2_ifr (fun u => absurd z (o1.mp u)) (fun _ => ?_)
    by_cases y : (zPB r c 3 &&& 7) = 0
    · refine zp2_ifr (fun _ => g266 0 ?_) (fun u => absurd y u)
      unfold zBd
      rw [if_pos z, if_pos y]
    · refine zp2_ifr (fun u => absurd u y) (fun _ => zp2_ckr (zp2_ckr ?_))
      rw [i4, show zgi t3 3 (172 + 6 * q + 4) = s3.1 32 (128 + 8 * q + 4) from a4]
      refine g266 _ ?_
      unfold zBd
      rw [if_pos z, if_neg y, show zgi t3 3 (172 + 6 * q + 3) = s3.1 32 (128 + 8 * q + 3) from a3]
  · refine zp2_ifr (fun _ => zp2_ckr ?_) (fun u => absurd (o1.mpr z) u)
    rw [im3]
    refine g266 _ ?_
    unfold zBd
    rw [if_neg z]
    have w := (h1.2.2.1.1 (q - 1) 3 (by omega) (by decide)).symm
    rw [show 172 + 6 * (q - 1) + 3 = 172 + 6 * q - 3 by omega, show 128 + 8 * (q - 1) + 3 = 128 + 8 * q - 5 by omega] at w
    exact w
theorem w_op (hb : zRb r) (hm : m ≤ 1000000000) (h9 : c < 9) (ho : o < 2) (eq : q = 2 * c + o) (h : zWo r g c m σ μ) : zp2 (fX10_moveOperator σ (Int32.ofNat (128 + 8 * q)) (Int32.ofNat o)) (fX12_operator μ (Int32.ofNat c) (Int32.ofNat o)) (zWo r g c m) := w_on hb h9 ho eq h (fun s t h1 => w_ls hb hm h9 ho eq h1 (fun s t h2 => w_99 hb hm h9 ho eq h2))
/-! all channels -/
noncomputable def zT9 (r : Nat → Int32) (c : Nat) (u v : Int32) : Int32 := if zRy r c = 0 then v else 2 * (v + (if c < 7 then 0 else u))
noncomputable def zSu (r f : Nat → Int32) : Nat → Int32
  | 0 => 0
  | n + 1 => zSu r f n + zT9 r n (f (128 + 16 * n + 3)) (f (128 + 16 * n + 11))
theorem zSu_cg {f f' : Nat → Int32} : ∀ n : Nat, (∀ j : Nat, 128 ≤ j → j < 128 + 16 * n → f' j = f j) → zSu r f' n = zSu r f n
  | 0, _ => rfl
  | n + 1, h => by
    show zSu r f' n + zT9 r n (f' (128 + 16 * n + 3)) (f' (128 + 16 * n + 11)) = zSu r f n + zT9 r n (f (128 + 16 * n + 3)) (f (128 + 16 * n + 11))
    rw [zSu_cg n (fun j h1 h2 => h j h1 (by omega)), h _ (by omega) (by omega), h _ (by omega) (by omega)]
theorem zT9_r {u v : Int32} (hu : zr (-4084) 4084 u) (hv : zr (-4084) 4084 v) : zr (-16336) 16336 (zT9 r c u v) := by
  have u0 := hu.1
  have u1 := hu.2
  have v0 := hv.1
  have v1 := hv.2
  unfold zT9
  split
  · exact ⟨by omega, by omega⟩
  · have w : zr (-8168) 8168 (v + (if c < 7 then 0 else u)) := by
      split
      · rw [Int32.add_zero]; exact ⟨by omega, by omega⟩
      · exact zr_add (lo := -8168) (hi := 8168) hv hu (by decide)
    have e : (2 * (v + (if c < 7 then 0 else u))).toInt = 2 * (v + (if c < 7 then 0 else u)).toInt := by
      rw [Int32.toInt_mul]
      have := w.1
      have := w.2
      exact z_bm (by rw [show (2 : Int32).toInt = 2 from rfl]; omega) (by rw [show (2 : Int32).toInt = 2 from rfl]; omega)
    have w0 := w.1
    have w1 := w.2
    exact ⟨by rw [e]; omega, by rw [e]; omega⟩
theorem zSu_r {f : Nat → Int32} (hf : ∀ q : Nat, q < 18 → zr (-4084) 4084 (f (128 + 8 * q + 3))) : ∀ n : Nat, n ≤ 9 → zr (-16336 * (n : Int)) (16336 * (n : Int)) (zSu r f n)
  | 0, _ => ⟨by show -16336 * ((0 : Nat) : Int) ≤ (0 : Int32).toInt; decide, by show (0 : Int32).toInt ≤ 16336 * ((0 : Nat) : Int); decide⟩
  | n + 1, h => by
    have ih := zSu_r hf n (by omega)
    have a := hf (2 * n) (by omega)
    have b := hf (2 * n + 1) (by omega)
    rw [show 128 + 8 * (2 * n) + 3 = 128 + 16 * n + 3 by omega] at a
    rw [show 128 + 8 * (2 * n + 1) + 3 = 128 + 16 * n + 11 by omega] at b
    have t := zT9_r (r := r) (c := n) a b
    have i0 := ih.1
    have i1 := ih.2
    have t0 := t.1
    have t1 := t.2
    show zr _ _ (zSu r f n + zT9 r n (f (128 + 16 * n + 3)) (f (128 + 16 * n + 11)))
    have e := z_tadd (x := zSu r f n) (y := zT9 r n (f (128 + 16 * n + 3)) (f (128 + 16 * n + 11))) (a := -147024) (b := 147024) ⟨by omega, by omega⟩ t (by decide)
    exact ⟨by rw [e]; omega, by rw [e]; omega⟩
/-- between two channels -/
noncomputable def zWx (r : Nat → Int32) (m : Nat) (σ μ : zSt) : Prop := zRc4 r σ ∧ (σ.1 5 2 = if (r 14 &&& 32) = 0 then 0 else 1) ∧ zOwn r (σ.2 5 7) ∧ zRm r μ ∧ zFmw σ μ ∧ σ.1 32 66 = Int32.ofNat m ∧ (μ.2 4 4).toInt = (m : Int) ∧ σ.1 32 65 = μ.1 3 164
theorem w_chan (hb : zRb r) (hm : m ≤ 1000000000) (h9 : c < 9) {x1 : Int32} (h : zWx r m σ μ) (ex : x1 = zSu r (σ.1 32) c) {fu : Nat} {kc : zSt → Int32 → Int32 → Option zSt} {km : zSt → Int32 → Option zSt} (K : ∀ s t, zWx r m s t → zp2 (kc s (zSu r (s.1 32) (c + 1)) (Int32.ofNat (c + 1))) (km t (Int32.ofNat (c + 1))) Q) : zp2 (zbu (fX10_takeChannel σ (Int32.ofNat c)) (fun σ6 => zbv (128 + (16 * Int32.ofNat c)) (fun v7 => zbu (fX10_moveOperator σ6 v7 0) (fun σ8 => zbu (fX10_moveOperator σ8 (v7 + 8) 1) (fun σ9 => if (zgi σ9 5 2) = 0 then fX10_makeNext_100 kc σ9 x1 (Int32.ofNat c) v7 else if Int32.ofNat c < 7 then fX10_makeNext_100 kc σ9 x1 (Int32.ofNat c) v7 else zck (zin (v7 + 3) 272) (fX10_makeNext_101 kc σ9 x1 (Int32.ofNat c) v7 (zgi σ9 32 (v7 + 3).toNatClampNeg))))))) (fX12_waves_20 km fu μ (Int32.ofNat c) 0) Q := by
  obtain ⟨h1, h2, h3, h4, h5, h6, h7, h8⟩ := h
  have e7 : ∀ c : Fin 9, 128 + (16 * Int32.ofNat c.val) = Int32.ofNat (128 + 8 * (2 * c.val + 0)) ∧ (128 + (16 * Int32.ofNat c.val)) + 8 = Int32.ofNat (128 + 8 * (2 * c.val + 1)) := by decide
  obtain ⟨e7, e8⟩ := e7 ⟨c, h9⟩
  have e7 : 128 + (16 * Int32.ofNat c) = Int32.ofNat (128 + 8 * (2 * c + 0)) := e7
  have e8 : (128 + (16 * Int32.ofNat c)) + 8 = Int32.ofNat (128 + 8 * (2 * c + 1)) := e8
  obtain ⟨_, _, c7, c6, c5⟩ := z_c78 ⟨c, h9⟩
  have c7 : Int32.ofNat c < 7 ↔ c < 7 := c7
  have c5 : Int32.ofNat c ≤ 5 ↔ c < 6 := c5
  have cl6 : ∀ c : Fin 9, Int32.ofNat c.val < 6 ↔ c.val < 6 := by decide
  have cl6 : Int32.ofNat c < 6 ↔ c < 6 := cl6 ⟨c, h9⟩
  refine zp2_bul (c_chan h1 hb h9 h3 h2) (fun s6 q6 => ?_)
  obtain ⟨q6, q7⟩ := q6
  refine zp2_bvl (fun v7 f7 => ?_)
  subst f7
  rw [e8, e7]
  have w0 : zWo r (σ.1 32) c m s6 μ := by
    have e32 : s6.1 32 = σ.1 32 := q6.ro (k := 32) rfl
    refine ⟨⟨fun j hj => by rw [e32]; exact h1 j hj, q7, ?_⟩, h4, ⟨fun q j hq hj => by rw [e32]; exact h5.1 q j hq hj, fun q hq => by rw [e32]; exact h5.2 q hq⟩, by rw [e32]; exact h6, h7, by rw [e32]; exact h8, fun j _ _ => by rw [e32], ?_⟩
    · rw [q6.o (k := 5) (a := 2) (b := 2) rfl (by decide) (by decide)]; exact h2
    · rw [q6.lo (k := 5) (a := 7) (b := 7) rfl (by decide) (by decide)]; exact h3
  cases fu with
  | zero => exact zp2_nr
  | succ fu =>
    show zp2 _ (fX12_waves_20_body km (fX12_waves_20 km fu) μ (Int32.ofNat c) 0) Q
    unfold fX12_waves_20_body
    refine zp2_ifr (fun u => absurd u (by decide)) (fun _ => ?_)
    refine zp2_buu (w_op (q := 2 * c + 0) (o := 0) hb hm h9 (by decide) rfl w0) (fun s8 t8 w1 => zp2_bvr (fun v3 f3 => ?_))
    rw [f3, show (0 : Int32) + 1 = 1 from rfl]
    cases fu with
    | zero => exact zp2_nr
    | succ fu =>
      show zp2 _ (fX12_waves_20_body km (fX12_waves_20 km fu) t8 (Int32.ofNat c) 1) Q
      unfold fX12_waves_20_body
      refine zp2_ifr (fun u => absurd u (by decide)) (fun _ => ?_)
      refine zp2_buu (w_op (q := 2 * c + 1) (o := 1) hb hm h9 (by decide) rfl w1) (fun s9 t9 w2 => zp2_bvr (fun v3 f3 => ?_))
      rw [f3, show (1 : Int32) + 1 = 2 from rfl]
      cases fu with
      | zero => exact zp2_nr
      | succ fu =>
        show zp2 _ (fX12_waves_20_body km (fX12_waves_20 km fu) t9 (Int32.ofNat c) 2) Q
        unfold fX12_waves_20_body
        refine zp2_ifr (fun _ => zp2_bvr (fun v1 f1 => ?_)) (fun u => absurd (by decide) u)
        rw [f1, z_ofS (by omega)]
        obtain ⟨⟨g1, g2, g3⟩, g4, g5, g6, g7, g8, g9, g10⟩ := w2
        have wx : zWx r m s9 t9 := ⟨g1, g3, g10, g4, g5, g6, g7, g8⟩
        have su : zSu r (s9.1 32) c = x1 := by rw [ex]; exact zSu_cg c g9
        have j3 : (Int32.ofNat (128 + 8 * (2 * c + 0)) + 3).toNatClampNeg = 128 + 16 * c + 3 := (z_atk (m := 3) (by omega)).trans (by omega)
        have j11 : ((Int32.ofNat (128 + 8 * (2 * c + 0)) + 8) + 3).toNatClampNeg = 128 + 16 * c + 11 := by
          rw [show Int32.ofNat (128 + 8 * (2 * c + 0)) + 8 = Int32.ofNat (128 + 8 * (2 * c + 0) + 8) from z_ofA (c := 8)]
          exact (z_atk (m := 3) (by omega)).trans (by omega)
        have nx : ∀ k : Int32, k = zT9 r c (s9.1 32 (128 + 16 * c + 3)) (s9.1 32 (128 + 16 * c + 11)) → x1 + k = zSu r (s9.1 32) (c + 1) := fun k ek => by
          rw [ek, ← su]
          rfl
        have g136 : ∀ (w k : Int32), w * k = zT9 r c (s9.1 32 (128 + 16 * c + 3)) (s9.1 32 (128 + 16 * c + 11)) → zp2 (fX10_makeNext_136 kc s9 (Int32.ofNat c) k w x1) (km t9 (Int32.ofNat (c + 1))) Q := fun w k e => by
          unfold fX10_makeNext_136
          refine zp2_bvl (fun v1 f1 => zp2_bvl (fun v2 f2 => ?_))
          rw [f1, f2, z_ofS (by omega), nx _ e]
          exact K s9 t9 wx
        have g52 : zgi s9 5 2 = if (r 14 &&& 32) = 0 then 0 else 1 := g3
        have g101 : ∀ u : Int32, u = (if (r 14 &&& 32) = 0 then 0 else if c < 7 then 0 else s9.1 32 (128 + 16 * c + 3)) → zp2 (fX10_makeNext_101 kc s9 x1 (Int32.ofNat c) (Int32.ofNat (128 + 8 * (2 * c + 0))) u) (km t9 (Int32.ofNat (c + 1))) Q := fun u eu => by
          unfold fX10_makeNext_101 fX10_makeNext_135
          rw [j11, g52, show zgi s9 32 (128 + 16 * c + 11) = s9.1 32 (128 + 16 * c + 11) from rfl]
          refine zp2_ckl ?_
          have one : zRy r c = 0 → u = 0 → (u + s9.1 32 (128 + 16 * c + 11)) * 1 = zT9 r c (s9.1 32 (128 + 16 * c + 3)) (s9.1 32 (128 + 16 * c + 11)) := fun z y => by
            unfold zT9
            rw [if_pos z, y, Int32.zero_add, Int32.mul_one]
          by_cases z : (r 14 &&& 32) = 0
          · rw [if_pos z] at eu ⊢
            have y : zRy r c = 0 := zRy_0 z
            exact zp2_ifl (fun _ => g136 _ _ (one y eu)) (fun w => absurd rfl w)
          · rw [if_neg z] at eu ⊢
            refine zp2_ifl (fun w => absurd w (by decide)) (fun _ => ?_)
            by_cases x : c < 6
            · have y : zRy r c = 0 := by
                unfold zRy
                rw [if_pos (c5.mpr x)]
              rw [if_pos (by omega)] at eu
              exact zp2_ifl (fun _ => g136 _ _ (one y eu)) (fun w => absurd (cl6.mpr x) w)
            · have y : ¬ zRy r c = 0 := by
                unfold zRy
                rw [if_neg (fun w => x (c5.mp w)), if_neg z]
                decide
              refine zp2_ifl (fun w => absurd (cl6.mp w) x) (fun _ => g136 _ _ ?_)
              unfold zT9
              rw [if_neg y, Int32.mul_comm]
              by_cases x7 : c < 7
              · rw [if_pos x7] at eu ⊢
                rw [eu, Int32.zero_add, Int32.add_zero]
              · rw [if_neg x7] at eu ⊢
                rw [eu, Int32.add_comm]
        rw [g52]
        by_cases z : (r 14 &&& 32) = 0
        · rw [if_pos z]
          refine zp2_ifl (fun _ => ?_) (fun w => absurd rfl w)
          unfold fX10_makeNext_100
          exact g101 0 (by rw [if_pos z])
        · rw [if_neg z]
          refine zp2_ifl (fun w => absurd w (by decide)) (fun _ => ?_)
          by_cases x : c < 7
          · refine zp2_ifl (fun _ => ?_) (fun w => absurd (c7.mpr x) w)
            unfold fX10_makeNext_100
            exact g101 0 (by rw [if_neg z, if_pos x])
          · refine zp2_ifl (fun w => absurd (c7.mp w) x) (fun _ => zp2_ckl ?_)
            rw [j3]
            exact g101 _ (by rw [if_neg z, if_neg x]; rfl)
end ZWJ
end ZJN16
section ZJN17
/-! WAVES: ONE WAVE OF BOTH -/
section ZWK
variable {σ μ s t : zSt} {r g : Nat → Int32} {c o m h l a k q j A : Nat} {Q : zSt → zSt → Prop}
/-- the waves of both -/
noncomputable def zWvq (m : Nat) (σ μ : zSt) : Prop := zFmw σ μ ∧ σ.1 32 65 = μ.1 3 164 ∧ σ.1 32 67 = μ.1 3 165 ∧ σ.1 32 66 = Int32.ofNat m ∧ (μ.2 4 4).toInt = (m : Int) ∧ zr (-147024) 147024 (σ.1 32 67)
/-- the reference's sum -/
theorem m_82 {f : Nat → Int32} (hr : zRm r t) (hf : ∀ q j : Nat, q < 18 → j < 6 → t.1 3 (172 + 6 * q + j) = f (128 + 8 * q + j)) : ∀ (n c : Nat), c ≤ 9 → zpc (fX12_waves_82 n t (zSu r f c) (Int32.ofNat c)) (fun t' => t' = zsi t 3 165 (zSu r f 9)) := by
  intro n
  induction n with
  | zero => intro c _; exact zpc_none
  | succ n ih =>
    intro c hc
    show zpc (fX12_waves_82_body (fX12_waves_82 n) t (zSu r f c) (Int32.ofNat c)) _
    unfold fX12_waves_82_body fX12_waves_153 fX12_waves_157
    refine zpc_if (fun z => ?_) (fun z => ?_)
    · have z1 := (z_ofL (k := 9) (i := c) (by omega) rfl).mp z
      obtain rfl : c = 9 := by omega
      refine zpc_ck (zpc_bv (fun s e => zpc_some ?_))
      rw [e]
      rfl
    · have h9 : c < 9 := by
        have : ¬ 9 ≤ c := fun y => z ((z_ofL (c := 9) (k := 9) (i := c) (by omega) rfl).mpr y)
        omega
      have e7 : ∀ c : Fin 9, 172 + (12 * Int32.ofNat c.val) = Int32.ofNat (172 + 12 * c.val) := by decide
      have e7 : 172 + (12 * Int32.ofNat c) = Int32.ofNat (172 + 12 * c) := e7 ⟨c, h9⟩
      have j9 : (Int32.ofNat (172 + 12 * c) + 9).toNatClampNeg = 172 + 12 * c + 9 := z_atk (m := 9) (by omega)
      have j3 : (Int32.ofNat (172 + 12 * c) + 3).toNatClampNeg = 172 + 12 * c + 3 := z_atk (m := 3) (by omega)
      have g9 : zgi t 3 (172 + 12 * c + 9) = f (128 + 16 * c + 11) := by
        have w := hf (2 * c + 1) 3 (by omega) (by decide)
        rw [show 172 + 6 * (2 * c + 1) + 3 = 172 + 12 * c + 9 by omega, show 128 + 8 * (2 * c + 1) + 3 = 128 + 16 * c + 11 by omega] at w
        exact w
      have g3 : zgi t 3 (172 + 12 * c + 3) = f (128 + 16 * c + 3) := by
        have w := hf (2 * c) 3 (by omega) (by decide)
        rw [show 172 + 6 * (2 * c) + 3 = 172 + 12 * c + 3 by omega, show 128 + 8 * (2 * c) + 3 = 128 + 16 * c + 3 by omega] at w
        exact w
      obtain ⟨_, _, _, c6, _⟩ := z_c78 ⟨c, h9⟩
      have c6 : Int32.ofNat c ≤ 6 ↔ c < 7 := c6
      refine zpc_bv (fun v7 f7 => ?_)
      subst f7
      rw [e7, z_ofS (by omega)]
      refine zpc_bi (m_rhy hr) (fun s8 v9 e => ?_)
      cases e
      rw [j9, j3, g9, g3]
      have nx : ∀ v : Int32, v = zSu r f (c + 1) → zpc (fX12_waves_82 n t v (Int32.ofNat (c + 1))) (fun t' => t' = zsi t 3 165 (zSu r f 9)) := fun v e => by
        rw [e]
        exact ih (c + 1) (by omega)
      have su : zSu r f (c + 1) = zSu r f c + zT9 r c (f (128 + 16 * c + 3)) (f (128 + 16 * c + 11)) := rfl
      by_cases y : zRy r c = 0
      · refine zpc_if (fun _ => zpc_ck (zpc_bv (fun v10 e10 => zpc_bv (fun v4 e4 => ?_)))) (fun u => absurd y u)
        rw [e4]
        refine nx _ ?_
        rw [e10, su]
        unfold zT9
        rw [if_pos y]
      · refine zpc_if (fun u => absurd u y) (fun _ => zpc_ck ?_)
        by_cases x : c < 7
        · refine zpc_if (fun _ => zpc_bv (fun v5 e5 => zpc_bv (fun v4 e4 => ?_))) (fun u => absurd (c6.mpr x) u)
          rw [e4]
          refine nx _ ?_
          rw [e5, su]
          unfold zT9
          rw [if_neg y, if_pos x]
        · refine zpc_if (fun u => absurd (c6.mp u) x) (fun _ => zpc_ck (zpc_bv (fun v5 e5 => zpc_bv (fun v4 e4 => ?_))))
          rw [e4]
          refine nx _ ?_
          rw [e5, su]
          unfold zT9
          rw [if_neg y, if_neg x]
theorem w_41 (hb : zRb r) (hm : m ≤ 1000000000) : ∀ (n n' c : Nat) (σ μ : zSt), c ≤ 9 → zWx r m σ μ → zp2 (fX10_makeNext_41 n σ (zSu r (σ.1 32) c) (Int32.ofNat c)) (fX12_waves_12 n' μ (Int32.ofNat c)) (zWvq m) := by
  intro n
  induction n with
  | zero => intro n' c σ μ _ _; exact zp2_nl
  | succ n ih =>
    intro n' c σ μ hc h
    cases n' with
    | zero => exact zp2_nr
    | succ n' =>
      show zp2 (fX10_makeNext_41_body (fX10_makeNext_41 n) σ (zSu r (σ.1 32) c) (Int32.ofNat c)) (fX12_waves_12_body (fX12_waves_12 n') μ (Int32.ofNat c)) _
      unfold fX10_makeNext_41_body fX12_waves_12_body
      refine zp2_if (fun z => ?_) (fun z => ?_)
      · have z1 := (z_ofL (k := 9) (i := c) (by omega) rfl).mp z
        obtain rfl : c = 9 := by omega
        obtain ⟨h1, h2, h3, h4, h5, h6, h7, h8⟩ := h
        have fin : ∀ d : Int32, zp2 (fX10_makeNext_174 σ (zSu r (σ.1 32) 9) d 65) (fX12_waves_75 μ d 164) (zWvq m) := fun d => by
          unfold fX10_makeNext_174 fX12_waves_75
          refine zp2_ckl (zp2_bvl (fun s1 e1 => zp2_ckl (zp2_bvl (fun s2 e2 => zp2_ckr (zp2_bvr (fun t1 f1 => ?_))))))
          have e1 : s1 = zsi σ 32 65 (d >>> ((1 : Int32) &&& 31)) := e1
          have e2 : s2 = zsi s1 32 67 (zSu r (σ.1 32) 9) := e2
          have f1 : t1 = zsi μ 3 164 (d >>> ((1 : Int32) &&& 31)) := f1
          have k1 : ∀ j : Nat, ¬ j = 164 → t1.1 3 j = μ.1 3 j := fun j hj => by rw [f1, zsi_nj hj]
          have k2 : ∀ j : Nat, ¬ j = 65 → ¬ j = 67 → s2.1 32 j = σ.1 32 j := fun j ha hb => by rw [e2, zsi_nj hb, e1, zsi_nj ha]
          have l := m_82 (t := t1) (f := σ.1 32) (r := r) (fun j hj => by rw [k1 _ (by omega)]; exact h4 j hj) (fun q j hq hj => by rw [k1 _ (by omega)]; exact (h5.1 q j hq hj).symm) zfuel 0 (by decide)
          refine fun a b ea eb => ?_
          have la := l b eb
          cases ea
          rw [la]
          have k3 : ∀ j : Nat, ¬ j = 164 → ¬ j = 165 → (zsi t1 3 165 (zSu r (σ.1 32) 9)).1 3 j = μ.1 3 j := fun j ha hb => by rw [zsi_nj hb, k1 j ha]
          refine ⟨⟨fun q j hq hj => ?_, fun q hq => ?_⟩, ?_, ?_, ?_, ?_, ?_⟩
          · rw [k2 _ (by omega) (by omega), k3 _ (by omega) (by omega)]; exact h5.1 q j hq hj
          · rw [k2 _ (by omega) (by omega), k2 _ (by omega) (by omega), k2 _ (by omega) (by omega), k2 _ (by omega) (by omega)]; exact h5.2 q hq
          · rw [e2, zsi_nj (by decide), e1, zsi_ej, zsi_nj (by decide), f1, zsi_ej]
          · rw [e2, zsi_ej, zsi_ej]
          · rw [k2 _ (by decide) (by decide)]; exact h6
          · show ((zsi t1 3 165 (zSu r (σ.1 32) 9)).2 4 4).toInt = _
            rw [f1]
            exact h7
          · rw [e2, zsi_ej]
            exact zSu_r (r := r) (f := σ.1 32) (fun q hq => (h5.2 q hq).2.2.2) 9 (by decide)
        have e65 : zgi σ 32 (65 : Int32).toNatClampNeg = μ.1 3 164 := h8
        rw [e65, show zgi μ 3 (164 : Int32).toNatClampNeg = μ.1 3 164 from rfl]
        refine zp2_ckl (zp2_bvl (fun v5 e5 => zp2_ckr (zp2_bvr (fun v12 e12 => ?_))))
        subst e5
        subst e12
        exact zp2_if (fun _ => fin _) (fun _ => fin _)
      · have h9 : c < 9 := by
          have : ¬ 9 ≤ c := fun y => z ((z_ofL (c := 9) (k := 9) (i := c) (by omega) rfl).mpr y)
          omega
        exact w_chan hb hm h9 h rfl (fun s t h1 => ih n' (c + 1) s t (by omega) h1)
/-- one wave of both -/
theorem w_wave1 (hv : zVe σ μ) (h : zWvq m σ μ) (hm : m + 1 ≤ 1000000000) : zp2 (fX10_makeNext σ ) (fX12_waves μ ) (zWvq (m + 1)) := by
  obtain ⟨h1, h2, h3, h4, h5, _⟩ := h
  have hE : zE σ μ := hv.1
  have hG : zG σ := hv.2.1
  have gt : ∀ n : Fin 64, zGf 32 n.val zGt = some (0, 255) := by decide +kernel
  have hb : zRb (σ.1 32) := fun j hj => hG.at (gt ⟨j, hj⟩)
  have eq : ∀ j : Nat, j < 64 → μ.1 3 (98 + j) = σ.1 32 j := fun j hj => by
    have w := hE.at (z_pn32_0 (d := j) hj)
    rw [z_an1, Nat.zero_add] at w
    exact w
  unfold fX10_makeNext fX12_waves fX10_makeNext_30
  rw [show zgi σ 32 (66 : Int32).toNatClampNeg = Int32.ofNat m from h4]
  refine zp2_ckl (zp2_ckl (zp2_bvl (fun s12 e12 => zp2_ckl (zp2_ckr (zp2_ckr (zp2_bvr (fun t13 f13 => ?_)))))))
  have e12 : s12 = zsi σ 32 66 (Int32.ofNat (m + 1)) := by
    rw [e12]
    show zsi σ 32 66 (Int32.ofNat m + Int32.ofNat 1) = _
    rw [z_ofA]
  have f13 : t13 = zsl μ 4 4 (μ.2 4 4 + 1) := f13
  have k12 : ∀ j : Nat, ¬ j = 66 → s12.1 32 j = σ.1 32 j := fun j hj => by rw [e12, zsi_nj hj]
  have L : (t13.2 4 4).toInt = ((m + 1 : Nat) : Int) := by
    rw [f13, zsl_ej, z_l1 (x := μ.2 4 4) (b := 2000000000) (by omega) (by omega) (by decide), h5]
    omega
  have go : ∀ v : Int32, v = (if (σ.1 32 14 &&& 32) = 0 then 0 else 1) → zp2 (zck (zbo v) (zbv (zsi s12 5 2 v) (fun σ10 => zbu (fX10_takeOwnPatch σ10 ) (fun σ11 => fX10_makeNext_41 zfuel σ11 0 0)))) (fX12_waves_12 zfuel t13 0) (zWvq (m + 1)) := fun v ev => by
    refine zp2_ckl (zp2_bvl (fun s10 e10 => ?_))
    have k10 : ∀ j : Nat, ¬ j = 66 → s10.1 32 j = σ.1 32 j := fun j hj => by rw [e10, zsi_ne (by decide)]; exact k12 j hj
    refine zp2_bul (c_own (r := σ.1 32) (fun j hj => k10 j (by omega)) hb) (fun s11 q11 => ?_)
    obtain ⟨q11, q12⟩ := q11
    have r11 : s11.1 = s10.1 := funext fun k => q11.ro (k := k) rfl
    refine w_41 (r := σ.1 32) (m := m + 1) hb hm zfuel zfuel 0 s11 t13 (by decide) ⟨fun j hj => ?_, ?_, q12, fun j hj => ?_, ⟨fun q j hq hj => ?_, fun q hq => ?_⟩, ?_, L, ?_⟩
    · rw [r11]; exact k10 j (by omega)
    · rw [r11, e10, zsi_ej]; exact ev
    · rw [f13]; exact eq j hj
    · rw [r11, k10 _ (by omega), f13]; exact h1.1 q j hq hj
    · rw [r11, k10 _ (by omega), k10 _ (by omega), k10 _ (by omega), k10 _ (by omega)]; exact h1.2 q hq
    · rw [r11, e10, zsi_ne (by decide), e12, zsi_ej]
    · rw [r11, k10 _ (by decide), f13]; exact h2
  have e14 : zgi s12 32 (14 : Int32).toNatClampNeg = σ.1 32 14 := k12 14 (by decide)
  rw [e14]
  by_cases z : (σ.1 32 14 &&& 32) = 0
  · exact zp2_ifl (fun _ => go 0 (by rw [if_pos z])) (fun y => absurd z y)
  · exact zp2_ifl (fun y => absurd y z) (fun _ => go 1 (by rw [if_neg z]))
end ZWK
end ZJN17
section ZJN18
theorem fj_fX7_moveTone_57 {σ0 : zSt} {σ : zSt} {x1 : Int32} {x2 : Int32} (h : (zQ [] [(30, 3, 8), (30, 14, 16), (11, 2, 3)] [46] [(38, 3, 6)]) σ0 σ) (qx1 : zr 0 2 x1) : zpc (fX7_moveTone_57 σ x1 x2) (fun r => (zQ [] [(30, 3, 8), (30, 14, 16), (11, 2, 3)] [46] [(38, 3, 6)]) σ0 (r)) := by
  unfold fX7_moveTone_57
  exact zpc_ck (zpc_bs (zQ.wr (a := 3) (b := 8) (lo := 3) (hi := 5) h (zr_add (lo := 3) (hi := 5) (zr_c (x := 3) (lo := 3) (hi := 3) (by decide)) qx1 (by decide)) rfl (by decide)) (fun σ1 hσ1 => zpc_some hσ1))
theorem fj_fX7_moveTone_56 {σ0 : zSt} {σ : zSt} {x1 : Int32} {x2 : Int32} {s0 : Int32} {s1 : Int32} (h : (zQ [] [(30, 3, 8), (30, 14, 16), (11, 2, 3)] [46] [(38, 3, 6)]) σ0 σ) (qx1 : zr 0 2 x1) (qs1 : zr 6 8 s1) : zpc (fX7_moveTone_56 σ x1 x2 s0 s1) (fun r => (zQ [] [(30, 3, 8), (30, 14, 16), (11, 2, 3)] [46] [(38, 3, 6)]) σ0 (r)) := by
  unfold fX7_moveTone_56
  exact zpc_ck (zpc_bs (zQ.wr (a := 3) (b := 8) (lo := 6) (hi := 8) h qs1 rfl (by decide)) (fun σ2 hσ2 => fj_fX7_moveTone_57 hσ2 qx1))
theorem fj_fX7_moveTone {σ0 : zSt} {σ : zSt} {x1 : Int32} (h : (zQ [] [(30, 3, 8), (30, 14, 16), (11, 2, 3)] [46] [(38, 3, 6)]) σ0 σ) (qx1 : zr 0 2 x1) : zpc (fX7_moveTone σ x1) (fun r => (zQ [] [(30, 3, 8), (30, 14, 16), (11, 2, 3)] [46] [(38, 3, 6)]) σ0 (r)) := by
  unfold fX7_moveTone
  exact zpc_ck (zpc_bv (fun v3 _ => zpc_if (fun _ => zpc_ck (zpc_bv (fun v4 _ => zpc_if (fun _ => zpc_ck (fj_fX7_moveTone_56 h qx1 (zr_add (lo := 6) (hi := 8) (zr_c (x := 6) (lo := 6) (hi := 6) (by decide)) qx1 (by decide)))) (fun _ => fj_fX7_moveTone_56 h qx1 (zr_add (lo := 6) (hi := 8) (zr_c (x := 6) (lo := 6) (hi := 6) (by decide)) qx1 (by decide)))))) (fun _ => fj_fX7_moveTone_57 h qx1)))
theorem fj_fX7_moveNoise_136 {σ0 : zSt} {σ : zSt} (h : (zQ [] [(30, 3, 8), (30, 14, 16), (11, 2, 3)] [46] [(38, 3, 6)]) σ0 σ) : zpc (fX7_moveNoise_136 σ) (fun r => (zQ [] [(30, 3, 8), (30, 14, 16), (11, 2, 3)] [46] [(38, 3, 6)]) σ0 (r)) := by
  unfold fX7_moveNoise_136
  exact zpc_some h
theorem fj_fX7_moveNoise_120 {σ0 : zSt} {σ : zSt} {x2 : Int32} {s0 : Int32} (h : (zQ [] [(30, 3, 8), (30, 14, 16), (11, 2, 3)] [46] [(38, 3, 6)]) σ0 σ) : zpc (fX7_moveNoise_120 σ x2 s0) (fun r => (zQ [] [(30, 3, 8), (30, 14, 16), (11, 2, 3)] [46] [(38, 3, 6)]) σ0 (r)) := by
  unfold fX7_moveNoise_120
  exact zpc_ck (zpc_bs (zQ.wi h rfl) (fun σ1 hσ1 => fj_fX7_moveNoise_136 hσ1))
theorem fj_fX7_moveNoise_65 {σ0 : zSt} {σ : zSt} {s0 : Int32} {s1 : Int32} (h : (zQ [] [(30, 3, 8), (30, 14, 16), (11, 2, 3)] [46] [(38, 3, 6)]) σ0 σ) (qs1 : zr 14 14 s1) : zpc (fX7_moveNoise_65 σ s0 s1) (fun r => (zQ [] [(30, 3, 8), (30, 14, 16), (11, 2, 3)] [46] [(38, 3, 6)]) σ0 (r)) := by
  unfold fX7_moveNoise_65
  exact zpc_ck (zpc_bs (zQ.wr (a := 14) (b := 16) (lo := 14) (hi := 14) h qs1 rfl (by decide)) (fun σ2 hσ2 => zpc_ck (zpc_ck (zpc_bs (zQ.wi hσ2 rfl) (fun σ3 hσ3 => zpc_ck (zpc_if (fun _ => zpc_ck (zpc_bv (fun v4 _ => zpc_ck (zpc_if (fun _ => fj_fX7_moveNoise_120 hσ3) (fun _ => fj_fX7_moveNoise_120 hσ3))))) (fun _ => fj_fX7_moveNoise_136 hσ3)))))))
theorem fj_fX7_moveNoise {σ0 : zSt} {σ : zSt} (h : (zQ [] [(30, 3, 8), (30, 14, 16), (11, 2, 3)] [46] [(38, 3, 6)]) σ0 σ) : zpc (fX7_moveNoise σ) (fun r => (zQ [] [(30, 3, 8), (30, 14, 16), (11, 2, 3)] [46] [(38, 3, 6)]) σ0 (r)) := by
  unfold fX7_moveNoise
  exact zpc_ck (zpc_ck (zpc_bs (zQ.wi h rfl) (fun σ5 hσ5 => zpc_ck (zpc_if (fun _ => zpc_ck (zpc_bv (fun v6 _ => zpc_if (fun _ => zpc_ck (fj_fX7_moveNoise_65 hσ5 (zr_c (x := 14) (lo := 14) (hi := 14) (by decide)))) (fun _ => fj_fX7_moveNoise_65 hσ5 (zr_c (x := 14) (lo := 14) (hi := 14) (by decide)))))) (fun _ => zpc_some hσ5)))))
theorem fj_fX7_nextSample_87 {σ0 : zSt} {k28 : zSt → Int32 → Int32 → Int32 → Option (zSt × Int32)} (hk28 : ∀ (y0 : zSt) (y1 : Int32) (y2 : Int32) (y3 : Int32), (zQ [] [(30, 3, 8), (30, 14, 16), (11, 2, 3)] [46] [(38, 3, 6)]) σ0 y0 → zpc (k28 y0 y1 y2 y3) (fun r => (zQ [] [(30, 3, 8), (30, 14, 16), (11, 2, 3)] [46] [(38, 3, 6)]) σ0 (r.1))) {σ : zSt} {x1 : Int32} {x2 : Int32} {x3 : Int32} {s0 : Int32} (h : (zQ [] [(30, 3, 8), (30, 14, 16), (11, 2, 3)] [46] [(38, 3, 6)]) σ0 σ) : zpc (fX7_nextSample_87 k28 σ x1 x2 x3 s0) (fun r => (zQ [] [(30, 3, 8), (30, 14, 16), (11, 2, 3)] [46] [(38, 3, 6)]) σ0 (r.1)) := by
  unfold fX7_nextSample_87
  exact zpc_ck (zpc_bv (fun v1 _ => zpc_ck (zpc_bv (fun v2 _ => zpc_bv (fun v3 _ => hk28 _ _ _ _ h)))))
theorem fj_fX7_nextSample_59 {σ0 : zSt} {k28 : zSt → Int32 → Int32 → Int32 → Option (zSt × Int32)} (hk28 : ∀ (y0 : zSt) (y1 : Int32) (y2 : Int32) (y3 : Int32), (zQ [] [(30, 3, 8), (30, 14, 16), (11, 2, 3)] [46] [(38, 3, 6)]) σ0 y0 → zpc (k28 y0 y1 y2 y3) (fun r => (zQ [] [(30, 3, 8), (30, 14, 16), (11, 2, 3)] [46] [(38, 3, 6)]) σ0 (r.1))) {σ : zSt} {x1 : Int32} {x2 : Int32} {x3 : Int32} {s0 : Int32} (h : (zQ [] [(30, 3, 8), (30, 14, 16), (11, 2, 3)] [46] [(38, 3, 6)]) σ0 σ) : zpc (fX7_nextSample_59 k28 σ x1 x2 x3 s0) (fun r => (zQ [] [(30, 3, 8), (30, 14, 16), (11, 2, 3)] [46] [(38, 3, 6)]) σ0 (r.1)) := by
  unfold fX7_nextSample_59
  exact zpc_if (fun _ => zpc_ck (zpc_ck (fj_fX7_nextSample_87 hk28 h))) (fun _ => fj_fX7_nextSample_87 hk28 h)
theorem fj_fX7_nextSample_28_body {σ0 : zSt} {k28 : zSt → Int32 → Int32 → Int32 → Option (zSt × Int32)} (hk28 : ∀ (y0 : zSt) (y1 : Int32) (y2 : Int32) (y3 : Int32), (zQ [] [(30, 3, 8), (30, 14, 16), (11, 2, 3)] [46] [(38, 3, 6)]) σ0 y0 → zpc (k28 y0 y1 y2 y3) (fun r => (zQ [] [(30, 3, 8), (30, 14, 16), (11, 2, 3)] [46] [(38, 3, 6)]) σ0 (r.1))) {σ : zSt} {x1 : Int32} {x2 : Int32} {x3 : Int32} (h : (zQ [] [(30, 3, 8), (30, 14, 16), (11, 2, 3)] [46] [(38, 3, 6)]) σ0 σ) : zpc (fX7_nextSample_28_body k28 σ x1 x2 x3) (fun r => (zQ [] [(30, 3, 8), (30, 14, 16), (11, 2, 3)] [46] [(38, 3, 6)]) σ0 (r.1)) := by
  unfold fX7_nextSample_28_body
  exact zpc_if (fun _ => zpc_some h) (fun _ => zpc_if (fun _ => zpc_ck (fj_fX7_nextSample_59 hk28 h)) (fun _ => zpc_ck (fj_fX7_nextSample_59 hk28 h)))
theorem fj_fX7_nextSample_28 {σ0 : zSt} : ∀ (n : Nat) (y0 : zSt) (y1 : Int32) (y2 : Int32) (y3 : Int32), (zQ [] [(30, 3, 8), (30, 14, 16), (11, 2, 3)] [46] [(38, 3, 6)]) σ0 y0 → zpc (fX7_nextSample_28 n y0 y1 y2 y3) (fun r => (zQ [] [(30, 3, 8), (30, 14, 16), (11, 2, 3)] [46] [(38, 3, 6)]) σ0 (r.1)) := by
  intro n
  induction n with
  | zero => intro y0 y1 y2 y3 h; exact zpc_none
  | succ n ih => intro y0 y1 y2 y3 h; exact fj_fX7_nextSample_28_body ih h
theorem fj_fX7_nextSample_2_body {σ0 : zSt} {k2 : zSt → Int32 → Option (zSt × Int32)} (hk2 : ∀ (y0 : zSt) (y1 : Int32), (zQ [] [(30, 3, 8), (30, 14, 16), (11, 2, 3)] [46] [(38, 3, 6)]) σ0 y0 → zr 0 3 y1 → zpc (k2 y0 y1) (fun r => (zQ [] [(30, 3, 8), (30, 14, 16), (11, 2, 3)] [46] [(38, 3, 6)]) σ0 (r.1))) {σ : zSt} {x1 : Int32} (h : (zQ [] [(30, 3, 8), (30, 14, 16), (11, 2, 3)] [46] [(38, 3, 6)]) σ0 σ) (qx1 : zr 0 3 x1) : zpc (fX7_nextSample_2_body k2 σ x1) (fun r => (zQ [] [(30, 3, 8), (30, 14, 16), (11, 2, 3)] [46] [(38, 3, 6)]) σ0 (r.1)) := by
  unfold fX7_nextSample_2_body
  exact zpc_if (fun g1 => zpc_bu (fj_fX7_moveNoise h) (fun σ4 hσ4 => fj_fX7_nextSample_28 _ _ _ _ _ hσ4)) (fun g1 => zpc_bu (fj_fX7_moveTone h (zr_nge (k := 3) (m := 2) qx1 rfl g1 (by decide))) (fun σ5 hσ5 => zpc_bv (fun v6 ev6 => hk2 _ _ hσ5 (zr_w (show zr 1 3 v6 by rw [ev6]; exact (zr_add (lo := 1) (hi := 3) (zr_nge (k := 3) (m := 2) qx1 rfl g1 (by decide)) (zr_c (x := 1) (lo := 1) (hi := 1) (by decide)) (by decide))) (by decide)))))
theorem fj_fX7_nextSample_2 {σ0 : zSt} : ∀ (n : Nat) (y0 : zSt) (y1 : Int32), (zQ [] [(30, 3, 8), (30, 14, 16), (11, 2, 3)] [46] [(38, 3, 6)]) σ0 y0 → zr 0 3 y1 → zpc (fX7_nextSample_2 n y0 y1) (fun r => (zQ [] [(30, 3, 8), (30, 14, 16), (11, 2, 3)] [46] [(38, 3, 6)]) σ0 (r.1)) := by
  intro n
  induction n with
  | zero => intro y0 y1 h q1; exact zpc_none
  | succ n ih => intro y0 y1 h q1; exact fj_fX7_nextSample_2_body ih h q1
theorem fj_fX7_nextSample {σ0 : zSt} {σ : zSt} (h : (zQ [] [(30, 3, 8), (30, 14, 16), (11, 2, 3)] [46] [(38, 3, 6)]) σ0 σ) : zpc (fX7_nextSample σ) (fun r => (zQ [] [(30, 3, 8), (30, 14, 16), (11, 2, 3)] [46] [(38, 3, 6)]) σ0 (r.1)) := by
  unfold fX7_nextSample
  exact fj_fX7_nextSample_2 _ _ _ h (zr_w (zr_c (x := 0) (lo := 0) (hi := 0) (by decide)) (by decide))
theorem fj_fX6_add_k11_56 {σ0 : zSt} {σ : zSt} (h : (zQ [] [(30, 3, 8), (30, 14, 16), (11, 2, 3)] [46] [(38, 3, 6)]) σ0 σ) : zpc (fX6_add_k11_56 σ) (fun r => (zQ [] [(30, 3, 8), (30, 14, 16), (11, 2, 3)] [46] [(38, 3, 6)]) σ0 (r)) := by
  unfold fX6_add_k11_56
  exact zpc_some h
theorem fj_fX6_add_k11 {σ0 : zSt} {σ : zSt} {x1 : Int64} (h : (zQ [] [(30, 3, 8), (30, 14, 16), (11, 2, 3)] [46] [(38, 3, 6)]) σ0 σ) : zpc (fX6_add_k11 σ x1) (fun r => (zQ [] [(30, 3, 8), (30, 14, 16), (11, 2, 3)] [46] [(38, 3, 6)]) σ0 (r)) := by
  unfold fX6_add_k11
  exact zpc_ck (zpc_bs (zQ.wl h rfl) (fun σ1 hσ1 => zpc_if (fun _ => zpc_bs (zQ.wi hσ1 rfl) (fun σ2 hσ2 => fj_fX6_add_k11_56 hσ2)) (fun _ => zpc_bs (zQ.wi hσ1 rfl) (fun σ3 hσ3 => fj_fX6_add_k11_56 hσ3))))
theorem fj_fX0_addSample {σ0 : zSt} {σ : zSt} (h : (zQ [] [(30, 3, 8), (30, 14, 16), (11, 2, 3)] [46] [(38, 3, 6)]) σ0 σ) : zpc (fX0_addSample σ) (fun r => (zQ [] [(30, 3, 8), (30, 14, 16), (11, 2, 3)] [46] [(38, 3, 6)]) σ0 (r)) := by
  unfold fX0_addSample
  exact zpc_bi (fj_fX7_nextSample h) (fun σ1 v2 hσ1 => zpc_bu (fj_fX6_add_k11 hσ1) (fun σ3 hσ3 => zpc_ck (zpc_ck (zpc_bs (zQ.wl hσ3 rfl) (fun σ4 hσ4 => zpc_ck (zpc_ck (zpc_bs (zQ.wl hσ4 rfl) (fun σ5 hσ5 => zpc_ck (zpc_ck (zpc_bs (zQ.wl hσ5 rfl) (fun σ6 hσ6 => zpc_ck (zpc_ck (zpc_bs (zQ.wl hσ6 rfl) (fun σ7 hσ7 => zpc_some hσ7))))))))))))))
theorem fJ_fX12_loudness {σ0 : zSt} {σ : zSt} {x0 : Int32} (h : (zQ [] [(3, 72, 77), (3, 83, 85), (3, 87, 88), (3, 166, 168)] [10] [(4, 3, 3)]) σ0 σ) : zpc (fX12_loudness σ x0) (fun r => (zQ [] [(3, 72, 77), (3, 83, 85), (3, 87, 88), (3, 166, 168)] [10] [(4, 3, 3)]) σ0 (r.1)) := by
  unfold fX12_loudness
  exact zpc_if (fun _ => zpc_some h) (fun _ => zpc_if (fun _ => zpc_some h) (fun _ => zpc_if (fun _ => zpc_some h) (fun _ => zpc_if (fun _ => zpc_some h) (fun _ => zpc_if (fun _ => zpc_some h) (fun _ => zpc_if (fun _ => zpc_some h) (fun _ => zpc_if (fun _ => zpc_some h) (fun _ => zpc_if (fun _ => zpc_some h) (fun _ => zpc_if (fun _ => zpc_some h) (fun _ => zpc_if (fun _ => zpc_some h) (fun _ => zpc_if (fun _ => zpc_some h) (fun _ => zpc_if (fun _ => zpc_some h) (fun _ => zpc_if (fun _ => zpc_some h) (fun _ => zpc_if (fun _ => zpc_some h) (fun _ => zpc_if (fun _ => zpc_some h) (fun _ => zpc_some h)))))))))))))))
theorem fJ_fX12_sample_102 {σ0 : zSt} {k2 : zSt → Int32 → Option (zSt)} (hk2 : ∀ (y0 : zSt) (y1 : Int32), (zQ [] [(3, 72, 77), (3, 83, 85), (3, 87, 88), (3, 166, 168)] [10] [(4, 3, 3)]) σ0 y0 → zr 0 3 y1 → zpc (k2 y0 y1) (fun r => (zQ [] [(3, 72, 77), (3, 83, 85), (3, 87, 88), (3, 166, 168)] [10] [(4, 3, 3)]) σ0 (r))) {σ : zSt} {x1 : Int32} (h : (zQ [] [(3, 72, 77), (3, 83, 85), (3, 87, 88), (3, 166, 168)] [10] [(4, 3, 3)]) σ0 σ) (qx1 : zr 0 2 x1) : zpc (fX12_sample_102 k2 σ x1) (fun r => (zQ [] [(3, 72, 77), (3, 83, 85), (3, 87, 88), (3, 166, 168)] [10] [(4, 3, 3)]) σ0 (r)) := by
  unfold fX12_sample_102
  exact zpc_bv (fun v1 ev1 => hk2 _ _ h (zr_w (show zr 1 3 v1 by rw [ev1]; exact (zr_add (lo := 1) (hi := 3) qx1 (zr_c (x := 1) (lo := 1) (hi := 1) (by decide)) (by decide))) (by decide)))
theorem fJ_fX12_sample_101 {σ0 : zSt} {k2 : zSt → Int32 → Option (zSt)} (hk2 : ∀ (y0 : zSt) (y1 : Int32), (zQ [] [(3, 72, 77), (3, 83, 85), (3, 87, 88), (3, 166, 168)] [10] [(4, 3, 3)]) σ0 y0 → zr 0 3 y1 → zpc (k2 y0 y1) (fun r => (zQ [] [(3, 72, 77), (3, 83, 85), (3, 87, 88), (3, 166, 168)] [10] [(4, 3, 3)]) σ0 (r))) {σ : zSt} {x1 : Int32} {s0 : Int32} {s1 : Int32} (h : (zQ [] [(3, 72, 77), (3, 83, 85), (3, 87, 88), (3, 166, 168)] [10] [(4, 3, 3)]) σ0 σ) (qx1 : zr 0 2 x1) (qs1 : zr 75 77 s1) : zpc (fX12_sample_101 k2 σ x1 s0 s1) (fun r => (zQ [] [(3, 72, 77), (3, 83, 85), (3, 87, 88), (3, 166, 168)] [10] [(4, 3, 3)]) σ0 (r)) := by
  unfold fX12_sample_101
  exact zpc_ck (zpc_bs (zQ.wr (a := 72) (b := 77) (lo := 75) (hi := 77) h qs1 rfl (by decide)) (fun σ2 hσ2 => fJ_fX12_sample_102 hk2 hσ2 qx1))
theorem fJ_fX12_sample_32 {σ0 : zSt} {k2 : zSt → Int32 → Option (zSt)} (hk2 : ∀ (y0 : zSt) (y1 : Int32), (zQ [] [(3, 72, 77), (3, 83, 85), (3, 87, 88), (3, 166, 168)] [10] [(4, 3, 3)]) σ0 y0 → zr 0 3 y1 → zpc (k2 y0 y1) (fun r => (zQ [] [(3, 72, 77), (3, 83, 85), (3, 87, 88), (3, 166, 168)] [10] [(4, 3, 3)]) σ0 (r))) {σ : zSt} {x1 : Int32} (h : (zQ [] [(3, 72, 77), (3, 83, 85), (3, 87, 88), (3, 166, 168)] [10] [(4, 3, 3)]) σ0 σ) (qx1 : zr 0 2 x1) : zpc (fX12_sample_32 k2 σ x1) (fun r => (zQ [] [(3, 72, 77), (3, 83, 85), (3, 87, 88), (3, 166, 168)] [10] [(4, 3, 3)]) σ0 (r)) := by
  unfold fX12_sample_32
  exact zpc_ck (zpc_if (fun _ => zpc_ck (zpc_ck (zpc_bs (zQ.wr (a := 72) (b := 77) (lo := 72) (hi := 74) h (zr_add (lo := 72) (hi := 74) (zr_c (x := 72) (lo := 72) (hi := 72) (by decide)) qx1 (by decide)) rfl (by decide)) (fun σ3 hσ3 => zpc_ck (zpc_if (fun _ => zpc_ck (fJ_fX12_sample_101 hk2 hσ3 qx1 (zr_add (lo := 75) (hi := 77) (zr_c (x := 75) (lo := 75) (hi := 75) (by decide)) qx1 (by decide)))) (fun _ => fJ_fX12_sample_101 hk2 hσ3 qx1 (zr_add (lo := 75) (hi := 77) (zr_c (x := 75) (lo := 75) (hi := 75) (by decide)) qx1 (by decide)))))))) (fun _ => fJ_fX12_sample_102 hk2 h qx1))
theorem fJ_fX12_sample_407 {σ0 : zSt} {k275 : zSt → Int64 → Int64 → Int32 → Option (zSt)} (hk275 : ∀ (y0 : zSt) (y1 : Int64) (y2 : Int64) (y3 : Int32), (zQ [] [(3, 72, 77), (3, 83, 85), (3, 87, 88), (3, 166, 168)] [10] [(4, 3, 3)]) σ0 y0 → zpc (k275 y0 y1 y2 y3) (fun r => (zQ [] [(3, 72, 77), (3, 83, 85), (3, 87, 88), (3, 166, 168)] [10] [(4, 3, 3)]) σ0 (r))) {σ : zSt} {x1 : Int64} {x3 : Int64} {x5 : Int32} (h : (zQ [] [(3, 72, 77), (3, 83, 85), (3, 87, 88), (3, 166, 168)] [10] [(4, 3, 3)]) σ0 σ) : zpc (fX12_sample_407 k275 σ x1 x3 x5) (fun r => (zQ [] [(3, 72, 77), (3, 83, 85), (3, 87, 88), (3, 166, 168)] [10] [(4, 3, 3)]) σ0 (r)) := by
  unfold fX12_sample_407
  exact zpc_bv (fun v4 _ => hk275 _ _ _ _ h)
theorem fJ_fX12_sample_369 {σ0 : zSt} {k275 : zSt → Int64 → Int64 → Int32 → Option (zSt)} (hk275 : ∀ (y0 : zSt) (y1 : Int64) (y2 : Int64) (y3 : Int32), (zQ [] [(3, 72, 77), (3, 83, 85), (3, 87, 88), (3, 166, 168)] [10] [(4, 3, 3)]) σ0 y0 → zpc (k275 y0 y1 y2 y3) (fun r => (zQ [] [(3, 72, 77), (3, 83, 85), (3, 87, 88), (3, 166, 168)] [10] [(4, 3, 3)]) σ0 (r))) {σ : zSt} {x1 : Int64} {x3 : Int64} {x5 : Int32} {x6 : Int32} (h : (zQ [] [(3, 72, 77), (3, 83, 85), (3, 87, 88), (3, 166, 168)] [10] [(4, 3, 3)]) σ0 σ) : zpc (fX12_sample_369 k275 σ x1 x3 x5 x6) (fun r => (zQ [] [(3, 72, 77), (3, 83, 85), (3, 87, 88), (3, 166, 168)] [10] [(4, 3, 3)]) σ0 (r)) := by
  unfold fX12_sample_369
  exact zpc_if (fun _ => fJ_fX12_sample_407 hk275 h) (fun _ => zpc_ck (zpc_if (fun _ => zpc_ck (zpc_bi (fJ_fX12_loudness h) (fun σ5 v6 hσ5 => zpc_bv (fun v7 _ => fJ_fX12_sample_407 hk275 hσ5)))) (fun _ => fJ_fX12_sample_407 hk275 h)))
theorem fJ_fX12_sample_327 {σ0 : zSt} {k275 : zSt → Int64 → Int64 → Int32 → Option (zSt)} (hk275 : ∀ (y0 : zSt) (y1 : Int64) (y2 : Int64) (y3 : Int32), (zQ [] [(3, 72, 77), (3, 83, 85), (3, 87, 88), (3, 166, 168)] [10] [(4, 3, 3)]) σ0 y0 → zpc (k275 y0 y1 y2 y3) (fun r => (zQ [] [(3, 72, 77), (3, 83, 85), (3, 87, 88), (3, 166, 168)] [10] [(4, 3, 3)]) σ0 (r))) {σ : zSt} {x1 : Int64} {x3 : Int64} {x5 : Int32} {s0 : Int32} (h : (zQ [] [(3, 72, 77), (3, 83, 85), (3, 87, 88), (3, 166, 168)] [10] [(4, 3, 3)]) σ0 σ) : zpc (fX12_sample_327 k275 σ x1 x3 x5 s0) (fun r => (zQ [] [(3, 72, 77), (3, 83, 85), (3, 87, 88), (3, 166, 168)] [10] [(4, 3, 3)]) σ0 (r)) := by
  unfold fX12_sample_327
  exact zpc_if (fun _ => fJ_fX12_sample_369 hk275 h) (fun _ => zpc_ck (zpc_if (fun _ => zpc_ck (zpc_bi (fJ_fX12_loudness h) (fun σ8 v9 hσ8 => zpc_bv (fun v10 _ => fJ_fX12_sample_369 hk275 hσ8)))) (fun _ => fJ_fX12_sample_369 hk275 h)))
theorem fJ_fX12_sample_508 {σ0 : zSt} {σ : zSt} {x1 : Int64} {x3 : Int64} (h : (zQ [] [(3, 72, 77), (3, 83, 85), (3, 87, 88), (3, 166, 168)] [10] [(4, 3, 3)]) σ0 σ) : zpc (fX12_sample_508 σ x1 x3) (fun r => (zQ [] [(3, 72, 77), (3, 83, 85), (3, 87, 88), (3, 166, 168)] [10] [(4, 3, 3)]) σ0 (r)) := by
  unfold fX12_sample_508
  exact zpc_ck (zpc_ck (zpc_ck (zpc_ck (zpc_bs (zQ.wl h rfl) (fun σ11 hσ11 => zpc_some hσ11)))))
theorem fJ_fX12_sample_275_body {σ0 : zSt} {k275 : zSt → Int64 → Int64 → Int32 → Option (zSt)} (hk275 : ∀ (y0 : zSt) (y1 : Int64) (y2 : Int64) (y3 : Int32), (zQ [] [(3, 72, 77), (3, 83, 85), (3, 87, 88), (3, 166, 168)] [10] [(4, 3, 3)]) σ0 y0 → zpc (k275 y0 y1 y2 y3) (fun r => (zQ [] [(3, 72, 77), (3, 83, 85), (3, 87, 88), (3, 166, 168)] [10] [(4, 3, 3)]) σ0 (r))) {σ : zSt} {x1 : Int64} {x3 : Int64} {x5 : Int32} (h : (zQ [] [(3, 72, 77), (3, 83, 85), (3, 87, 88), (3, 166, 168)] [10] [(4, 3, 3)]) σ0 σ) : zpc (fX12_sample_275_body k275 σ x1 x3 x5) (fun r => (zQ [] [(3, 72, 77), (3, 83, 85), (3, 87, 88), (3, 166, 168)] [10] [(4, 3, 3)]) σ0 (r)) := by
  unfold fX12_sample_275_body
  exact zpc_if (fun _ => zpc_ck (zpc_ck (zpc_bs (zQ.wl h rfl) (fun σ12 hσ12 => zpc_ck (zpc_ck (zpc_bs (zQ.wi hσ12 rfl) (fun σ13 hσ13 => zpc_ck (zpc_ck (zpc_bs (zQ.wi hσ13 rfl) (fun σ14 hσ14 => zpc_ck (zpc_ck (zpc_bs (zQ.wi hσ14 rfl) (fun σ15 hσ15 => zpc_ck (zpc_if (fun _ => zpc_ck (zpc_ck (zpc_ck (zpc_bs (zQ.wi hσ15 rfl) (fun σ17 hσ17 => fJ_fX12_sample_508 hσ17))))) (fun _ => zpc_ck (zpc_ck (zpc_bs (zQ.wi hσ15 rfl) (fun σ16 hσ16 => fJ_fX12_sample_508 hσ16)))))))))))))))))) (fun _ => zpc_if (fun _ => zpc_ck (zpc_if (fun _ => fJ_fX12_sample_327 hk275 h) (fun _ => fJ_fX12_sample_327 hk275 h))) (fun _ => zpc_ck (zpc_if (fun _ => fJ_fX12_sample_327 hk275 h) (fun _ => fJ_fX12_sample_327 hk275 h))))
theorem fJ_fX12_sample_275 {σ0 : zSt} : ∀ (n : Nat) (y0 : zSt) (y1 : Int64) (y2 : Int64) (y3 : Int32), (zQ [] [(3, 72, 77), (3, 83, 85), (3, 87, 88), (3, 166, 168)] [10] [(4, 3, 3)]) σ0 y0 → zpc (fX12_sample_275 n y0 y1 y2 y3) (fun r => (zQ [] [(3, 72, 77), (3, 83, 85), (3, 87, 88), (3, 166, 168)] [10] [(4, 3, 3)]) σ0 (r)) := by
  intro n
  induction n with
  | zero => intro y0 y1 y2 y3 h; exact zpc_none
  | succ n ih => intro y0 y1 y2 y3 h; exact fJ_fX12_sample_275_body ih h
theorem fJ_fX12_sample_268 {σ0 : zSt} {σ : zSt} (h : (zQ [] [(3, 72, 77), (3, 83, 85), (3, 87, 88), (3, 166, 168)] [10] [(4, 3, 3)]) σ0 σ) : zpc (fX12_sample_268 σ) (fun r => (zQ [] [(3, 72, 77), (3, 83, 85), (3, 87, 88), (3, 166, 168)] [10] [(4, 3, 3)]) σ0 (r)) := by
  unfold fX12_sample_268
  exact fJ_fX12_sample_275 _ _ _ _ _ h
theorem fJ_fX12_sample_246 {σ0 : zSt} {σ : zSt} {s0 : Int32} (h : (zQ [] [(3, 72, 77), (3, 83, 85), (3, 87, 88), (3, 166, 168)] [10] [(4, 3, 3)]) σ0 σ) : zpc (fX12_sample_246 σ s0) (fun r => (zQ [] [(3, 72, 77), (3, 83, 85), (3, 87, 88), (3, 166, 168)] [10] [(4, 3, 3)]) σ0 (r)) := by
  unfold fX12_sample_246
  exact zpc_ck (zpc_ck (zpc_bs (zQ.wi h rfl) (fun σ18 hσ18 => fJ_fX12_sample_268 hσ18)))
theorem fJ_fX12_sample_174 {σ0 : zSt} {σ : zSt} {s0 : Int32} {s1 : Int32} (h : (zQ [] [(3, 72, 77), (3, 83, 85), (3, 87, 88), (3, 166, 168)] [10] [(4, 3, 3)]) σ0 σ) (qs1 : zr 83 83 s1) : zpc (fX12_sample_174 σ s0 s1) (fun r => (zQ [] [(3, 72, 77), (3, 83, 85), (3, 87, 88), (3, 166, 168)] [10] [(4, 3, 3)]) σ0 (r)) := by
  unfold fX12_sample_174
  exact zpc_ck (zpc_bs (zQ.wr (a := 83) (b := 85) (lo := 83) (hi := 83) h qs1 rfl (by decide)) (fun σ19 hσ19 => zpc_ck (zpc_ck (zpc_bs (zQ.wi hσ19 rfl) (fun σ20 hσ20 => zpc_ck (zpc_if (fun _ => zpc_ck (zpc_if (fun _ => zpc_ck (zpc_ck (fJ_fX12_sample_246 hσ20))) (fun _ => zpc_ck (fJ_fX12_sample_246 hσ20)))) (fun _ => fJ_fX12_sample_268 hσ20)))))))
theorem fJ_fX12_sample_129 {σ0 : zSt} {σ : zSt} (h : (zQ [] [(3, 72, 77), (3, 83, 85), (3, 87, 88), (3, 166, 168)] [10] [(4, 3, 3)]) σ0 σ) : zpc (fX12_sample_129 σ) (fun r => (zQ [] [(3, 72, 77), (3, 83, 85), (3, 87, 88), (3, 166, 168)] [10] [(4, 3, 3)]) σ0 (r)) := by
  unfold fX12_sample_129
  exact zpc_ck (zpc_if (fun _ => zpc_ck (zpc_ck (zpc_bv (fun v21 _ => zpc_if (fun _ => zpc_ck (fJ_fX12_sample_174 h (zr_c (x := 83) (lo := 83) (hi := 83) (by decide)))) (fun _ => fJ_fX12_sample_174 h (zr_c (x := 83) (lo := 83) (hi := 83) (by decide))))))) (fun _ => fJ_fX12_sample_268 h))
theorem fJ_fX12_sample_2_body {σ0 : zSt} {k2 : zSt → Int32 → Option (zSt)} (hk2 : ∀ (y0 : zSt) (y1 : Int32), (zQ [] [(3, 72, 77), (3, 83, 85), (3, 87, 88), (3, 166, 168)] [10] [(4, 3, 3)]) σ0 y0 → zr 0 3 y1 → zpc (k2 y0 y1) (fun r => (zQ [] [(3, 72, 77), (3, 83, 85), (3, 87, 88), (3, 166, 168)] [10] [(4, 3, 3)]) σ0 (r))) {σ : zSt} {x1 : Int32} (h : (zQ [] [(3, 72, 77), (3, 83, 85), (3, 87, 88), (3, 166, 168)] [10] [(4, 3, 3)]) σ0 σ) (qx1 : zr 0 3 x1) : zpc (fX12_sample_2_body k2 σ x1) (fun r => (zQ [] [(3, 72, 77), (3, 83, 85), (3, 87, 88), (3, 166, 168)] [10] [(4, 3, 3)]) σ0 (r)) := by
  unfold fX12_sample_2_body
  exact zpc_if (fun g1 => zpc_ck (zpc_if (fun _ => fJ_fX12_sample_129 h) (fun _ => zpc_ck (zpc_ck (zpc_bs (zQ.wi h rfl) (fun σ22 hσ22 => fJ_fX12_sample_129 hσ22)))))) (fun g1 => zpc_ck (zpc_if (fun _ => fJ_fX12_sample_32 hk2 h (zr_nge (k := 3) (m := 2) qx1 rfl g1 (by decide))) (fun _ => zpc_bv (fun v23 ev23 => zpc_ck (zpc_ck (zpc_bs (zQ.wr (a := 72) (b := 77) (lo := 72) (hi := 74) h (show zr 72 74 v23 by rw [ev23]; exact (zr_add (lo := 72) (hi := 74) (zr_c (x := 72) (lo := 72) (hi := 72) (by decide)) (zr_nge (k := 3) (m := 2) qx1 rfl g1 (by decide)) (by decide))) rfl (by decide)) (fun σ24 hσ24 => fJ_fX12_sample_32 hk2 hσ24 (zr_nge (k := 3) (m := 2) qx1 rfl g1 (by decide)))))))))
theorem fJ_fX12_sample_2 {σ0 : zSt} : ∀ (n : Nat) (y0 : zSt) (y1 : Int32), (zQ [] [(3, 72, 77), (3, 83, 85), (3, 87, 88), (3, 166, 168)] [10] [(4, 3, 3)]) σ0 y0 → zr 0 3 y1 → zpc (fX12_sample_2 n y0 y1) (fun r => (zQ [] [(3, 72, 77), (3, 83, 85), (3, 87, 88), (3, 166, 168)] [10] [(4, 3, 3)]) σ0 (r)) := by
  intro n
  induction n with
  | zero => intro y0 y1 h q1; exact zpc_none
  | succ n ih => intro y0 y1 h q1; exact fJ_fX12_sample_2_body ih h q1
theorem fJ_fX12_sample {σ0 : zSt} {σ : zSt} (h : (zQ [] [(3, 72, 77), (3, 83, 85), (3, 87, 88), (3, 166, 168)] [10] [(4, 3, 3)]) σ0 σ) : zpc (fX12_sample σ) (fun r => (zQ [] [(3, 72, 77), (3, 83, 85), (3, 87, 88), (3, 166, 168)] [10] [(4, 3, 3)]) σ0 (r)) := by
  unfold fX12_sample
  exact fJ_fX12_sample_2 _ _ _ h (zr_w (zr_c (x := 0) (lo := 0) (hi := 0) (by decide)) (by decide))
end ZJN18
section ZJN19
/-! MIXES OF BOTH -/
theorem zpc_ckw {α : Type} {b : Bool} {x : Option α} {Q : α → Prop} (h : b = true → zpc x Q) : zpc (zck b x) Q := by
  cases b with
  | true => exact h rfl
  | false => exact zpc_none
section ZWM
variable {σ μ s t σ' μ' : zSt} {R R' S S' : List Nat} {A A' D D' : List (Nat × Nat × Nat)} {c : Int} {m : Nat} {x2 v10 : Int64} {Q : zSt → zSt → Prop}
theorem zWvq.kp (h : zWvq m σ μ) (a : zQ R A S D σ σ') (b : zQ R' A' S' D' μ μ') (c1 : (zof R A 32 65 67 && zof R A 32 128 271) = true) (c2 : (zof R' A' 3 164 165 && (zof R' A' 3 172 279 && zof S' D' 4 4 4)) = true) : zWvq m σ' μ' := by
  rw [Bool.and_eq_true] at c1
  rw [Bool.and_eq_true, Bool.and_eq_true] at c2
  obtain ⟨a1, a2⟩ := c1
  obtain ⟨b1, b2, b3⟩ := c2
  obtain ⟨⟨h1, h2⟩, h3, h4, h5, h6, h7⟩ := h
  have ea : ∀ j : Nat, 65 ≤ j → j ≤ 67 → σ'.1 32 j = σ.1 32 j := fun j x y => a.o a1 x y
  have eb : ∀ j : Nat, 128 ≤ j → j ≤ 271 → σ'.1 32 j = σ.1 32 j := fun j x y => a.o a2 x y
  have ma : ∀ j : Nat, 164 ≤ j → j ≤ 165 → μ'.1 3 j = μ.1 3 j := fun j x y => b.o b1 x y
  have mb : ∀ j : Nat, 172 ≤ j → j ≤ 279 → μ'.1 3 j = μ.1 3 j := fun j x y => b.o b2 x y
  refine ⟨⟨fun q j hq hj => ?_, fun q hq => ?_⟩, ?_, ?_, ?_, ?_, ?_⟩
  · rw [eb _ (by omega) (by omega), mb _ (by omega) (by omega)]; exact h1 q j hq hj
  · rw [eb _ (by omega) (by omega), eb _ (by omega) (by omega), eb _ (by omega) (by omega), eb _ (by omega) (by omega)]; exact h2 q hq
  · rw [ea 65 (by decide) (by decide), ma 164 (by decide) (by decide)]; exact h3
  · rw [ea 67 (by decide) (by decide), ma 165 (by decide) (by decide)]; exact h4
  · rw [ea 66 (by decide) (by decide)]; exact h5
  · rw [b.lo b3 (j := 4) (by decide) (by decide)]; exact h6
  · rw [ea 67 (by decide) (by decide)]; exact h7
theorem p_mAd12 {Q : zSt → Prop} {v : Int64} {t : zSt} (r2 : zr 0 4095 (t.1 3 170)) (r3 : zr 0 4096 (t.1 3 169)) (k : Q (zAd12 t v)) : zpc (zck (zin 169 1048) (if (zgi t 3 (169 : Int32).toNatClampNeg) = 4096 then zck (zin 170 1048) (zck (decide (¬ 4096 = 0)) (zck (zin 170 1048) (zbv (zsi t 3 ((170 : Int32).toNatClampNeg) (zrem ((zgi t 3 (170 : Int32).toNatClampNeg) + 1) 4096)) (fun σ3 => fX12_mixed_151 σ3 v)))) else zck (zin 169 1048) (zck (zin 169 1048) (zbv (zsi t 3 ((169 : Int32).toNatClampNeg) ((zgi t 3 (169 : Int32).toNatClampNeg) + 1)) (fun σ2 => fX12_mixed_151 σ2 v))))) Q := by
  have a20 := r2.1
  have a21 := r2.2
  have a30 := r3.1
  have a31 := r3.2
  have c4 : (4096 : Int32).toInt = 4096 := rfl
  have c1' : (1 : Int32).toInt = 1 := rfl
  have t2 := z_tadd r2 (zr_c (lo := 1) (hi := 1) (x := 1) (by decide)) (by decide)
  have t3 := z_tadd r3 (zr_c (lo := 1) (hi := 1) (x := 1) (by decide)) (by decide)
  unfold fX12_mixed_151
  rw [show zgi t 3 (169 : Int32).toNatClampNeg = t.1 3 169 from rfl, show zgi t 3 (170 : Int32).toNatClampNeg = t.1 3 170 from rfl]
  refine zpc_ck (zpc_if (fun q => zpc_ck (zpc_ck (zpc_ck (zpc_bv (fun u g => zpc_ck (zpc_ck (zpc_ck (zpc_ck (zpc_bv (fun w gw => zpc_some ?_)))))))))) (fun q => zpc_ck (zpc_ck (zpc_bv (fun u g => zpc_ck (zpc_ck (zpc_ck (zpc_ck (zpc_bv (fun w gw => zpc_some ?_))))))))))
  · obtain ⟨m1, m2⟩ := z_4095 (x := t.1 3 170 + 1) (b := 100000) ⟨by omega, by omega⟩ (by decide)
    rw [m2] at g
    have u170 : zgi u 3 (170 : Int32).toNatClampNeg = (t.1 3 170 + 1) &&& 4095 := by rw [g]; exact zsi_ej
    have u169 : zgi u 3 (169 : Int32).toNatClampNeg = 4096 := by rw [g]; exact (zsi_nj (by decide)).trans q
    rw [u170, u169] at gw
    have ta := z_tadd (x := (t.1 3 170 + 1) &&& 4095) (y := (4096 : Int32)) (a := 0) (b := 4095) ⟨by omega, by omega⟩ (zr_c (lo := 4096) (hi := 4096) (by decide)) (by decide)
    have ts := z_tsub (x := ((t.1 3 170 + 1) &&& 4095) + 4096) (y := (1 : Int32)) (a := 4096) (b := 8191) ⟨by omega, by omega⟩ (zr_c (lo := 1) (hi := 1) (by decide)) (by decide)
    have e : zrem ((((t.1 3 170 + 1) &&& 4095) + 4096) - 1) 4096 = t.1 3 170 := Int32.toInt_inj.mp (by
      rw [z_trem (y := (4096 : Int32)) 4096 rfl (a := 0) (b := 100000) ⟨by omega, by omega⟩ (by decide), ts, ta, m1, t2, c4, c1']
      omega)
    rw [e] at gw
    have z : w = zAd12 t v := by
      unfold zAd12
      rw [if_pos q, gw, g]
      rfl
    rw [z]
    exact k
  · have nq : ¬ (t.1 3 169).toInt = 4096 := fun z => q (Int32.toInt_inj.mp z)
    have u170 : zgi u 3 (170 : Int32).toNatClampNeg = t.1 3 170 := by rw [g]; exact zsi_nj (by decide)
    have u169 : zgi u 3 (169 : Int32).toNatClampNeg = t.1 3 169 + 1 := by rw [g]; exact zsi_ej
    rw [u170, u169] at gw
    have ta := z_tadd (x := t.1 3 170) (y := t.1 3 169 + 1) (a := 0) (b := 4095) (c := 1) (d := 4096) ⟨by omega, by omega⟩ ⟨by omega, by omega⟩ (by decide)
    have ts := z_tsub (x := t.1 3 170 + (t.1 3 169 + 1)) (y := (1 : Int32)) (a := 1) (b := 8191) ⟨by omega, by omega⟩ (zr_c (lo := 1) (hi := 1) (by decide)) (by decide)
    have tb := z_tadd r2 r3 (by decide)
    have e : zrem ((t.1 3 170 + (t.1 3 169 + 1)) - 1) 4096 = (t.1 3 170 + t.1 3 169) &&& 4095 := by
      have e0 : (t.1 3 170 + (t.1 3 169 + 1)) - 1 = t.1 3 170 + t.1 3 169 := Int32.toInt_inj.mp (by rw [ts, ta, t3, tb, c1']; omega)
      rw [e0]
      exact (z_4095 (x := t.1 3 170 + t.1 3 169) (b := 100000) ⟨by omega, by omega⟩ (by decide)).2
    rw [e] at gw
    have z : w = zAd12 t v := by
      unfold zAd12
      rw [if_neg q, gw, g]
      rfl
    rw [z]
    exact k
/-- the sums made anew, then the ring -/
theorem p_m76 {v : Int64} {t0 : zSt} (r2 : zr 0 4095 (t0.1 3 170)) (r3 : zr 0 4096 (t0.1 3 169)) : ∀ (n i : Nat) (t : zSt), i ≤ 3 → zQ [] [(3, 166, 168)] [] [] t0 t → zpc (fX12_mixed_76 n t v (Int32.ofNat i)) (fun r => ∃ u, zQ [] [(3, 166, 168)] [] [] t0 u ∧ r = zAd12 u v) := by
  intro n
  induction n with
  | zero => intro i t _ _; exact zpc_none
  | succ n ih =>
    intro i t hi hd
    show zpc (fX12_mixed_76_body (fX12_mixed_76 n) t v (Int32.ofNat i)) _
    unfold fX12_mixed_76_body
    by_cases i3 : i = 3
    · subst i3
      refine zpc_if (fun _ => ?_) (fun q => absurd (by decide) q)
      have e2 : t.1 3 170 = t0.1 3 170 := hd.o (k := 3) (a := 169) (b := 170) rfl (by decide) (by decide)
      have e3 : t.1 3 169 = t0.1 3 169 := hd.o (k := 3) (a := 169) (b := 170) rfl (by decide) (by decide)
      exact p_mAd12 (by rw [e2]; exact r2) (by rw [e3]; exact r3) ⟨t, hd, rfl⟩
    · have ri : zr 0 2 (Int32.ofNat i) := z_ofr (by omega) (by omega)
      have o166 : (166 + Int32.ofNat i).toNatClampNeg = 166 + i := by rw [z_off ri (k := 166) rfl (by decide), z_ofC (by omega)]
      rw [o166]
      refine zpc_if (fun q => absurd q (zq_gef ri rfl (by decide))) (fun _ => zpc_ck (zpc_bv (fun u g => zpc_bv (fun w ew => ?_))))
      rw [ew, z_ofS (by omega)]
      exact ih (i + 1) u (by omega) (by rw [g]; exact zQ.wi hd (zcv_m (a := 166) (b := 168) (by decide) (by omega) (by omega)))
/-- what the latest wave adds -/
noncomputable def zHdw (a l : Int32) : Int32 := if (a &&& 1) = 1 then l else 0
theorem c_heard : zpc (fX10_heard σ ) (fun z => z = (σ, zHdw (σ.1 32 64) (σ.1 32 67))) := by
  unfold fX10_heard fX10_heard_24 zHdw
  rw [show zgi σ 32 (64 : Int32).toNatClampNeg = σ.1 32 64 from rfl, show zgi σ 32 (67 : Int32).toNatClampNeg = σ.1 32 67 from rfl]
  by_cases q : (σ.1 32 64 &&& 1) = 1
  · rw [if_pos q, if_pos q]; exact zpc_ck (zpc_ck (zpc_some rfl))
  · rw [if_neg q, if_neg q]; exact zpc_ck (zpc_some rfl)
theorem z_mxv {a b : Int64} {x y s : Int32} (ea : a.toInt = x.toInt) (eb : b.toInt = y.toInt) (x0 : 0 ≤ x.toInt) (x1 : x.toInt ≤ 32764 * y.toInt) (y0 : 1 ≤ y.toInt) (y1 : y.toInt ≤ 60000) (hs : zr (-147024) 147024 s) : (a / b) + s.toInt64 = ((x / y) + s).toInt64 := by
  have s0 := hs.1
  have s1 := hs.2
  have q0 : 0 ≤ x.toInt / y.toInt := Int.ediv_nonneg x0 (by omega)
  have q1 : x.toInt / y.toInt ≤ 32764 := by
    have := Int.ediv_le_ediv (c := y.toInt) (by omega) x1
    rw [Int.mul_ediv_cancel _ (by omega)] at this
    exact this
  have d1 := z_tldiv (x := a) (y := b) (a := 0) (b := 2000000000000) y.toInt eb ⟨by omega, by omega⟩ ⟨by decide, by omega⟩
  have d2 := z_tdiv (x := x) (y := y) (a := 0) (b := 2147483647) y.toInt rfl ⟨x0, by have := Int32.toInt_lt x; omega⟩ ⟨by decide, by omega⟩
  have t1 := z_tladd (x := a / b) (y := s.toInt64) (a := 0) (b := 32764) (c := -147024) (d := 147024) ⟨by rw [d1, ea]; exact q0, by rw [d1, ea]; exact q1⟩ ⟨by rw [Int32.toInt_toInt64]; exact s0, by rw [Int32.toInt_toInt64]; exact s1⟩ (by decide)
  have t2 := z_tadd (x := x / y) (y := s) (a := 0) (b := 32764) ⟨by rw [d2]; exact q0, by rw [d2]; exact q1⟩ hs (by decide)
  refine Int64.toInt_inj.mp ?_
  rw [t1, d1, ea, Int32.toInt_toInt64, Int32.toInt_toInt64, t2, d2]
theorem s_mix2 (hv : zVe σ μ) (hs : zSa c σ μ) (hc : c ≤ 60000) (hw : zWvq m σ μ) (hr : zRg 12 48 170 169 11 σ μ) : zp2 (fX0_addMix σ ) (fX12_mixed μ ) (zRg 12 48 170 169 11) := by
  obtain ⟨_, _, _, m6, m60, m61, m4, m40, m41, m5, m50, m51⟩ := hs
  have hE : zE σ μ := hv.1
  have e64 : μ.1 3 163 = σ.1 32 64 := by
    have w := hE.at (z_pn32_64 (d := 0) (by decide))
    rw [z_an1] at w
    exact w
  have e67 : μ.1 3 165 = σ.1 32 67 := hw.2.2.1.symm
  have rl : zr (-147024) 147024 (zHdw (σ.1 32 64) (σ.1 32 67)) := by
    unfold zHdw
    by_cases q : (σ.1 32 64 &&& 1) = 1
    · rw [if_pos q]; exact hw.2.2.2.2.2
    · rw [if_neg q]; exact zr_c (by decide)
  have hr0 := hr
  obtain ⟨_, _, _, r2, r3⟩ := hr
  -- the class, exactly
  have hC : zpc (fX0_addMix σ ) (fun r => ∃ s8, s8 = (if σ.1 12 3 = 4096 then zsi (zsl σ 48 (σ.1 12 2).toNatClampNeg ((65536 * ((σ.2 38 4 / zmaxl 1 (σ.2 38 6)) + (zHdw (σ.1 32 64) (σ.1 32 67)).toInt64)) + ((σ.2 38 5 / zmaxl 1 (σ.2 38 6)) + (zHdw (σ.1 32 64) (σ.1 32 67)).toInt64))) 12 2 ((σ.1 12 2 + 1) &&& 4095) else zsi (zsl σ 48 ((σ.1 12 2 + σ.1 12 3) &&& 4095).toNatClampNeg ((65536 * ((σ.2 38 4 / zmaxl 1 (σ.2 38 6)) + (zHdw (σ.1 32 64) (σ.1 32 67)).toInt64)) + ((σ.2 38 5 / zmaxl 1 (σ.2 38 6)) + (zHdw (σ.1 32 64) (σ.1 32 67)).toInt64))) 12 3 (σ.1 12 3 + 1)) ∧ zQ [] [] [] [(38, 4, 6)] s8 r) := by
    unfold fX0_addMix
    refine zpc_ck (zpc_bv (fun v1 f1 => zpc_ck (zpc_ck (zpc_bi c_heard (fun s2 v3 e => ?_)))))
    cases e
    refine zpc_bv (fun v4 f4 => zpc_ck (zpc_ck (zpc_bi c_heard (fun s5 v6 e => ?_))))
    cases e
    refine zpc_bv (fun v7 f7 => zpc_bu (p_add12 hr0) (fun s8 f8 => zpc_ck (zpc_bv (fun s9 f9 => zpc_ck (zpc_bv (fun s10 f10 => zpc_ck (zpc_bv (fun s11 f11 => zpc_some ?_))))))))
    have f1 : v1 = zmaxl 1 (σ.2 38 6) := f1
    subst f1
    have f4 : v4 = (σ.2 38 4 / zmaxl 1 (σ.2 38 6)) + (zHdw (σ.1 32 64) (σ.1 32 67)).toInt64 := f4
    have f7 : v7 = (σ.2 38 5 / zmaxl 1 (σ.2 38 6)) + (zHdw (σ.1 32 64) (σ.1 32 67)).toInt64 := f7
    subst f4
    subst f7
    exact ⟨s8, f8, by rw [f11, f10, f9]; exact zQ.wl (zQ.wl (zQ.wl zQ.rf rfl) rfl) rfl⟩
  -- the reference
  have hM : zpc (fX12_mixed μ ) (fun r => ¬ μ.1 3 168 = 0 ∧ ∃ u, zQ [] [(3, 166, 168)] [] [] μ u ∧ r = zAd12 u ((65536 * (((μ.1 3 166 / μ.1 3 168) + zHdw (σ.1 32 64) (σ.1 32 67)).toInt64)) + (((μ.1 3 167 / μ.1 3 168) + zHdw (σ.1 32 64) (σ.1 32 67)).toInt64))) := by
    have g26 : ∀ s0 : Int32, s0 = zHdw (σ.1 32 64) (σ.1 32 67) → zpc (fX12_mixed_26 μ s0) (fun r => ¬ μ.1 3 168 = 0 ∧ ∃ u, zQ [] [(3, 166, 168)] [] [] μ u ∧ r = zAd12 u ((65536 * (((μ.1 3 166 / μ.1 3 168) + zHdw (σ.1 32 64) (σ.1 32 67)).toInt64)) + (((μ.1 3 167 / μ.1 3 168) + zHdw (σ.1 32 64) (σ.1 32 67)).toInt64))) := fun s0 e => by
      subst e
      unfold fX12_mixed_26
      refine zpc_ck (zpc_ck (zpc_ckw (fun hz => zpc_ck (zpc_ck (zpc_ck (zpc_bv (fun v6 f6 => ?_)))))))
      have nz : ¬ μ.1 3 168 = 0 := of_decide_eq_true hz
      have f6 : v6 = (65536 * (((μ.1 3 166 / μ.1 3 168) + zHdw (σ.1 32 64) (σ.1 32 67)).toInt64)) + (((μ.1 3 167 / μ.1 3 168) + zHdw (σ.1 32 64) (σ.1 32 67)).toInt64) := f6
      subst f6
      exact zpc_mono (p_m76 (t0 := μ) r2 r3 zfuel 0 μ (by decide) zQ.rf) (fun r g => ⟨nz, g⟩)
    unfold fX12_mixed
    rw [show zgi μ 3 (163 : Int32).toNatClampNeg = σ.1 32 64 from e64, show zgi μ 3 (165 : Int32).toNatClampNeg = σ.1 32 67 from e67]
    refine zpc_ck ?_
    by_cases q : (σ.1 32 64 &&& 1) = 1
    · refine zpc_if (fun _ => zpc_ck (g26 _ ?_)) (fun y => absurd q y)
      unfold zHdw
      rw [if_pos q]
    · refine zpc_if (fun y => absurd y q) (fun _ => g26 _ ?_)
      unfold zHdw
      rw [if_neg q]
  refine zp2_of hC hM (fun a b p q => ?_)
  obtain ⟨s8, p1, p2⟩ := p
  obtain ⟨nz, u, q1, q2⟩ := q
  have n1 : ¬ (μ.1 3 168).toInt = 0 := fun z => nz (Int32.toInt_inj.mp (by rw [z]; rfl))
  have mx : zmaxl 1 (σ.2 38 6) = σ.2 38 6 := by
    unfold zmaxl
    rw [if_neg (fun y => by
      have y1 := Int64.lt_iff_toInt_lt.mp y
      rw [show (1 : Int64).toInt = 1 from rfl] at y1
      omega)]
  rw [mx] at p1
  have v4 := z_mxv (a := σ.2 38 4) (b := σ.2 38 6) (x := μ.1 3 166) (y := μ.1 3 168) m4 m6 m40 m41 (by omega) (by omega) rl
  have v5 := z_mxv (a := σ.2 38 5) (b := σ.2 38 6) (x := μ.1 3 167) (y := μ.1 3 168) m5 m6 m50 m51 (by omega) (by omega) rl
  rw [v4, v5] at p1
  have ru : zRg 12 48 170 169 11 σ u := hr0.kp (zQ.rf (R := []) (A := []) (S := []) (B := [])) q1 rfl rfl rfl rfl rfl
  have h1 := zRg12.add ru p1
  rw [← q2] at h1
  exact h1.kp p2 (zQ.rf (R := []) (A := []) (S := []) (B := [])) rfl rfl rfl rfl rfl
/-! the beats of a step pass, waves and mixes beside the tones -/
noncomputable def zSb (c : Int) (m : Nat) (σ μ : zSt) : Prop := zSa c σ μ ∧ zWvq m σ μ ∧ zRg 12 48 170 169 11 σ μ ∧ zVe σ μ
theorem s2_305 {E d : Int} {m : Nat} (hE : (v10 / 16).toInt = E) (hd : d + E ≤ 60000) (hE2 : E ≤ 1000000000000000) (k : ∀ s t, zSb (d + E) m s t → t.2 4 0 = v10 → zp2 (fX0_pass_70 zfuel s x2 v10 (x2 / 72)) (fX12_once_341 zfuel t x2 (x2 / 72)) Q) : ∀ (n m' : Nat) (σ μ : zSt) (x : Int64), zSb (d + x.toInt) m σ μ → x.toInt ≤ E → 0 ≤ x.toInt → μ.2 4 0 = v10 → zp2 (fX0_pass_38 n σ x2 v10 x) (fX12_once_305 m' μ x2 x) Q := by
  intro n
  induction n with
  | zero => intro m' σ μ x _ _ _ _; exact zp2_nl
  | succ n ih =>
    intro m' σ μ x hs hx hx0 e0
    cases m' with
    | zero => exact zp2_nr
    | succ m' =>
      show zp2 (fX0_pass_38_body (fX0_pass_38 n) σ x2 v10 x) (fX12_once_305_body (fX12_once_305 m') μ x2 x) Q
      unfold fX0_pass_38_body fX12_once_305_body
      rw [show zgl μ 4 (0 : Int32).toNatClampNeg = v10 from e0]
      refine zp2_ckl (zp2_ckr (zp2_ckr (zp2_if (fun q => ?_) (fun q => ?_))))
      · have q1 := z_cE.mp q
        have ee : x.toInt = E := by omega
        rw [ee] at hs
        refine zp2_ckl (zp2_bvl (fun v6 e6 => zp2_ckr (zp2_bvr (fun w6 f6 => ?_))))
        rw [e6, f6]
        exact k σ μ hs e0
      · have q1 : ¬ (v10 / 16).toInt ≤ x.toInt := fun z => q (z_cE.mpr z)
        have t1 := z_l1 hx0 hx (by omega)
        refine zp2_buu (P := fun r r' => zSb (d + x.toInt + 1) m r r' ∧ r'.2 4 0 = v10) (fun a b ea eb => ?_) (fun s t q => zp2_bvl (fun v8 e8 => zp2_bvr (fun w8 f8 => ?_)))
        · have fa := fq_fX0_addSample (σ0 := σ) zQ.rf a ea
          have fb := fw_fX12_sample (σ0 := μ) zQ.rf b eb
          obtain ⟨hs1, hs2, hs3, hv⟩ := hs
          have ga := fj_fX0_addSample (σ0 := σ) zQ.rf a ea
          have gb := fJ_fX12_sample (σ0 := μ) zQ.rf b eb
          refine ⟨⟨s_sample hv hs1 (by omega) a b ea eb, hs2.kp ga gb rfl rfl, hs3.kp ga gb rfl rfl rfl rfl rfl, hv.kp fa fb (by decide +kernel) (by decide +kernel)⟩, ?_⟩
          rw [fb.lo (k := 4) (a := 0) (b := 0) rfl (by decide) (by decide)]
          exact e0
        · rw [e8, f8]
          exact ih m' s t (x + 1) (by rw [t1, show d + (x.toInt + 1) = d + x.toInt + 1 by omega]; exact q.1) (by omega) (by omega) q.2
/-- waves -/
theorem s2_341 {E : Nat} (hE : (v10 / 72).toInt = (E : Int)) (hE2 : E ≤ 1000000000) (k : ∀ s t, zSb c E s t → t.2 4 0 = v10 → zp2 (fX0_pass_105 zfuel s v10 (x2 / 81)) (fX12_once_377 zfuel t (x2 / 81)) Q) : ∀ (n m' : Nat) (σ μ : zSt) (x : Int64) (m : Nat), x.toInt = (m : Int) → m ≤ E → zSb c m σ μ → μ.2 4 0 = v10 → zp2 (fX0_pass_70 n σ x2 v10 x) (fX12_once_341 m' μ x2 x) Q := by
  intro n
  induction n with
  | zero => intro m' σ μ x m _ _ _ _; exact zp2_nl
  | succ n ih =>
    intro m' σ μ x m hx hmE hs e0
    cases m' with
    | zero => exact zp2_nr
    | succ m' =>
      show zp2 (fX0_pass_70_body (fX0_pass_70 n) σ x2 v10 x) (fX12_once_341_body (fX12_once_341 m') μ x2 x) Q
      unfold fX0_pass_70_body fX12_once_341_body
      rw [show zgl μ 4 (0 : Int32).toNatClampNeg = v10 from e0]
      refine zp2_ckl (zp2_ckr (zp2_ckr (zp2_if (fun q => zp2_ckl (zp2_bvl (fun v6 e6 => zp2_ckr (zp2_bvr (fun w6 f6 => ?_))))) (fun q => ?_))))
      · rw [e6, f6]
        have q1 := z_cE.mp q
        obtain rfl : m = E := by omega
        exact k σ μ hs e0
      · have q1 : ¬ (v10 / 72).toInt ≤ x.toInt := fun z => q (z_cE.mpr z)
        have t1 := z_l1 (x := x) (b := 2000000000) (by omega) (by omega) (by decide)
        obtain ⟨hs1, hs2, hs3, hv⟩ := hs
        refine zp2_buu (P := fun r r' => zSb c (m + 1) r r' ∧ r'.2 4 0 = v10) (fun a b ea eb => ⟨⟨s_wave hs1 a b ea eb, w_wave1 hv hs2 (by omega) a b ea eb, hs3.kp (fb_fX10_makeNext (σ0 := σ) zQ.rf a ea) (fB_fX12_waves (σ0 := μ) zQ.rf b eb) rfl rfl rfl rfl rfl, hv.kp (fb_fX10_makeNext (σ0 := σ) zQ.rf a ea) (fB_fX12_waves (σ0 := μ) zQ.rf b eb) (by decide +kernel) (by decide +kernel)⟩, ?_⟩) (fun s t q => zp2_bvl (fun v8 e8 => zp2_bvr (fun w8 f8 => ?_)))
        · rw [(fB_fX12_waves (σ0 := μ) zQ.rf b eb).lo (k := 4) (a := 0) (b := 0) rfl (by decide) (by decide)]
          exact e0
        · rw [e8, f8]
          exact ih m' s t (x + 1) (m + 1) (by rw [t1]; omega) (by omega) q.1 q.2
/-- mixes -/
theorem s2_377 {m0 : Nat} : ∀ (n m : Nat) (σ μ : zSt) (x : Int64) (c : Int), c ≤ 60000 → zSb c m0 σ μ → μ.2 4 0 = v10 → zp2 (fX0_pass_105 n σ v10 x) (fX12_once_377 m μ x) (fun r r' => ((v10 / 81).toInt ≤ x.toInt ∧ zSb c m0 r r') ∨ zSb 0 m0 r r') := by
  intro n
  induction n with
  | zero => intro m σ μ x c _ _ _; exact zp2_nl
  | succ n ih =>
    intro m σ μ x c hc hs e0
    cases m with
    | zero => exact zp2_nr
    | succ m =>
      show zp2 (fX0_pass_105_body (fX0_pass_105 n) σ v10 x) (fX12_once_377_body (fX12_once_377 m) μ x) _
      unfold fX0_pass_105_body fX12_once_377_body
      rw [show zgl μ 4 (0 : Int32).toNatClampNeg = v10 from e0]
      refine zp2_ckl (zp2_ckr (zp2_ckr (zp2_if (fun q => zp2_some (Or.inl ⟨z_cE.mp q, hs⟩)) (fun q => ?_))))
      obtain ⟨hs1, hs2, hs3, hv⟩ := hs
      refine zp2_buu (P := fun r r' => zSb 0 m0 r r' ∧ r'.2 4 0 = v10) (fun a b ea eb => ⟨⟨s_mix hs1 a b ea eb, hs2.kp (fa_fX0_addMix (σ0 := σ) zQ.rf a ea) (fA_fX12_mixed (σ0 := μ) zQ.rf b eb) rfl rfl, s_mix2 hv hs1 hc hs2 hs3 a b ea eb, hv.kp (fa_fX0_addMix (σ0 := σ) zQ.rf a ea) (fA_fX12_mixed (σ0 := μ) zQ.rf b eb) (by decide +kernel) (by decide +kernel)⟩, ?_⟩) (fun s t q => zp2_bvl (fun v8 e8 => zp2_bvr (fun w8 f8 => ?_)))
      · rw [(fA_fX12_mixed (σ0 := μ) zQ.rf b eb).rlo (k := 4) rfl]
        exact e0
      · rw [e8, f8]
        refine zp2_mono (ih m s t (x + 1) 0 (by decide) q.1 q.2) (fun r r' z => Or.inr ?_)
        rcases z with z | z
        · exact z.2
        · exact z
end ZWM
end ZJN19
section ZJN20
/-! WAVES AND MIXES OVER CALLS -/
section ZWN
variable {σ μ s t : zSt} {m : Nat} {n : Int}
theorem s_pass2 {b : Int32} (h : zJ1 n σ μ) (hw : zWvq m σ μ) (hm : (m : Int) = (σ.2 38 0).toInt / 72) (hr : zRg 12 48 170 169 11 σ μ) (hv : zVe σ μ) (hb : zr 1 64 b) (hn : n + 64 ≤ 70000000000) (e : μ.2 4 0 = σ.2 38 0 + b.toInt64) : zp2 (fX0_pass σ b) (fX12_once_298 μ (σ.2 38 0)) (fun r r' => (∃ m' : Nat, zWvq m' r r' ∧ (m' : Int) = (r.2 38 0).toInt / 72) ∧ zRg 12 48 170 169 11 r r') := by
  obtain ⟨hs, h0, h1⟩ := h
  have b1 := hb.1
  have b2 := hb.2
  have tv : (σ.2 38 0 + b.toInt64).toInt = (σ.2 38 0).toInt + b.toInt := by
    rw [z_tladd (a := 0) (b := 1000000000000000) (c := 1) (d := 64) ⟨h0, by omega⟩ ⟨by rw [Int32.toInt_toInt64]; exact b1, by rw [Int32.toInt_toInt64]; exact b2⟩ (by decide), Int32.toInt_toInt64]
  have dv : ∀ (x : Int64) (k : Int64) (K : Int), k.toInt = K → 0 < K → K ≤ 100 → 0 ≤ x.toInt → x.toInt ≤ 2000000000000000 → (x / k).toInt = x.toInt / K := fun x k K hk k0 k1 x0 x1 => z_tldiv K hk (a := 0) (b := 2000000000000000) ⟨x0, x1⟩ ⟨by decide, k0⟩
  have e16 := dv (σ.2 38 0) 16 16 rfl (by decide) (by decide) h0 (by omega)
  have f16 := dv (σ.2 38 0 + b.toInt64) 16 16 rfl (by decide) (by decide) (by omega) (by omega)
  have e72 := dv (σ.2 38 0) 72 72 rfl (by decide) (by decide) h0 (by omega)
  have f72 := dv (σ.2 38 0 + b.toInt64) 72 72 rfl (by decide) (by decide) (by omega) (by omega)
  have u6 := zU_0 h0
  obtain ⟨E, hE⟩ : ∃ E : Nat, (E : Int) = ((σ.2 38 0).toInt + b.toInt) / 72 := ⟨(((σ.2 38 0).toInt + b.toInt) / 72).toNat, by omega⟩
  refine fun r r' ea eb => ?_
  have q := p_pass r ea
  have e38 : r.2 38 0 = σ.2 38 0 + b.toInt64 := by
    rw [q.lo (k := 38) (a := 0) (b := 2) rfl (j := 0) (by decide) (by decide)]
    rw [zsl_nj (by decide), zsl_ej]
  have main : zp2 (fX0_pass σ b) (fX12_once_298 μ (σ.2 38 0)) (fun r r' => zWvq E r r' ∧ zRg 12 48 170 169 11 r r') := by
    unfold fX0_pass fX12_once_298
    refine zp2_ckl (zp2_bvl (fun v9 e9 => zp2_bvl (fun v10 e10 => zp2_ckl (zp2_bvl (fun s11 e11 => zp2_ckl (zp2_ckl (zp2_bvl (fun s12 e12 => zp2_ckl (zp2_bvl (fun v13 e13 => zp2_ckr (zp2_bvr (fun w9 f9 => ?_))))))))))))
    have e9 : v9 = σ.2 38 0 := e9
    subst e9
    have qs : zQ [] [] [] [(38, 0, 1)] σ s12 := by rw [e12, e11]; exact zQ.wl (zQ.wl zQ.rf rfl) rfl
    have qr : zQ [] [] [] [] μ μ := zQ.rf
    have hs2 : zSa (zU (σ.2 38 0).toInt) s12 μ := hs.kp qs qr rfl rfl
    have hv2 : zVe s12 μ := hv.kp qs qr (by decide +kernel) (by decide +kernel)
    have hw2 : zWvq m s12 μ := hw.kp qs qr rfl rfl
    have hr2 : zRg 12 48 170 169 11 s12 μ := hr.kp qs qr rfl rfl rfl rfl rfl
    rw [e10, e13, f9]
    refine s2_305 (m := m) (E := ((σ.2 38 0).toInt + b.toInt) / 16) (d := zU (σ.2 38 0).toInt - (σ.2 38 0).toInt / 16) (by rw [f16, tv]) (by unfold zU at *; omega) (by omega) (fun s t k1 k2 => ?_) zfuel zfuel s12 μ _ (by rw [e16, show zU (σ.2 38 0).toInt - (σ.2 38 0).toInt / 16 + (σ.2 38 0).toInt / 16 = zU (σ.2 38 0).toInt by omega]; exact ⟨hs2, hw2, hr2, hv2⟩) (by rw [e16]; omega) (by rw [e16]; omega) e
    refine s2_341 (E := E) (by rw [f72, tv, hE]) (by omega) (fun s t k3 k4 => ?_) zfuel zfuel s t _ m (by rw [e72, hm]) (by omega) k1 k2
    refine zp2_mono (s2_377 (m0 := E) zfuel zfuel s t _ _ (by unfold zU at *; omega) k3 k4) (fun r r' z => ?_)
    rcases z with ⟨_, z2⟩ | z
    · exact ⟨z2.2.1, z2.2.2.1⟩
    · exact ⟨z.2.1, z.2.2.1⟩
  have mm := main r r' ea eb
  exact ⟨⟨E, mm.1, by rw [e38, tv, hE]⟩, mm.2⟩
/-- tones, noise, waves, mixes -/
noncomputable def zJ2 (n : Int) (σ μ : zSt) : Prop := zJ1 n σ μ ∧ (n ≤ 70000000000 → (∃ m : Nat, zWvq m σ μ ∧ (m : Int) = (σ.2 38 0).toInt / 72) ∧ zRg 12 48 170 169 11 σ μ)
theorem zJ2_ok : zJok zJ2 := by
  refine ⟨fun n σ μ s t h a b => ⟨zJ1_ok.1 n σ μ s t h.1 a b, fun hn => ?_⟩, fun n σ μ h => ⟨zJ1_ok.2.1 n σ μ h.1, fun hn => ?_⟩, fun n m σ μ hm h => ⟨zJ1_ok.2.2.1 n m σ μ hm h.1, fun hn => h.2 (by omega)⟩, fun n b σ μ h hv hb hn e => fun r r' ea eb => ⟨zJ1_ok.2.2.2 n b σ μ h.1 hv hb hn e r r' ea eb, fun hn2 => ?_⟩⟩
  · obtain ⟨⟨m, w1, w2⟩, w3⟩ := h.2 hn
    have e : s.2 38 0 = σ.2 38 0 := a.lo (k := 38) (a := 0) (b := 0) rfl (by decide) (by decide)
    exact ⟨⟨m, w1.kp a b rfl rfl, by rw [e]; exact w2⟩, w3.kp a b rfl rfl rfl rfl rfl⟩
  · obtain ⟨⟨m, w1, w2⟩, w3⟩ := h.2 hn
    have a : zQ [] [(30, 16, 16)] [] [] σ (zsi σ 30 16 32768) := zQ.wi zQ.rf rfl
    have b : zQ [] [(3, 85, 85)] [] [] μ (zsi μ 3 85 32768) := zQ.wi zQ.rf rfl
    exact ⟨⟨m, w1.kp a b rfl rfl, w2⟩, w3.kp a b rfl rfl rfl rfl rfl⟩
  · obtain ⟨⟨m, w1, w2⟩, w3⟩ := h.2 (by omega)
    exact s_pass2 h.1 w1 w2 w3 hv hb hn2 e r r' ea eb
theorem zWvq.w (h : zWvq m σ μ) (a1 : ∀ j : Nat, 65 ≤ j → j ≤ 67 → s.1 32 j = σ.1 32 j) (a2 : ∀ j : Nat, 128 ≤ j → j ≤ 271 → s.1 32 j = σ.1 32 j) (b1 : ∀ j : Nat, 164 ≤ j → j ≤ 170 → t.1 3 j = μ.1 3 j) (b2 : ∀ j : Nat, 172 ≤ j → j ≤ 279 → t.1 3 j = μ.1 3 j) (b3 : t.2 4 4 = μ.2 4 4) : zWvq m s t := by
  obtain ⟨⟨h1, h2⟩, h3, h4, h5, h6, h7⟩ := h
  refine ⟨⟨fun q j hq hj => ?_, fun q hq => ?_⟩, ?_, ?_, ?_, ?_, ?_⟩
  · rw [a2 _ (by omega) (by omega), b2 _ (by omega) (by omega)]; exact h1 q j hq hj
  · rw [a2 _ (by omega) (by omega), a2 _ (by omega) (by omega), a2 _ (by omega) (by omega), a2 _ (by omega) (by omega)]; exact h2 q hq
  · rw [a1 65 (by decide) (by decide), b1 164 (by decide) (by decide)]; exact h3
  · rw [a1 67 (by decide) (by decide), b1 165 (by decide) (by decide)]; exact h4
  · rw [a1 66 (by decide) (by decide)]; exact h5
  · rw [b3]; exact h6
  · rw [a1 67 (by decide) (by decide)]; exact h7
theorem zJ2_w (h : zJ2 n σ μ) (a : zSc σ s) (b : zSrm μ t) : zJ2 n s t := by
  refine ⟨zJ1_w h.1 a b, fun hn => ?_⟩
  obtain ⟨⟨m, w1, w2⟩, ⟨e2, e3, ev, r2, r3⟩⟩ := h.2 hn
  obtain ⟨a1, a2, a3, a4, a5, a6, a7, a8, a9, a10⟩ := a
  obtain ⟨b1, b2, b3, b4, b5, b6, b7, b8⟩ := b
  refine ⟨⟨m, w1.w a3 a4 b4 b5 (b6 4 (by decide) (by decide)), ?_⟩, ⟨?_, ?_, fun j hj => ?_, ?_, ?_⟩⟩
  · rw [a7 0 (by decide) (by decide)]; exact w2
  · rw [a6 2 (by decide) (by decide), b4 170 (by decide) (by decide)]; exact e2
  · rw [a6 3 (by decide) (by decide), b4 169 (by decide) (by decide)]; exact e3
  · rw [a10 j hj, b8 j hj]; exact ev j hj
  · rw [b4 170 (by decide) (by decide)]; exact r2
  · rw [b4 169 (by decide) (by decide)]; exact r3
theorem zWv_new (w1 : s.1 32 65 = 1) (w3 : s.1 32 67 = 0) (w4 : ∀ j : Nat, 128 ≤ j → j ≤ 271 → s.1 32 j = zOp8 j) (v1 : t.1 3 164 = 1) (v2 : t.1 3 165 = 0) (v3 : ∀ j : Nat, j < 108 → t.1 3 (172 + j) = zOp6 j) (w2 : s.1 32 66 = Int32.ofNat m) (v4 : (t.2 4 4).toInt = (m : Int)) : zWvq m s t := by
  have o8 : ∀ q j : Nat, j < 8 → zOp8 (128 + 8 * q + j) = if j = 0 then 127 else if j = 1 then 4 else 0 := fun q j hj => by
    unfold zOp8
    rw [show (128 + 8 * q + j) % 8 = j by omega]
  have o6 : ∀ q j : Nat, j < 6 → zOp6 (6 * q + j) = if j = 0 then 127 else if j = 1 then 4 else 0 := fun q j hj => by
    unfold zOp6
    rw [show (6 * q + j) % 6 = j by omega]
  refine ⟨⟨fun q j hq hj => ?_, fun q hq => ?_⟩, ?_, ?_, w2, v4, ?_⟩
  · rw [w4 _ (by omega) (by omega), o8 q j (by omega), show 172 + 6 * q + j = 172 + (6 * q + j) by omega, v3 _ (by omega), o6 q j hj]
  · have c0 : s.1 32 (128 + 8 * q) = 127 := (w4 (128 + 8 * q + 0) (by omega) (by omega)).trans ((o8 q 0 (by decide)).trans rfl)
    have c1 : s.1 32 (128 + 8 * q + 1) = 4 := (w4 _ (by omega) (by omega)).trans ((o8 q 1 (by decide)).trans rfl)
    have c2 : s.1 32 (128 + 8 * q + 2) = 0 := (w4 _ (by omega) (by omega)).trans ((o8 q 2 (by decide)).trans rfl)
    have c3 : s.1 32 (128 + 8 * q + 3) = 0 := (w4 _ (by omega) (by omega)).trans ((o8 q 3 (by decide)).trans rfl)
    rw [c0, c1, c2, c3]
    exact ⟨zr_c (by decide), zr_c (by decide), zr_c (by decide), zr_c (by decide)⟩
  · rw [w1, v1]
  · rw [w3, v2]
  · rw [w3]; exact zr_c (by decide)
theorem zJ2_r (h : zJ2 n σ μ) (a : zCx σ s) (b : zAx μ t) : zJ2 n s t := by
  refine ⟨zJ1_r h.1 a b, fun hn => ?_⟩
  obtain ⟨⟨m, ⟨_, _, _, u5, u6, _⟩, u2⟩, u3⟩ := h.2 hn
  obtain ⟨q1, _, _, _, _, _, _, _, _, w1, w2, w3, w4⟩ := a
  obtain ⟨q2, _, _, v1, _, _, v3⟩ := b
  have e38 : s.2 38 = σ.2 38 := q1.rlo (k := 38) rfl
  refine ⟨⟨m, zWv_new w1 w3 w4 ((v1 164 (by decide) (by decide)).trans rfl) ((v1 165 (by decide) (by decide)).trans rfl) v3 (w2.trans u5) ?_, ?_⟩, u3.kp q1 q2 rfl rfl rfl rfl rfl⟩
  · rw [q2.rlo (k := 4) rfl]; exact u6
  · rw [e38]; exact u2
theorem zJ2_h (h : zJ2 n σ μ) : zp2 (fX11_hear σ ) (fX12_hear μ ) (fun r r' => zJ2 n (zRls r) r'.1) := fun a b ea eb => by
  obtain ⟨_, _, q3, q4⟩ := v_hear h.1.1.2.1 a b ea eb
  refine ⟨zJ1_h h.1 a b ea eb, fun hn => ?_⟩
  obtain ⟨⟨m, w1, w2⟩, w3⟩ := h.2 hn
  have e38 : (zRls a).2 38 = σ.2 38 := q3.rlo (k := 38) rfl
  exact ⟨⟨m, w1.kp q3 q4 rfl rfl, by rw [e38]; exact w2⟩, w3.kp q3 q4 rfl rfl rfl rfl rfl⟩
theorem zJ2_m (h : zJ2 n σ μ) : zp2 (fX11_mix σ ) (fX12_mix μ ) (fun r r' => zJ2 n (zRls r) r'.1) := fun a b ea eb => by
  refine ⟨zJ1_m h.1 a b ea eb, fun hn => ?_⟩
  obtain ⟨⟨m, w1, w2⟩, w3⟩ := h.2 hn
  obtain ⟨_, q2, q3, q4⟩ := v_mix w3 a b ea eb
  have e38 : (zRls a).2 38 = σ.2 38 := q3.rlo (k := 38) rfl
  exact ⟨⟨m, w1.kp q3 q4 rfl rfl, by rw [e38]; exact w2⟩, q2⟩
theorem zJ2_jw : zJw zJ2 := ⟨zJ2_ok, fun _ _ _ _ _ h a b => zJ2_w h a b, fun _ _ _ _ _ h a b => zJ2_r h a b, fun _ _ _ h => zJ2_h h, fun _ _ _ h => zJ2_m h⟩
theorem z_freshJ2 {k c : Int32} {σ4 σ5 σ9 σ1 : zSt} {σ6 : Int32 → zSt} (ec : c = zKd k) (e4 : fX7_clear zS0 = some σ4) (e5 : fX10_clear zS0 = some σ5) (e6 : ∀ v, fX4_clear (zsi (zsi (zsi zS0 6 0 v) 34 10 1) 34 11 1) = some (σ6 v)) (e9 : fJ7_fill_53178_k44 zS0 (-1) = some σ9) (e : fX12_anew (zsi (zsi (zsi (zsi (zsi zS0 0 8 (-1)) 0 3 c) 3 44 0) 3 45 1) 3 46 1) = some σ1) : zAlj ⟨zJ2, zJ2_jw⟩ 0 (zC1 k σ4 σ5 σ6 σ9) σ1 := by
  have x := z_freshJ ec e4 e5 e6 e9 e
  refine ⟨x.1, (?_ : zJ2 (64 * 0) (zC1 k σ4 σ5 σ6 σ9) σ1), fun q => absurd rfl q⟩
  refine ⟨x.2.1, fun _ => ⟨⟨0, ?_, ?_⟩, ?_⟩⟩
  · obtain ⟨_, _, _, w1, w2, w3, w4⟩ := c_clr10 σ5 e5
    obtain ⟨q2, _, _, v1, _, _, v3⟩ := m_anewx σ1 e
    have l4 : σ1.2 4 = zS0.2 4 := q2.rlo (k := 4) rfl
    refine zWv_new (m := 0) w1 w3 w4 ((v1 164 (by decide) (by decide)).trans rfl) ((v1 165 (by decide) (by decide)).trans rfl) v3 (w2.trans rfl) ?_
    rw [l4]
    rfl
  · have c38 : (zC1 k σ4 σ5 σ6 σ9).2 38 0 = 0 := rfl
    rw [c38]
    decide
  · have b := m_anewx σ1 e
    have l11 : σ1.2 11 = zS0.2 11 := b.1.rlo (k := 11) rfl
    have m8 : ∀ j : Nat, 169 ≤ j → j ≤ 170 → σ1.1 3 j = 0 := fun j x y => by
      rw [b.1.o (k := 3) (a := 169) (b := 170) rfl x y, zsi_nj (by omega), zsi_nj (by omega), zsi_nj (by omega), zsi_ne (by decide), zsi_ne (by decide)]
      rfl
    refine ⟨?_, ?_, fun j hj => ?_, ?_, ?_⟩
    · rw [m8 170 (by decide) (by decide)]; rfl
    · rw [m8 169 (by decide) (by decide)]; rfl
    · rw [l11]; rfl
    · rw [m8 170 (by decide) (by decide)]; exact zr_c (by decide)
    · rw [m8 169 (by decide) (by decide)]; exact zr_c (by decide)
/-- what wave() tells -/
theorem zAlj.rw2 {K : Int} (h : zAlj ⟨zJ2, zJ2_jw⟩ K σ μ) (hK : K ≤ 1000000000) : zRw σ μ := by
  obtain ⟨C, hC, n⟩ := h.1.1
  have hE : zE σ μ := n.ve.1
  obtain ⟨⟨m, ⟨⟨h1, _⟩, h3, h4, h5, h6, _⟩, hm⟩, _⟩ := h.2.1.2 (by omega)
  obtain ⟨b0, b1⟩ := h.2.1.1.2
  have g0 : ∀ j : Nat, j < 64 → σ.1 32 j = μ.1 3 (98 + j) := fun j hj => by
    have w := hE.at (z_pn32_0 (d := j) hj)
    rw [z_an1, Nat.zero_add] at w
    exact w.symm
  have g64 : σ.1 32 64 = μ.1 3 163 := by
    have w := hE.at (z_pn32_64 (d := 0) (by decide))
    rw [z_an1] at w
    exact w.symm
  have g68 : σ.1 32 68 = μ.1 3 162 := by
    have w := hE.at (z_pn32_68 (d := 0) (by decide))
    rw [z_an1] at w
    exact w.symm
  refine ⟨g0, g68, g64, h3, h4, ?_, by omega, h1⟩
  rw [h5, h6, Int32.toInt_ofNat_of_lt (by omega)]
end ZWN
end ZJN20
section ZJN21
/-! WHAT WAVE TELLS -/
section ZWV
variable {σ μ : zSt} {x : Int32}
theorem z_w66 {n : Int32} {m : Int64} (h : n.toInt = m.toInt) (h0 : 0 ≤ m.toInt) : n &&& 65535 = (zreml m 65536).toInt32 := by
  have h1 : m.toInt < 2147483648 := by
    have := Int32.toInt_lt n
    omega
  have r : (zreml m 65536).toInt = m.toInt % 65536 := z_tlrem 65536 rfl (x := m) (a := 0) (b := 2147483647) ⟨h0, by omega⟩ (by decide)
  refine Int32.toInt_inj.mp ?_
  have b0 := Int.emod_nonneg m.toInt (b := 65536) (by decide)
  have b1 := Int.emod_lt_of_pos m.toInt (b := 65536) (by decide)
  rw [z_mask (k := 16) (by omega) rfl (by decide), Int64.toInt_toInt32, r, h]
  show m.toInt % 65536 = Int.bmod (m.toInt % 65536) (2 ^ 32)
  rw [Int.bmod_eq_of_le (by omega) (by omega)]
/-- the class's answer -/
noncomputable def zWa (σ : zSt) (x : Int32) : Int32 := if x = 66 then σ.1 32 66 &&& 65535 else σ.1 32 x.toNatClampNeg
theorem c_wavev (hh : zpc (fX10_has σ x) (fun r => r = (σ, 1))) (h0 : ¬ x < 0) (h1 : x < 272) : zpc (fX11_wave σ x) (fun r => r = Sum.inl (σ, zWa σ x)) := by
  unfold fX11_wave
  refine zpc_bi hh (fun s v e => ?_)
  cases e
  refine zpc_if (fun q => absurd q (by decide)) (fun _ => ?_)
  unfold fX10_value fX10_value_38
  refine zpc_bi (P := fun r => r = (σ, zWa σ x)) ?_ (fun s v e => ?_)
  · unfold zWa
    refine zpc_if (fun q => absurd q h0) (fun _ => zpc_if (fun _ => zpc_if (fun q => zpc_ck (zpc_some ?_)) (fun q => zpc_ck (zpc_some ?_))) (fun q => absurd h1 q))
    · rw [if_pos q]; rfl
    · rw [if_neg q]; rfl
  · cases e
    exact zpc_some rfl
theorem c_waveN (hh : zpc (fX10_has σ x) (fun r => r = (σ, 0))) : zpc (fX11_wave σ x) (fun r => r = Sum.inr (σ, 1)) := by
  unfold fX11_wave
  refine zpc_bi hh (fun s v e => ?_)
  cases e
  exact zpc_if (fun _ => zpc_some rfl) (fun q => absurd rfl q)
/-- the reference's answer -/
noncomputable def zWn (μ : zSt) (x : Int32) : Int32 := if 64 ≤ x then (if x = 64 then μ.1 3 163 else if x = 65 then μ.1 3 164 else if x = 66 then (zreml (μ.2 4 4) 65536).toInt32 else if x = 67 then μ.1 3 165 else μ.1 3 ((172 + (6 * ((x - 128) / 8))) + (zrem x 8)).toNatClampNeg) else μ.1 3 (98 + x).toNatClampNeg
theorem m_wave41 : zpc (fX12_wave_41 μ x 0) (fun r => r = (zsi μ 0 0 0, zWn μ x)) := by
  unfold fX12_wave_41
  refine zpc_fails0' (fun t1 e1 => zpc_if (fun _ => ?_) (fun q => absurd rfl q))
  subst e1
  have g : ∀ j, zgi (zsi μ 0 0 0) 3 j = μ.1 3 j := fun j => congrFun (zsi_ne (by decide)) j
  rw [g, g, g, g]
  unfold zWn
  refine zpc_if (fun q => zpc_if (fun q4 => zpc_ck (zpc_some ?_)) (fun q4 => zpc_if (fun q5 => zpc_ck (zpc_some ?_)) (fun q5 => zpc_if (fun q6 => zpc_ck (zpc_ck (zpc_some ?_))) (fun q6 => zpc_if (fun q7 => zpc_ck (zpc_some ?_)) (fun q7 => zpc_ck (zpc_ck (zpc_ck (zpc_some ?_)))))))) (fun q => ?_)
  · rw [if_pos q, if_pos q4]; rfl
  · rw [if_pos q, if_neg q4, if_pos q5]; rfl
  · rw [if_pos q, if_neg q4, if_neg q5, if_pos q6]; rfl
  · rw [if_pos q, if_neg q4, if_neg q5, if_neg q6, if_pos q7]; rfl
  · rw [if_pos q, if_neg q4, if_neg q5, if_neg q6, if_neg q7]
  · unfold fX12_wreg
    rw [if_neg q]
    refine zpc_bi (P := fun r => r = (zsi μ 0 0 0, μ.1 3 (98 + x).toNatClampNeg)) (zpc_ck (zpc_some ?_)) (fun s v e => ?_)
    · rw [g]
    · cases e
      exact zpc_some rfl
theorem m_wave36 : zpc (fX12_wave_41 μ x 1) (fun r => r.1 = zsi μ 0 0 1) := by
  have h : zp2 (some ()) (fX12_wave_41 μ x 1) (fun _ r => r.1 = zsi μ 0 0 1) := by
    unfold fX12_wave_41
    exact zp2_fails1 (fun t1 e1 => zp2_ifr (fun q => absurd q (by decide)) (fun _ => zp2_some e1))
  exact fun b eb => h () b rfl eb
theorem z_wh : ∀ i : Fin 144, ((172 + (6 * ((Int32.ofNat (128 + i.val) - 128) / 8))) + (zrem (Int32.ofNat (128 + i.val)) 8)).toNatClampNeg = 172 + 6 * (i.val / 8) + i.val % 8 ∧ (5 < (Int32.ofNat (128 + i.val) &&& 7) ↔ 6 ≤ i.val % 8) ∧ (zrem (Int32.ofNat (128 + i.val)) 8 < 6 ↔ i.val % 8 < 6) := by decide +kernel
theorem z_yes {o : Option zRi} {p : Option (zSt × Int32)} {v w : Int32} (h : zpc o (fun r => r = Sum.inl (σ, v))) (h' : zpc p (fun r => r = (zsi μ 0 0 0, w))) (e : v = w) : zp2 o p (zAns 1) := zp2_of h h' (fun a b p q => by
  subst p
  subst q
  subst e
  exact Or.inr ⟨σ, rfl, zTh_own⟩)
theorem z_noo {o : Option zRi} {p : Option (zSt × Int32)} (h : zpc o (fun r => r = Sum.inr (σ, 1))) (h' : zpc p (fun r => r.1 = zsi μ 0 0 1)) : zp2 o p (zAns 1) := zp2_of h h' (fun a b p q => by
  subst p
  exact Or.inl ⟨σ, rfl, by rw [q]; exact zTh_own⟩)
theorem v_wave (h : zRw σ μ) : zp2 (fX11_wave σ x) (fX12_wave μ x) (zAns 1) := by
  obtain ⟨h1, h2, h3, h4, h5, h6, h7, h8⟩ := h
  have c0 : (0 : Int32).toInt = 0 := rfl
  have c67 : (67 : Int32).toInt = 67 := rfl
  have c128 : (128 : Int32).toInt = 128 := rfl
  have c272 : (272 : Int32).toInt = 272 := rfl
  have c64 : (64 : Int32).toInt = 64 := rfl
  unfold fX12_wave
  refine zp2_within (fun w1 w2 => ?_) (fun w => ?_)
  · have hx := z_wir w1 w2 (zrl_c (lo := 0) (hi := 0) (by decide)) (zrl_c (lo := 67) (hi := 67) (by decide))
    have hx0 := hx.1
    have hx1 := hx.2
    refine zp2_ifr (fun q => absurd q (by decide)) (fun _ => ?_)
    unfold fX12_wave_40
    refine z_yes (c_wavev ?_ (zq_lt hx rfl (by decide)) (Int32.lt_iff_toInt_lt.mpr (by omega))) m_wave41 ?_
    · unfold fX10_has fX10_has_32 fX10_has_37
      exact zpc_if (fun q => absurd q (zq_lt hx rfl (by decide))) (fun _ => zpc_if (fun _ => zpc_ck (zpc_some rfl)) (fun q => absurd (zq_le hx rfl (by decide)) q))
    · unfold zWa zWn
      by_cases q : x.toInt < 64
      · rw [if_neg (fun z => by rw [z, show (66 : Int32).toInt = 66 from rfl] at q; omega), if_neg (fun z => by
          have z1 := Int32.le_iff_toInt_le.mp z
          omega), z_off (x := x) (c := 98) (k := 98) (a := 0) (b := 63) ⟨hx0, by omega⟩ rfl (by decide)]
        exact h1 _ (by have := z_clamp hx0; omega)
      · rw [if_pos (Int32.le_iff_toInt_le.mpr (by omega) : (64 : Int32) ≤ x)]
        rcases (show x.toInt = 64 ∨ x.toInt = 65 ∨ x.toInt = 66 ∨ x.toInt = 67 by omega) with e | e | e | e
        · obtain rfl : x = 64 := Int32.toInt_inj.mp e
          exact h3
        · obtain rfl : x = 65 := Int32.toInt_inj.mp e
          exact h4
        · obtain rfl : x = 66 := Int32.toInt_inj.mp e
          exact z_w66 h6 h7
        · obtain rfl : x = 67 := Int32.toInt_inj.mp e
          exact h5
  · have hn := z_nin w (a := 0) (b := 67) rfl rfl
    refine zp2_ifr (fun _ => ?_) (fun q => absurd rfl q)
    have lo : x < 0 ∨ ¬ x ≤ 67 := by
      by_cases q : x < 0
      · exact Or.inl q
      · refine Or.inr (fun z => ?_)
        have z1 := Int32.le_iff_toInt_le.mp z
        have z2 := Int32.le_iff_toInt_le.mp (z_nlt q)
        omega
    have has : ∀ v : Int32, zpc (fX10_has_10 σ x) (fun r => r = (σ, v)) → zpc (fX10_has σ x) (fun r => r = (σ, v)) := fun v k => by
      unfold fX10_has
      exact zpc_if (fun _ => k) (fun q => zpc_if (fun q1 => by
        rcases lo with z | z
        · exact absurd z q
        · exact absurd q1 z) (fun _ => k))
    refine zp2_within (fun w1 w2 => ?_) (fun w' => ?_)
    · have hx := z_wir w1 w2 (zrl_c (lo := 128) (hi := 128) (by decide)) (zrl_c (lo := 271) (hi := 271) (by decide))
      have hx0 := hx.1
      have hx1 := hx.2
      refine zp2_ifr (fun q => absurd q (by decide)) (fun _ => zp2_ckr ?_)
      obtain ⟨i, hi, ex⟩ : ∃ i : Nat, i < 144 ∧ x = Int32.ofNat (128 + i) := ⟨(x.toInt - 128).toNat, by omega, Int32.toInt_inj.mp (by rw [Int32.toInt_ofNat_of_lt (by omega)]; omega)⟩
      have t0 : x.toNatClampNeg = 128 + i := by
        rw [ex]
        exact z_ofC (by omega)
      obtain ⟨y1, y2, y3⟩ := z_wh ⟨i, hi⟩
      have y1 : ((172 + (6 * ((Int32.ofNat (128 + i) - 128) / 8))) + (zrem (Int32.ofNat (128 + i)) 8)).toNatClampNeg = 172 + 6 * (i / 8) + i % 8 := y1
      have y2 : 5 < (Int32.ofNat (128 + i) &&& 7) ↔ 6 ≤ i % 8 := y2
      have y3 : zrem (Int32.ofNat (128 + i)) 8 < 6 ↔ i % 8 < 6 := y3
      rw [← ex] at y1 y2 y3
      have n1 : ¬ x < 128 := fun z => by
        have z1 := Int32.lt_iff_toInt_lt.mp z
        omega
      have n2 : ¬ 272 ≤ x := fun z => by
        have z1 := Int32.le_iff_toInt_le.mp z
        omega
      have ne : ∀ (k : Int32) (K : Int), k.toInt = K → K < 128 → ¬ x = k := fun k K hk l z => by
        rw [z, hk] at hx0
        omega
      unfold fX12_wave_40 fX12_wave_36
      refine zp2_ifr (fun q => ?_) (fun q => ?_)
      · have i8 := y3.mp q
        refine z_yes (c_wavev (has 1 ?_) (fun z => by have z1 := Int32.lt_iff_toInt_lt.mp z; omega) (Int32.lt_iff_toInt_lt.mpr (by omega))) m_wave41 ?_
        · unfold fX10_has_10 fX10_has_36 fX10_has_32 fX10_has_37
          exact zpc_if (fun z => absurd z n1) (fun _ => zpc_if (fun z => absurd z n2) (fun _ => zpc_if (fun z => absurd (y2.mp z) (by omega)) (fun _ => zpc_ck (zpc_some rfl))))
        · unfold zWa zWn
          rw [if_neg (ne 66 66 rfl (by decide)), if_pos (Int32.le_iff_toInt_le.mpr (by omega) : (64 : Int32) ≤ x), if_neg (ne 64 64 rfl (by decide)), if_neg (ne 65 65 rfl (by decide)), if_neg (ne 66 66 rfl (by decide)), if_neg (ne 67 67 rfl (by decide)), y1, t0]
          have w := h8 (i / 8) (i % 8) (by omega) i8
          rw [show 128 + 8 * (i / 8) + i % 8 = 128 + i by omega] at w
          exact w
      · refine z_noo (c_waveN (has 0 ?_)) m_wave36
        unfold fX10_has_10 fX10_has_36 fX10_has_32 fX10_has_37
        have i8 : 6 ≤ i % 8 := by
          have : ¬ i % 8 < 6 := fun z => q (y3.mpr z)
          omega
        exact zpc_if (fun _ => zpc_ck (zpc_some rfl)) (fun _ => zpc_if (fun _ => zpc_ck (zpc_some rfl)) (fun _ => zpc_if (fun _ => zpc_ck (zpc_some rfl)) (fun z => absurd (y2.mpr i8) z)))
    · have hn' := z_nin w' (a := 128) (b := 271) rfl rfl
      refine zp2_ifr (fun _ => ?_) (fun q => absurd rfl q)
      unfold fX12_wave_36
      refine z_noo (c_waveN (has 0 ?_)) m_wave36
      unfold fX10_has_10 fX10_has_36 fX10_has_32 fX10_has_37
      refine zpc_if (fun _ => zpc_ck (zpc_some rfl)) (fun q => zpc_if (fun _ => zpc_ck (zpc_some rfl)) (fun q1 => ?_))
      have z1 := Int32.le_iff_toInt_le.mp (z_nlt q)
      have z2 : x.toInt < 272 := by
        have : ¬ (272 : Int32).toInt ≤ x.toInt := fun z => q1 (Int32.le_iff_toInt_le.mpr z)
        omega
      exfalso
      omega
end ZWV
end ZJN21
section ZJN22
/-! EVERY CALL KEEPS THE WHOLE RELATION -/
section ZG5
variable {K K0 n k s : Int} {σ μ : zSt} {o : Nat → Int64}
theorem zAll.mono {K K' : Int} (h : zAll K σ μ) (c : K ≤ K') : zAll K' σ μ := by
  obtain ⟨⟨C, hC, a⟩, b, d⟩ := h
  refine ⟨⟨C, Int.le_trans hC c, a⟩, b, fun q => ?_⟩
  obtain ⟨D, hD, e⟩ := d q
  exact ⟨D, Int.le_trans hD c, e⟩
theorem zRM.pic (h : zRM K0 n k s μ) : (μ.2 4 2).toInt ≤ 268435456 := by
  obtain ⟨c, G, i, a, b, e0, e1, e2⟩ := h
  have q : (μ.2 4 2).toInt = G 101 := i.fl 1 (4, 2) rfl
  have z := a.2.2.2.2.1
  omega
theorem zRM.svd (h : zRM K0 n k s μ) : (μ.1 0 19).toInt = s := by
  obtain ⟨c, G, i, a, b, e0, e1, e2⟩ := h
  exact Eq.trans (i.at 2 (by decide)) e2
theorem zRC.svd {k' : Int} (h : zRC n k' s σ) : (σ.1 0 11).toInt = s := by
  obtain ⟨H, i, e0, e1, e2⟩ := h
  exact Eq.trans (i.fz 1 (0, 11) rfl) e2
theorem z_flag {k' : Int} (a : zRM K0 n k s μ) (b : zRC n k' s σ) : σ.1 0 11 = 0 ↔ μ.1 0 19 = 0 := by
  have x := a.svd
  have y := b.svd
  rw [← Int32.toInt_inj, ← Int32.toInt_inj, x, y]
theorem g_feed (h : zAll K σ μ) (hr : zr 0 262656 (zgi μ 0 2)) {x1 : Int32} {x2 : Int64} {x4 : Int64} {x6 : Int64} : zp2 (fX11_feed σ x1 x2 x4 x6) (fX12_feed μ x1 x2 x4 x6) (fun r r' => zAll K (zRis r) (r'.1)) := fun a b ea eb => by
  obtain ⟨C, hC, n⟩ := h.1
  obtain ⟨m, r6⟩ := b_feed n h.2.1 hr a b ea eb
  exact h.tp hC m r6 (fy_fX11_feed zQ.rf a ea) (fY_fX12_feed zQ.rf b eb)
theorem g_grow (h : zAll K σ μ) (hr : zr 0 262656 (zgi μ 0 2)) {x1 : Int32} : zp2 (fX11_grow σ x1) (fX12_grow μ x1) (fun r r' => zAll K (zRis r) (r'.1)) := fun a b ea eb => by
  obtain ⟨C, hC, n⟩ := h.1
  obtain ⟨m, r6⟩ := b_grow n h.2.1 hr a b ea eb
  exact h.tp hC m r6 (fy_fX11_grow zQ.rf a ea) (fY_fX12_grow zQ.rf b eb)
theorem g_patch (h : zAll K σ μ) (hr : zr 0 262656 (zgi μ 0 2)) {x1 : Int32} {x2 : Int64} : zp2 (fX11_patch σ x1 x2) (fX12_patch μ x1 x2) (fun r r' => zAll K (zRus r) r') := fun a b ea eb => by
  obtain ⟨C, hC, n⟩ := h.1
  obtain ⟨m, r6⟩ := b_patch n h.2.1 hr a b ea eb
  exact h.tp hC m r6 (fy_fX11_patch zQ.rf a ea) (fY_fX12_patch zQ.rf b eb)
theorem g_load (h : zAll K σ μ) (hr : zr 0 262656 (zgi μ 0 2)) : zp2 (fX11_load σ ) (fX12_load μ ) (fun r r' => r.2 = r'.2 → zr 0 512 (r.1.1 1 3) → zr 0 262144 (r.1.1 1 4) → zR6 r.1 r'.1 → zAll K r.1 r'.1) := fun a b ea eb e r3 r4 r6 => by
  obtain ⟨C, hC, n⟩ := h.1
  have m := b_load n h.2.1 hr a b ea eb e r3 r4
  refine zAll.go (B := (K, 0, 0)) h (Int.le_refl _) (C := (C.1, C.2.1, 0)) hC m r6 (fun q => ?_)
  have hM := l_load n.pr.2.2.2.1.2.2.2.1 hr b eb
  rcases k_load a ea with ⟨x1, x2⟩ | ⟨_, σa, _, _, _, x5⟩
  · rcases hM with ⟨y1, y2⟩ | ⟨y1, _⟩
    · refine ⟨?_, ?_, x2.rlo (k := 39) rfl, ?_, y2.rlo (k := 13) rfl, y2.o (k := 0) (a := 3) (b := 3) rfl (by decide) (by decide)⟩
      · rw [← x2.o (k := 0) (a := 11) (b := 11) rfl (j := 11) (by decide) (by decide)]; exact q
      · unfold zsv
        exact List.forall_mem_cons.2 ⟨x2.ro (k := 43) rfl, List.forall_mem_cons.2 ⟨x2.ro (k := 41) rfl, List.forall_mem_cons.2 ⟨x2.ro (k := 37) rfl, List.forall_mem_cons.2 ⟨x2.ro (k := 35) rfl, List.forall_mem_cons.2 ⟨x2.ro (k := 33) rfl, List.forall_mem_cons.2 ⟨x2.ro (k := 31) rfl, List.forall_mem_cons.2 ⟨x2.ro (k := 26) rfl, List.forall_mem_cons.2 ⟨x2.ro (k := 24) rfl, List.forall_mem_cons.2 ⟨x2.ro (k := 22) rfl, List.forall_mem_cons.2 ⟨x2.ro (k := 20) rfl, List.forall_mem_cons.2 ⟨x2.ro (k := 18) rfl, List.forall_mem_cons.2 ⟨x2.ro (k := 16) rfl, fun _ h => absurd h List.not_mem_nil⟩⟩⟩⟩⟩⟩⟩⟩⟩⟩⟩⟩
      · unfold zsm
        exact List.forall_mem_cons.2 ⟨y2.ro (k := 18) rfl, List.forall_mem_cons.2 ⟨y2.ro (k := 17) rfl, List.forall_mem_cons.2 ⟨y2.ro (k := 16) rfl, List.forall_mem_cons.2 ⟨y2.ro (k := 15) rfl, List.forall_mem_cons.2 ⟨y2.ro (k := 14) rfl, List.forall_mem_cons.2 ⟨y2.ro (k := 12) rfl, fun _ h => absurd h List.not_mem_nil⟩⟩⟩⟩⟩⟩
    · exact absurd (e.trans y1) x1
  · exact absurd x5 q
theorem g_card (h : zAll K σ μ) {x1 : Int32} : zp2 (fX11_card σ x1) (fX12_card μ x1) (fun r r' => zAll K (zRis r) (r'.1)) := fun a b ea eb => by
  obtain ⟨C, hC, n⟩ := h.1
  exact h.kp (Int.le_refl _) hC (n.kp (fn_fX11_card zQ.rf a ea) (fN_fX12_card zQ.rf b eb) (by decide +kernel) (by decide +kernel)) (fv_fX11_card zQ.rf a ea) (fV_fX12_card zQ.rf b eb)
theorem g_step (h : zAll K σ μ) (hK : K ≤ 900000000000000) (hP : (μ.2 4 2).toInt ≤ 268435456) {x1 : Int32} : zp2 (fX11_step σ x1) (fX12_step μ x1) (fun r r' => zAll (K + 1000000) (zRis r) (r'.1)) := fun a b ea eb => by
  obtain ⟨C, hC, n⟩ := h.1
  obtain ⟨⟨D, hD, m⟩, _⟩ := a_step n (by omega) (by omega) a b ea eb
  exact h.kp (by omega) (show D.1 ≤ K + 1000000 by omega) m (fv_fX11_step zQ.rf a ea) (fV_fX12_step zQ.rf b eb)
theorem g_picture (h : zAll K σ μ) (hK : K ≤ 900000000000000) (hP : (μ.2 4 2).toInt ≤ 268435456) {x1 : Int32} : zp2 (fX11_picture σ x1) (fX12_picture μ x1) (fun r r' => zAll (K + 1000000) (zRis r) (r'.1)) := fun a b ea eb => by
  obtain ⟨C, hC, n⟩ := h.1
  obtain ⟨⟨D, hD, m⟩, _⟩ := a_picture n (by omega) (by omega) a b ea eb
  exact h.kp (by omega) (show D.1 ≤ K + 1000000 by omega) m (fv_fX11_picture zQ.rf a ea) (fV_fX12_picture zQ.rf b eb)
theorem g_reset (h : zAll K σ μ) : zp2 (fX11_reset σ ) (fX12_reset μ ) (fun r r' => zAll K r r') := fun a b ea eb => by
  obtain ⟨C, hC, n⟩ := h.1
  exact h.kp (Int.le_refl _) (C := (C.1, C.2.1, 0)) hC (b_reset n a b ea eb) (fv_fX11_reset zQ.rf a ea) (fV_fX12_reset zQ.rf b eb)
theorem g_pause (h : zAll K σ μ) : zp2 (fX11_pause σ ) (fX12_pause μ ) (fun r r' => zAll K r.1 (r'.1)) := fun a b ea eb => by
  obtain ⟨C, hC, n⟩ := h.1
  exact h.kp (Int.le_refl _) hC (b_pause n a b ea eb) (fv_fX11_pause zQ.rf a ea) (fV_fX12_pause zQ.rf b eb)
theorem g_press (h : zAll K σ μ) {x1 : Int32} {x2 : Int32} : zp2 (fX11_press σ x1 x2) (fX12_press μ x1 x2) (fun r r' => zAll K (zRus r) r') := fun a b ea eb => by
  obtain ⟨C, hC, n⟩ := h.1
  exact h.kp (Int.le_refl _) hC (b_press n a b ea eb) (fv_fX11_press zQ.rf a ea) (fV_fX12_press zQ.rf b eb)
theorem g_start (h : zAll K σ μ) {x1 : Int32} : zp2 (fX11_start σ x1) (fX12_start μ x1) (fun r r' => zAll K r r') := fun a b ea eb => by
  obtain ⟨C, hC, n⟩ := h.1
  exact h.kp (Int.le_refl _) hC (b_start n a b ea eb) (fv_fX11_start zQ.rf a ea) (fV_fX12_start zQ.rf b eb)
theorem g_line (h : zAll K σ μ) {x1 : Int32} {x2 : Int32} : zp2 (fX11_line σ x1 x2) (fX12_line μ x1 x2) (fun r r' => zAll K (zRus r) r') := fun a b ea eb => by
  obtain ⟨C, hC, n⟩ := h.1
  exact h.kp (Int.le_refl _) hC (b_line n a b ea eb) (fv_fX11_line zQ.rf a ea) (fV_fX12_line zQ.rf b eb)
theorem g_plan (h : zAll K σ μ) {x1 : Int32} {x2 : Int32} {x3 : Int32} : zp2 (fX11_plan σ x1 x2 x3) (fX12_plan μ x1 x2 x3) (fun r r' => zAll K (zRis r) (r'.1)) := fun a b ea eb => by
  obtain ⟨C, hC, n⟩ := h.1
  exact h.kp (Int.le_refl _) hC (b_plan n a b ea eb).1 (fv_fX11_plan zQ.rf a ea) (fV_fX12_plan zQ.rf b eb)
theorem g_tell (h : zAll K σ μ) {x1 : Int32} : zp2 (fX11_tell σ x1) (fX12_tell μ x1) (fun r r' => zAll K r.1 (r'.1)) := fun a b ea eb => by
  obtain ⟨C, hC, n⟩ := h.1
  exact h.kp (Int.le_refl _) hC (n.kp (fn_fX11_tell zQ.rf a ea) (fN_fX12_tell zQ.rf b eb) (by decide +kernel) (by decide +kernel)) (fv_fX11_tell zQ.rf a ea) (fV_fX12_tell zQ.rf b eb)
theorem g_text (h : zAll K σ μ) {x1 : Int32} : zp2 (fX11_text σ x1) (fX12_text μ x1) (fun r r' => zAll K (zRls r) (r'.1)) := fun a b ea eb => by
  obtain ⟨C, hC, n⟩ := h.1
  exact h.kp (Int.le_refl _) hC (n.kp (fn_fX11_text zQ.rf a ea) (fN_fX12_text zQ.rf b eb) (by decide +kernel) (by decide +kernel)) (fv_fX11_text zQ.rf a ea) (fV_fX12_text zQ.rf b eb)
theorem g_stop (h : zAll K σ μ) {x1 : Int32} {x2 : Int32} : zp2 (fX11_stop σ x1 x2) (fX12_stop μ x1 x2) (fun r r' => zAll K (zRis r) (r'.1)) := fun a b ea eb => by
  obtain ⟨C, hC, n⟩ := h.1
  exact h.kp (Int.le_refl _) hC (b_stop n a b ea eb) (fv_fX11_stop zQ.rf a ea) (fV_fX12_stop zQ.rf b eb)
theorem g_register (h : zAll K σ μ) {x1 : Int32} : zp2 (fX11_register σ x1) (fX12_register μ x1) (fun r r' => zAll K (zRis r) (r'.1)) := fun a b ea eb => by
  obtain ⟨C, hC, n⟩ := h.1
  exact h.kp (Int.le_refl _) hC (n.kp (fn_fX11_register zQ.rf a ea) (fN_fX12_register zQ.rf b eb) (by decide +kernel) (by decide +kernel)) (fv_fX11_register zQ.rf a ea) (fV_fX12_register zQ.rf b eb)
theorem g_set (h : zAll K σ μ) {x1 : Int32} {x2 : Int32} : zp2 (fX11_set σ x1 x2) (fX12_set μ x1 x2) (fun r r' => zAll K (zRus r) r') := fun a b ea eb => by
  obtain ⟨C, hC, n⟩ := h.1
  exact h.kp (Int.le_refl _) hC (b_set n a b ea eb) (fv_fX11_set zQ.rf a ea) (fV_fX12_set zQ.rf b eb)
theorem g_peek (h : zAll K σ μ) {x1 : Int32} : zp2 (fX11_peek σ x1) (fX12_peek μ x1) (fun r r' => zAll K r.1 (r'.1)) := fun a b ea eb => by
  obtain ⟨C, hC, n⟩ := h.1
  exact h.kp (Int.le_refl _) hC (n.kp (fn_fX11_peek zQ.rf a ea) (fN_fX12_peek zQ.rf b eb) (by decide +kernel) (by decide +kernel)) (fv_fX11_peek zQ.rf a ea) (fV_fX12_peek zQ.rf b eb)
theorem g_poke (h : zAll K σ μ) {x1 : Int32} {x2 : Int32} : zp2 (fX11_poke σ x1 x2) (fX12_poke μ x1 x2) (fun r r' => zAll K r r') := fun a b ea eb => by
  obtain ⟨C, hC, n⟩ := h.1
  exact h.kp (Int.le_refl _) hC (b_poke n a b ea eb) (fv_fX11_poke zQ.rf a ea) (fV_fX12_poke zQ.rf b eb)
theorem g_in (h : zAll K σ μ) {x1 : Int32} : zp2 (fX11_in σ x1) (fX12_in μ x1) (fun r r' => zAll K r.1 (r'.1)) := fun a b ea eb => by
  obtain ⟨C, hC, n⟩ := h.1
  exact h.kp (Int.le_refl _) hC (b_in n a b ea eb).1 (fv_fX11_in zQ.rf a ea) (fV_fX12_in zQ.rf b eb)
theorem g_out (h : zAll K σ μ) {x1 : Int32} {x2 : Int32} : zp2 (fX11_out σ x1 x2) (fX12_out μ x1 x2) (fun r r' => zAll K r r') := fun a b ea eb => by
  obtain ⟨C, hC, n⟩ := h.1
  exact h.kp (Int.le_refl _) hC (b_out n a b ea eb) (fv_fX11_out zQ.rf a ea) (fV_fX12_out zQ.rf b eb)
theorem g_battery (h : zAll K σ μ) {x1 : Int32} : zp2 (fX11_battery σ x1) (fX12_battery μ x1) (fun r r' => zAll K (zRis r) (r'.1)) := fun a b ea eb => by
  obtain ⟨C, hC, n⟩ := h.1
  exact h.kp (Int.le_refl _) hC (n.kp (fn_fX11_battery zQ.rf a ea) (fN_fX12_battery zQ.rf b eb) (by decide +kernel) (by decide +kernel)) (fv_fX11_battery zQ.rf a ea) (fV_fX12_battery zQ.rf b eb)
theorem g_wipe (h : zAll K σ μ) : zp2 (fX11_wipe σ ) (fX12_wipe μ ) (fun r r' => zAll K r r') := fun a b ea eb => by
  obtain ⟨C, hC, n⟩ := h.1
  exact h.kp (Int.le_refl _) hC (b_wipe n a b ea eb) (fv_fX11_wipe zQ.rf a ea) (fV_fX12_wipe zQ.rf b eb)
theorem g_video (h : zAll K σ μ) {x1 : Int32} : zp2 (fX11_video σ x1) (fX12_video μ x1) (fun r r' => zAll K r.1 (r'.1)) := fun a b ea eb => by
  obtain ⟨C, hC, n⟩ := h.1
  exact h.kp (Int.le_refl _) hC (n.kp (fn_fX11_video zQ.rf a ea) (fN_fX12_video zQ.rf b eb) (by decide +kernel) (by decide +kernel)) (fv_fX11_video zQ.rf a ea) (fV_fX12_video zQ.rf b eb)
theorem g_chip (h : zAll K σ μ) {x1 : Int32} : zp2 (fX11_chip σ x1) (fX12_chip μ x1) (fun r r' => zAll K (zRis r) (r'.1)) := fun a b ea eb => by
  obtain ⟨C, hC, n⟩ := h.1
  exact h.kp (Int.le_refl _) hC (n.kp (fn_fX11_chip zQ.rf a ea) (fN_fX12_chip zQ.rf b eb) (by decide +kernel) (by decide +kernel)) (fv_fX11_chip zQ.rf a ea) (fV_fX12_chip zQ.rf b eb)
theorem g_dot (h : zAll K σ μ) {x1 : Int32} {x2 : Int32} : zp2 (fX11_dot σ x1 x2) (fX12_dot μ x1 x2) (fun r r' => zAll K (zRis r) (r'.1)) := fun a b ea eb => by
  obtain ⟨C, hC, n⟩ := h.1
  exact h.kp (Int.le_refl _) hC (n.kp (fn_fX11_dot zQ.rf a ea) (fN_fX12_dot zQ.rf b eb) (by decide +kernel) (by decide +kernel)) (fv_fX11_dot zQ.rf a ea) (fV_fX12_dot zQ.rf b eb)
theorem g_row (h : zAll K σ μ) {x1 : Int32} : zp2 (fX11_row σ x1) (fX12_row μ x1) (fun r r' => zAll K (zRis r) (r'.1)) := fun a b ea eb => by
  obtain ⟨C, hC, n⟩ := h.1
  exact h.kp (Int.le_refl _) hC (n.kp (fn_fX11_row zQ.rf a ea) (fN_fX12_row zQ.rf b eb) (by decide +kernel) (by decide +kernel)) (fv_fX11_row zQ.rf a ea) (fV_fX12_row zQ.rf b eb)
theorem g_hear (h : zAll K σ μ) : zp2 (fX11_hear σ ) (fX12_hear μ ) (fun r r' => zAll K (zRls r) (r'.1)) := fun a b ea eb => by
  obtain ⟨C, hC, n⟩ := h.1
  exact h.kp (Int.le_refl _) hC (n.kp (fn_fX11_hear zQ.rf a ea) (fN_fX12_hear zQ.rf b eb) (by decide +kernel) (by decide +kernel)) (fv_fX11_hear zQ.rf a ea) (fV_fX12_hear zQ.rf b eb)
theorem g_mix (h : zAll K σ μ) : zp2 (fX11_mix σ ) (fX12_mix μ ) (fun r r' => zAll K (zRls r) (r'.1)) := fun a b ea eb => by
  obtain ⟨C, hC, n⟩ := h.1
  exact h.kp (Int.le_refl _) hC (n.kp (fn_fX11_mix zQ.rf a ea) (fN_fX12_mix zQ.rf b eb) (by decide +kernel) (by decide +kernel)) (fv_fX11_mix zQ.rf a ea) (fV_fX12_mix zQ.rf b eb)
theorem g_wave (h : zAll K σ μ) {x1 : Int32} : zp2 (fX11_wave σ x1) (fX12_wave μ x1) (fun r r' => zAll K (zRis r) (r'.1)) := fun a b ea eb => by
  obtain ⟨C, hC, n⟩ := h.1
  exact h.kp (Int.le_refl _) hC (n.kp (fn_fX11_wave zQ.rf a ea) (fN_fX12_wave zQ.rf b eb) (by decide +kernel) (by decide +kernel)) (fv_fX11_wave zQ.rf a ea) (fV_fX12_wave zQ.rf b eb)
theorem g_sound (h : zAll K σ μ) {x1 : Int32} : zp2 (fX11_sound σ x1) (fX12_sound μ x1) (fun r r' => zAll K (zRis r) (r'.1)) := fun a b ea eb => by
  obtain ⟨C, hC, n⟩ := h.1
  exact h.kp (Int.le_refl _) hC (n.kp (fn_fX11_sound zQ.rf a ea) (fN_fX12_sound zQ.rf b eb) (by decide +kernel) (by decide +kernel)) (fv_fX11_sound zQ.rf a ea) (fV_fX12_sound zQ.rf b eb)
theorem g_trace (h : zAll K σ μ) {x1 : Int32} : zp2 (fX11_trace σ x1) (fX12_trace μ x1) (fun r r' => zAll K r.1 (r'.1)) := fun a b ea eb => by
  obtain ⟨C, hC, n⟩ := h.1
  exact h.kp (Int.le_refl _) hC (n.kp (fn_fX11_trace zQ.rf a ea) (fN_fX12_trace zQ.rf b eb) (by decide +kernel) (by decide +kernel)) (fv_fX11_trace zQ.rf a ea) (fV_fX12_trace zQ.rf b eb)
theorem g_look (h : zAll K σ μ) {x1 : Int32} : zp2 (fX11_look σ x1) (fX12_look μ x1) (fun r r' => zAll K (zRls r) (r'.1)) := fun a b ea eb => by
  obtain ⟨C, hC, n⟩ := h.1
  exact h.kp (Int.le_refl _) hC (n.kp (fn_fX11_look zQ.rf a ea) (fN_fX12_look zQ.rf b eb) (by decide +kernel) (by decide +kernel)) (fv_fX11_look zQ.rf a ea) (fV_fX12_look zQ.rf b eb)
end ZG5
noncomputable def zJq : { J : Int → zSt → zSt → Prop // zJw J } := ⟨zJ2, zJ2_jw⟩
section ZG6
variable {K : Int} {σ μ : zSt} {J : { J : Int → zSt → zSt → Prop // zJw J }}
theorem zAlj.mono {K K' : Int} (h : zAlj J K σ μ) (c : K ≤ K') : zAlj J K' σ μ := ⟨h.1.mono c, J.2.1.2.2.1 _ _ _ _ (by omega) h.2.1, fun q => J.2.1.2.2.1 _ _ _ _ (by omega) (h.2.2 q)⟩
theorem gj_feed (h : zAlj J K σ μ) (hr : zr 0 262656 (zgi μ 0 2)) {x1 : Int32} {x2 : Int64} {x4 : Int64} {x6 : Int64} : zp2 (fX11_feed σ x1 x2 x4 x6) (fX12_feed μ x1 x2 x4 x6) (fun r r' => zAlj J K (zRis r) (r'.1)) := fun a b ea eb => by
  have fc := fy_fX11_feed (σ0 := σ) zQ.rf a ea
  have fm := fY_fX12_feed (σ0 := μ) zQ.rf b eb
  exact h.go (Int.le_refl _) (g_feed h.1 hr a b ea eb) (J.2.2.1 _ _ _ _ _ h.2.1 (zSc.of fc rfl) (zSrm.of fm rfl)) (fun q => ⟨by rw [← fc.o (k := 0) (a := 11) (b := 11) rfl (j := 11) (by decide) (by decide)]; exact q, zKsn.of fc rfl, zKtn.of fm rfl⟩)
theorem gj_grow (h : zAlj J K σ μ) (hr : zr 0 262656 (zgi μ 0 2)) {x1 : Int32} : zp2 (fX11_grow σ x1) (fX12_grow μ x1) (fun r r' => zAlj J K (zRis r) (r'.1)) := fun a b ea eb => by
  have fc := fy_fX11_grow (σ0 := σ) zQ.rf a ea
  have fm := fY_fX12_grow (σ0 := μ) zQ.rf b eb
  exact h.go (Int.le_refl _) (g_grow h.1 hr a b ea eb) (J.2.2.1 _ _ _ _ _ h.2.1 (zSc.of fc rfl) (zSrm.of fm rfl)) (fun q => ⟨by rw [← fc.o (k := 0) (a := 11) (b := 11) rfl (j := 11) (by decide) (by decide)]; exact q, zKsn.of fc rfl, zKtn.of fm rfl⟩)
theorem gj_patch (h : zAlj J K σ μ) (hr : zr 0 262656 (zgi μ 0 2)) {x1 : Int32} {x2 : Int64} : zp2 (fX11_patch σ x1 x2) (fX12_patch μ x1 x2) (fun r r' => zAlj J K (zRus r) (r')) := fun a b ea eb => by
  have fc := fy_fX11_patch (σ0 := σ) zQ.rf a ea
  have fm := fY_fX12_patch (σ0 := μ) zQ.rf b eb
  exact h.go (Int.le_refl _) (g_patch h.1 hr a b ea eb) (J.2.2.1 _ _ _ _ _ h.2.1 (zSc.of fc rfl) (zSrm.of fm rfl)) (fun q => ⟨by rw [← fc.o (k := 0) (a := 11) (b := 11) rfl (j := 11) (by decide) (by decide)]; exact q, zKsn.of fc rfl, zKtn.of fm rfl⟩)
theorem gj_load (h : zAlj J K σ μ) (hr : zr 0 262656 (zgi μ 0 2)) : zp2 (fX11_load σ ) (fX12_load μ ) (fun r r' => r.2 = r'.2 → zr 0 512 (r.1.1 1 3) → zr 0 262144 (r.1.1 1 4) → zR6 r.1 r'.1 → zAlj J K r.1 r'.1) := fun a b ea eb e r3 r4 r6 => by
  obtain ⟨C, hC, n⟩ := h.1.1
  have hM := l_load n.pr.2.2.2.1.2.2.2.1 hr b eb
  have x := g_load h.1 hr a b ea eb e r3 r4 r6
  rcases k_load a ea with ⟨x1, x2⟩ | ⟨x1, σa, x2, x3, x4, x5⟩
  · rcases hM with ⟨y1, y2⟩ | ⟨y1, _⟩
    · exact h.go (Int.le_refl _) x (J.2.2.1 _ _ _ _ _ h.2.1 (zSc.of x2 rfl) (zSrm.of y2 rfl)) (fun q => ⟨by rw [← x2.o (k := 0) (a := 11) (b := 11) rfl (j := 11) (by decide) (by decide)]; exact q, zKsn.of x2 rfl, zKtn.of y2 rfl⟩)
    · exact absurd (e.trans y1) x1
  · rcases hM with ⟨y1, y2⟩ | ⟨y1, μb, ⟨y2, _⟩, y6, y7⟩
    · exact absurd (e.symm.trans x1) y1
    · exact h.go (Int.le_refl _) x (J.2.2.2.1 _ _ _ _ _ (J.2.2.1 _ _ _ _ _ h.2.1 (zSc.of x2 rfl) (zSrm.of y2 rfl)) x3 y6) (fun q => absurd x5 q)
theorem gj_card (h : zAlj J K σ μ) {x1 : Int32} : zp2 (fX11_card σ x1) (fX12_card μ x1) (fun r r' => zAlj J K (zRis r) (r'.1)) := fun a b ea eb => by
  have fc := fg_fX11_card (σ0 := σ) zQ.rf a ea
  have fm := fG_fX12_card (σ0 := μ) zQ.rf b eb
  exact h.go (Int.le_refl _) (g_card h.1 a b ea eb) (J.2.2.1 _ _ _ _ _ h.2.1 (zSc.of fc rfl) (zSrm.of fm rfl)) (fun q => ⟨by rw [← fc.o (k := 0) (a := 11) (b := 11) rfl (j := 11) (by decide) (by decide)]; exact q, zKsn.of fc rfl, zKtn.of fm rfl⟩)
theorem gj_step (h : zAlj J K σ μ) (hK : K ≤ 1000000000) (hP : (μ.2 4 2).toInt ≤ 268435456) {x1 : Int32} : zp2 (fX11_step σ x1) (fX12_step μ x1) (fun r r' => zAlj J (K + 1000000) (zRis r) (r'.1)) := fun a b ea eb => by
  have fc := fe_fX11_step (σ0 := σ) zQ.rf a ea
  have fm := fV_fX12_step (σ0 := μ) zQ.rf b eb
  obtain ⟨C, hC, n⟩ := h.1.1
  obtain ⟨⟨D, hD, _, mj⟩, _⟩ := a_stepJ J.2.1 (N := 64 * K) (by omega) n h.2.1 (by omega) (by omega) a b ea eb
  exact h.go (by omega) (g_step h.1 (by omega) hP a b ea eb) (J.2.1.2.2.1 _ _ _ _ (by omega) mj) (fun q => ⟨by rw [← fc.o (k := 0) (a := 11) (b := 11) rfl (j := 11) (by decide) (by decide)]; exact q, zKsn.of fc rfl, zKtn.of fm rfl⟩)
theorem gj_picture (h : zAlj J K σ μ) (hK : K ≤ 1000000000) (hP : (μ.2 4 2).toInt ≤ 268435456) {x1 : Int32} : zp2 (fX11_picture σ x1) (fX12_picture μ x1) (fun r r' => zAlj J (K + 1000000) (zRis r) (r'.1)) := fun a b ea eb => by
  have fc := fe_fX11_picture (σ0 := σ) zQ.rf a ea
  have fm := fV_fX12_picture (σ0 := μ) zQ.rf b eb
  obtain ⟨C, hC, n⟩ := h.1.1
  obtain ⟨⟨D, hD, _, mj⟩, _⟩ := a_pictureJ J.2.1 (N := 64 * K) (by omega) n h.2.1 (by omega) (by omega) a b ea eb
  exact h.go (by omega) (g_picture h.1 (by omega) hP a b ea eb) (J.2.1.2.2.1 _ _ _ _ (by omega) mj) (fun q => ⟨by rw [← fc.o (k := 0) (a := 11) (b := 11) rfl (j := 11) (by decide) (by decide)]; exact q, zKsn.of fc rfl, zKtn.of fm rfl⟩)
theorem gj_reset (h : zAlj J K σ μ) : zp2 (fX11_reset σ ) (fX12_reset μ ) (fun r r' => zAlj J K r (r')) := fun a b ea eb => by
  have fc := fe_fX11_reset (σ0 := σ) zQ.rf a ea
  have fm := fV_fX12_reset (σ0 := μ) zQ.rf b eb
  exact h.go (Int.le_refl _) (g_reset h.1 a b ea eb) (bj_reset h.2.1 a b ea eb) (fun q => ⟨by rw [← fc.o (k := 0) (a := 11) (b := 11) rfl (j := 11) (by decide) (by decide)]; exact q, zKsn.of fc rfl, zKtn.of fm rfl⟩)
theorem gj_pause (h : zAlj J K σ μ) : zp2 (fX11_pause σ ) (fX12_pause μ ) (fun r r' => zAlj J K r.1 (r'.1)) := fun a b ea eb => by
  have fc := fe_fX11_pause (σ0 := σ) zQ.rf a ea
  have fm := fV_fX12_pause (σ0 := μ) zQ.rf b eb
  obtain ⟨C, hC, n⟩ := h.1.1
  have m := bj_pause (J := zJo J) (N := 64 * K) ⟨n, h.2.1⟩ a b ea eb
  exact h.go (Int.le_refl _) (g_pause h.1 a b ea eb) m.2 (fun q => ⟨by rw [← fc.o (k := 0) (a := 11) (b := 11) rfl (j := 11) (by decide) (by decide)]; exact q, zKsn.of fc rfl, zKtn.of fm rfl⟩)
theorem gj_press (h : zAlj J K σ μ) {x1 : Int32} {x2 : Int32} : zp2 (fX11_press σ x1 x2) (fX12_press μ x1 x2) (fun r r' => zAlj J K (zRus r) (r')) := fun a b ea eb => by
  have fc := fe_fX11_press (σ0 := σ) zQ.rf a ea
  have fm := fV_fX12_press (σ0 := μ) zQ.rf b eb
  obtain ⟨C, hC, n⟩ := h.1.1
  have m := bj_press (J := zJo J) (N := 64 * K) ⟨n, h.2.1⟩ a b ea eb
  exact h.go (Int.le_refl _) (g_press h.1 a b ea eb) m.2 (fun q => ⟨by rw [← fc.o (k := 0) (a := 11) (b := 11) rfl (j := 11) (by decide) (by decide)]; exact q, zKsn.of fc rfl, zKtn.of fm rfl⟩)
theorem gj_start (h : zAlj J K σ μ) {x1 : Int32} : zp2 (fX11_start σ x1) (fX12_start μ x1) (fun r r' => zAlj J K r (r')) := fun a b ea eb => by
  have fc := fe_fX11_start (σ0 := σ) zQ.rf a ea
  have fm := fV_fX12_start (σ0 := μ) zQ.rf b eb
  obtain ⟨C, hC, n⟩ := h.1.1
  have m := bj_start (J := zJo J) (N := 64 * K) ⟨n, h.2.1⟩ a b ea eb
  exact h.go (Int.le_refl _) (g_start h.1 a b ea eb) m.2 (fun q => ⟨by rw [← fc.o (k := 0) (a := 11) (b := 11) rfl (j := 11) (by decide) (by decide)]; exact q, zKsn.of fc rfl, zKtn.of fm rfl⟩)
theorem gj_line (h : zAlj J K σ μ) {x1 : Int32} {x2 : Int32} : zp2 (fX11_line σ x1 x2) (fX12_line μ x1 x2) (fun r r' => zAlj J K (zRus r) (r')) := fun a b ea eb => by
  have fc := fe_fX11_line (σ0 := σ) zQ.rf a ea
  have fm := fV_fX12_line (σ0 := μ) zQ.rf b eb
  obtain ⟨C, hC, n⟩ := h.1.1
  have m := bj_line (J := zJo J) (N := 64 * K) ⟨n, h.2.1⟩ a b ea eb
  exact h.go (Int.le_refl _) (g_line h.1 a b ea eb) m.2 (fun q => ⟨by rw [← fc.o (k := 0) (a := 11) (b := 11) rfl (j := 11) (by decide) (by decide)]; exact q, zKsn.of fc rfl, zKtn.of fm rfl⟩)
theorem gj_plan (h : zAlj J K σ μ) {x1 : Int32} {x2 : Int32} {x3 : Int32} : zp2 (fX11_plan σ x1 x2 x3) (fX12_plan μ x1 x2 x3) (fun r r' => zAlj J K (zRis r) (r'.1)) := fun a b ea eb => by
  have fc := fe_fX11_plan (σ0 := σ) zQ.rf a ea
  have fm := fV_fX12_plan (σ0 := μ) zQ.rf b eb
  obtain ⟨C, hC, n⟩ := h.1.1
  have m := bj_plan (J := zJo J) (N := 64 * K) ⟨n, h.2.1⟩ a b ea eb
  exact h.go (Int.le_refl _) (g_plan h.1 a b ea eb) m.1.2 (fun q => ⟨by rw [← fc.o (k := 0) (a := 11) (b := 11) rfl (j := 11) (by decide) (by decide)]; exact q, zKsn.of fc rfl, zKtn.of fm rfl⟩)
theorem gj_tell (h : zAlj J K σ μ) {x1 : Int32} : zp2 (fX11_tell σ x1) (fX12_tell μ x1) (fun r r' => zAlj J K r.1 (r'.1)) := fun a b ea eb => by
  have fc := fg_fX11_tell (σ0 := σ) zQ.rf a ea
  have fm := fG_fX12_tell (σ0 := μ) zQ.rf b eb
  exact h.go (Int.le_refl _) (g_tell h.1 a b ea eb) (J.2.2.1 _ _ _ _ _ h.2.1 (zSc.of fc rfl) (zSrm.of fm rfl)) (fun q => ⟨by rw [← fc.o (k := 0) (a := 11) (b := 11) rfl (j := 11) (by decide) (by decide)]; exact q, zKsn.of fc rfl, zKtn.of fm rfl⟩)
theorem gj_text (h : zAlj J K σ μ) {x1 : Int32} : zp2 (fX11_text σ x1) (fX12_text μ x1) (fun r r' => zAlj J K (zRls r) (r'.1)) := fun a b ea eb => by
  have fc := fg_fX11_text (σ0 := σ) zQ.rf a ea
  have fm := fG_fX12_text (σ0 := μ) zQ.rf b eb
  exact h.go (Int.le_refl _) (g_text h.1 a b ea eb) (J.2.2.1 _ _ _ _ _ h.2.1 (zSc.of fc rfl) (zSrm.of fm rfl)) (fun q => ⟨by rw [← fc.o (k := 0) (a := 11) (b := 11) rfl (j := 11) (by decide) (by decide)]; exact q, zKsn.of fc rfl, zKtn.of fm rfl⟩)
theorem gj_stop (h : zAlj J K σ μ) {x1 : Int32} {x2 : Int32} : zp2 (fX11_stop σ x1 x2) (fX12_stop μ x1 x2) (fun r r' => zAlj J K (zRis r) (r'.1)) := fun a b ea eb => by
  have fc := fe_fX11_stop (σ0 := σ) zQ.rf a ea
  have fm := fV_fX12_stop (σ0 := μ) zQ.rf b eb
  obtain ⟨C, hC, n⟩ := h.1.1
  have m := bj_stop (J := zJo J) (N := 64 * K) ⟨n, h.2.1⟩ a b ea eb
  exact h.go (Int.le_refl _) (g_stop h.1 a b ea eb) m.2 (fun q => ⟨by rw [← fc.o (k := 0) (a := 11) (b := 11) rfl (j := 11) (by decide) (by decide)]; exact q, zKsn.of fc rfl, zKtn.of fm rfl⟩)
theorem gj_register (h : zAlj J K σ μ) {x1 : Int32} : zp2 (fX11_register σ x1) (fX12_register μ x1) (fun r r' => zAlj J K (zRis r) (r'.1)) := fun a b ea eb => by
  have fc := fg_fX11_register (σ0 := σ) zQ.rf a ea
  have fm := fG_fX12_register (σ0 := μ) zQ.rf b eb
  exact h.go (Int.le_refl _) (g_register h.1 a b ea eb) (J.2.2.1 _ _ _ _ _ h.2.1 (zSc.of fc rfl) (zSrm.of fm rfl)) (fun q => ⟨by rw [← fc.o (k := 0) (a := 11) (b := 11) rfl (j := 11) (by decide) (by decide)]; exact q, zKsn.of fc rfl, zKtn.of fm rfl⟩)
theorem gj_set (h : zAlj J K σ μ) {x1 : Int32} {x2 : Int32} : zp2 (fX11_set σ x1 x2) (fX12_set μ x1 x2) (fun r r' => zAlj J K (zRus r) (r')) := fun a b ea eb => by
  have fc := fe_fX11_set (σ0 := σ) zQ.rf a ea
  have fm := fV_fX12_set (σ0 := μ) zQ.rf b eb
  obtain ⟨C, hC, n⟩ := h.1.1
  have m := bj_set (J := zJo J) (N := 64 * K) ⟨n, h.2.1⟩ a b ea eb
  exact h.go (Int.le_refl _) (g_set h.1 a b ea eb) m.2 (fun q => ⟨by rw [← fc.o (k := 0) (a := 11) (b := 11) rfl (j := 11) (by decide) (by decide)]; exact q, zKsn.of fc rfl, zKtn.of fm rfl⟩)
theorem gj_peek (h : zAlj J K σ μ) {x1 : Int32} : zp2 (fX11_peek σ x1) (fX12_peek μ x1) (fun r r' => zAlj J K r.1 (r'.1)) := fun a b ea eb => by
  have fc := fg_fX11_peek (σ0 := σ) zQ.rf a ea
  have fm := fG_fX12_peek (σ0 := μ) zQ.rf b eb
  exact h.go (Int.le_refl _) (g_peek h.1 a b ea eb) (J.2.2.1 _ _ _ _ _ h.2.1 (zSc.of fc rfl) (zSrm.of fm rfl)) (fun q => ⟨by rw [← fc.o (k := 0) (a := 11) (b := 11) rfl (j := 11) (by decide) (by decide)]; exact q, zKsn.of fc rfl, zKtn.of fm rfl⟩)
theorem gj_poke (h : zAlj J K σ μ) {x1 : Int32} {x2 : Int32} : zp2 (fX11_poke σ x1 x2) (fX12_poke μ x1 x2) (fun r r' => zAlj J K r (r')) := fun a b ea eb => by
  have fc := fe_fX11_poke (σ0 := σ) zQ.rf a ea
  have fm := fV_fX12_poke (σ0 := μ) zQ.rf b eb
  obtain ⟨C, hC, n⟩ := h.1.1
  have m := bj_poke (J := zJo J) (N := 64 * K) ⟨n, h.2.1⟩ a b ea eb
  exact h.go (Int.le_refl _) (g_poke h.1 a b ea eb) m.2 (fun q => ⟨by rw [← fc.o (k := 0) (a := 11) (b := 11) rfl (j := 11) (by decide) (by decide)]; exact q, zKsn.of fc rfl, zKtn.of fm rfl⟩)
theorem gj_in (h : zAlj J K σ μ) {x1 : Int32} : zp2 (fX11_in σ x1) (fX12_in μ x1) (fun r r' => zAlj J K r.1 (r'.1)) := fun a b ea eb => by
  have fc := fe_fX11_in (σ0 := σ) zQ.rf a ea
  have fm := fV_fX12_in (σ0 := μ) zQ.rf b eb
  obtain ⟨C, hC, n⟩ := h.1.1
  have m := bj_in (J := zJo J) (N := 64 * K) ⟨n, h.2.1⟩ a b ea eb
  exact h.go (Int.le_refl _) (g_in h.1 a b ea eb) m.1.2 (fun q => ⟨by rw [← fc.o (k := 0) (a := 11) (b := 11) rfl (j := 11) (by decide) (by decide)]; exact q, zKsn.of fc rfl, zKtn.of fm rfl⟩)
theorem gj_out (h : zAlj J K σ μ) {x1 : Int32} {x2 : Int32} : zp2 (fX11_out σ x1 x2) (fX12_out μ x1 x2) (fun r r' => zAlj J K r (r')) := fun a b ea eb => by
  have fc := fe_fX11_out (σ0 := σ) zQ.rf a ea
  have fm := fV_fX12_out (σ0 := μ) zQ.rf b eb
  obtain ⟨C, hC, n⟩ := h.1.1
  have m := bj_out (J := zJo J) (N := 64 * K) ⟨n, h.2.1⟩ a b ea eb
  exact h.go (Int.le_refl _) (g_out h.1 a b ea eb) m.2 (fun q => ⟨by rw [← fc.o (k := 0) (a := 11) (b := 11) rfl (j := 11) (by decide) (by decide)]; exact q, zKsn.of fc rfl, zKtn.of fm rfl⟩)
theorem gj_battery (h : zAlj J K σ μ) {x1 : Int32} : zp2 (fX11_battery σ x1) (fX12_battery μ x1) (fun r r' => zAlj J K (zRis r) (r'.1)) := fun a b ea eb => by
  have fc := fg_fX11_battery (σ0 := σ) zQ.rf a ea
  have fm := fG_fX12_battery (σ0 := μ) zQ.rf b eb
  exact h.go (Int.le_refl _) (g_battery h.1 a b ea eb) (J.2.2.1 _ _ _ _ _ h.2.1 (zSc.of fc rfl) (zSrm.of fm rfl)) (fun q => ⟨by rw [← fc.o (k := 0) (a := 11) (b := 11) rfl (j := 11) (by decide) (by decide)]; exact q, zKsn.of fc rfl, zKtn.of fm rfl⟩)
theorem gj_wipe (h : zAlj J K σ μ) : zp2 (fX11_wipe σ ) (fX12_wipe μ ) (fun r r' => zAlj J K r (r')) := fun a b ea eb => by
  have fc := fe_fX11_wipe (σ0 := σ) zQ.rf a ea
  have fm := fV_fX12_wipe (σ0 := μ) zQ.rf b eb
  obtain ⟨C, hC, n⟩ := h.1.1
  have m := bj_wipe (J := zJo J) (N := 64 * K) ⟨n, h.2.1⟩ a b ea eb
  exact h.go (Int.le_refl _) (g_wipe h.1 a b ea eb) m.2 (fun q => ⟨by rw [← fc.o (k := 0) (a := 11) (b := 11) rfl (j := 11) (by decide) (by decide)]; exact q, zKsn.of fc rfl, zKtn.of fm rfl⟩)
theorem gj_video (h : zAlj J K σ μ) {x1 : Int32} : zp2 (fX11_video σ x1) (fX12_video μ x1) (fun r r' => zAlj J K r.1 (r'.1)) := fun a b ea eb => by
  have fc := fg_fX11_video (σ0 := σ) zQ.rf a ea
  have fm := fG_fX12_video (σ0 := μ) zQ.rf b eb
  exact h.go (Int.le_refl _) (g_video h.1 a b ea eb) (J.2.2.1 _ _ _ _ _ h.2.1 (zSc.of fc rfl) (zSrm.of fm rfl)) (fun q => ⟨by rw [← fc.o (k := 0) (a := 11) (b := 11) rfl (j := 11) (by decide) (by decide)]; exact q, zKsn.of fc rfl, zKtn.of fm rfl⟩)
theorem gj_chip (h : zAlj J K σ μ) {x1 : Int32} : zp2 (fX11_chip σ x1) (fX12_chip μ x1) (fun r r' => zAlj J K (zRis r) (r'.1)) := fun a b ea eb => by
  have fc := fg_fX11_chip (σ0 := σ) zQ.rf a ea
  have fm := fG_fX12_chip (σ0 := μ) zQ.rf b eb
  exact h.go (Int.le_refl _) (g_chip h.1 a b ea eb) (J.2.2.1 _ _ _ _ _ h.2.1 (zSc.of fc rfl) (zSrm.of fm rfl)) (fun q => ⟨by rw [← fc.o (k := 0) (a := 11) (b := 11) rfl (j := 11) (by decide) (by decide)]; exact q, zKsn.of fc rfl, zKtn.of fm rfl⟩)
theorem gj_dot (h : zAlj J K σ μ) {x1 : Int32} {x2 : Int32} : zp2 (fX11_dot σ x1 x2) (fX12_dot μ x1 x2) (fun r r' => zAlj J K (zRis r) (r'.1)) := fun a b ea eb => by
  have fc := fg_fX11_dot (σ0 := σ) zQ.rf a ea
  have fm := fG_fX12_dot (σ0 := μ) zQ.rf b eb
  exact h.go (Int.le_refl _) (g_dot h.1 a b ea eb) (J.2.2.1 _ _ _ _ _ h.2.1 (zSc.of fc rfl) (zSrm.of fm rfl)) (fun q => ⟨by rw [← fc.o (k := 0) (a := 11) (b := 11) rfl (j := 11) (by decide) (by decide)]; exact q, zKsn.of fc rfl, zKtn.of fm rfl⟩)
theorem gj_row (h : zAlj J K σ μ) {x1 : Int32} : zp2 (fX11_row σ x1) (fX12_row μ x1) (fun r r' => zAlj J K (zRis r) (r'.1)) := fun a b ea eb => by
  have fc := fg_fX11_row (σ0 := σ) zQ.rf a ea
  have fm := fG_fX12_row (σ0 := μ) zQ.rf b eb
  exact h.go (Int.le_refl _) (g_row h.1 a b ea eb) (J.2.2.1 _ _ _ _ _ h.2.1 (zSc.of fc rfl) (zSrm.of fm rfl)) (fun q => ⟨by rw [← fc.o (k := 0) (a := 11) (b := 11) rfl (j := 11) (by decide) (by decide)]; exact q, zKsn.of fc rfl, zKtn.of fm rfl⟩)
theorem gj_hear (h : zAlj J K σ μ) : zp2 (fX11_hear σ ) (fX12_hear μ ) (fun r r' => zAlj J K (zRls r) (r'.1)) := fun a b ea eb => by
  have fc := fe_fX11_hear (σ0 := σ) zQ.rf a ea
  have fm := fV_fX12_hear (σ0 := μ) zQ.rf b eb
  exact h.go (Int.le_refl _) (g_hear h.1 a b ea eb) (J.2.2.2.2.1 _ _ _ h.2.1 a b ea eb) (fun q => ⟨by rw [← fc.o (k := 0) (a := 11) (b := 11) rfl (j := 11) (by decide) (by decide)]; exact q, zKsn.of fc rfl, zKtn.of fm rfl⟩)
theorem gj_mix (h : zAlj J K σ μ) : zp2 (fX11_mix σ ) (fX12_mix μ ) (fun r r' => zAlj J K (zRls r) (r'.1)) := fun a b ea eb => by
  have fc := fe_fX11_mix (σ0 := σ) zQ.rf a ea
  have fm := fV_fX12_mix (σ0 := μ) zQ.rf b eb
  exact h.go (Int.le_refl _) (g_mix h.1 a b ea eb) (J.2.2.2.2.2 _ _ _ h.2.1 a b ea eb) (fun q => ⟨by rw [← fc.o (k := 0) (a := 11) (b := 11) rfl (j := 11) (by decide) (by decide)]; exact q, zKsn.of fc rfl, zKtn.of fm rfl⟩)
theorem gj_wave (h : zAlj J K σ μ) {x1 : Int32} : zp2 (fX11_wave σ x1) (fX12_wave μ x1) (fun r r' => zAlj J K (zRis r) (r'.1)) := fun a b ea eb => by
  have fc := fg_fX11_wave (σ0 := σ) zQ.rf a ea
  have fm := fG_fX12_wave (σ0 := μ) zQ.rf b eb
  exact h.go (Int.le_refl _) (g_wave h.1 a b ea eb) (J.2.2.1 _ _ _ _ _ h.2.1 (zSc.of fc rfl) (zSrm.of fm rfl)) (fun q => ⟨by rw [← fc.o (k := 0) (a := 11) (b := 11) rfl (j := 11) (by decide) (by decide)]; exact q, zKsn.of fc rfl, zKtn.of fm rfl⟩)
theorem gj_sound (h : zAlj J K σ μ) {x1 : Int32} : zp2 (fX11_sound σ x1) (fX12_sound μ x1) (fun r r' => zAlj J K (zRis r) (r'.1)) := fun a b ea eb => by
  have fc := fg_fX11_sound (σ0 := σ) zQ.rf a ea
  have fm := fG_fX12_sound (σ0 := μ) zQ.rf b eb
  exact h.go (Int.le_refl _) (g_sound h.1 a b ea eb) (J.2.2.1 _ _ _ _ _ h.2.1 (zSc.of fc rfl) (zSrm.of fm rfl)) (fun q => ⟨by rw [← fc.o (k := 0) (a := 11) (b := 11) rfl (j := 11) (by decide) (by decide)]; exact q, zKsn.of fc rfl, zKtn.of fm rfl⟩)
theorem gj_trace (h : zAlj J K σ μ) {x1 : Int32} : zp2 (fX11_trace σ x1) (fX12_trace μ x1) (fun r r' => zAlj J K r.1 (r'.1)) := fun a b ea eb => by
  have fc := fg_fX11_trace (σ0 := σ) zQ.rf a ea
  have fm := fG_fX12_trace (σ0 := μ) zQ.rf b eb
  exact h.go (Int.le_refl _) (g_trace h.1 a b ea eb) (J.2.2.1 _ _ _ _ _ h.2.1 (zSc.of fc rfl) (zSrm.of fm rfl)) (fun q => ⟨by rw [← fc.o (k := 0) (a := 11) (b := 11) rfl (j := 11) (by decide) (by decide)]; exact q, zKsn.of fc rfl, zKtn.of fm rfl⟩)
theorem gj_look (h : zAlj J K σ μ) {x1 : Int32} : zp2 (fX11_look σ x1) (fX12_look μ x1) (fun r r' => zAlj J K (zRls r) (r'.1)) := fun a b ea eb => by
  have fc := fg_fX11_look (σ0 := σ) zQ.rf a ea
  have fm := fG_fX12_look (σ0 := μ) zQ.rf b eb
  exact h.go (Int.le_refl _) (g_look h.1 a b ea eb) (J.2.2.1 _ _ _ _ _ h.2.1 (zSc.of fc rfl) (zSrm.of fm rfl)) (fun q => ⟨by rw [← fc.o (k := 0) (a := 11) (b := 11) rfl (j := 11) (by decide) (by decide)]; exact q, zKsn.of fc rfl, zKtn.of fm rfl⟩)
end ZG6
section ZG5
variable {K K0 n k s : Int} {σ μ : zSt} {o : Nat → Int64}
theorem r_feed (h : zAlj zJq K σ μ) (hr : zr 0 262656 (zgi μ 0 2)) {x1 : Int32} {x2 : Int64} {x4 : Int64} {x6 : Int64} : zp2 (fL_feed o σ x1 x2 x4 x6) (fX12_feed μ x1 x2 x4 x6) (fun r r' => zAlj zJq K (r.1.2) (r'.1)) := by
  unfold fL_feed
  exact zp2_hi (I := fun s (r' : zSt × Int32) => zAlj zJq K s (r'.1)) (fun _ _ _ h => zh2_st h) (gj_feed h hr)
theorem r_grow (h : zAlj zJq K σ μ) (hr : zr 0 262656 (zgi μ 0 2)) {x1 : Int32} : zp2 (fL_grow o σ x1) (fX12_grow μ x1) (fun r r' => zAlj zJq K (r.1.2) (r'.1)) := by
  unfold fL_grow
  exact zp2_hi (I := fun s (r' : zSt × Int32) => zAlj zJq K s (r'.1)) (fun _ _ _ h => zh2_st h) (gj_grow h hr)
theorem r_patch (h : zAlj zJq K σ μ) (hr : zr 0 262656 (zgi μ 0 2)) {x1 : Int32} {x2 : Int64} : zp2 (fL_patch σ x1 x2) (fX12_patch μ x1 x2) (fun r r' => zAlj zJq K (r.1) (r')) := by
  unfold fL_patch
  exact zp2_hu (I := fun s (r' : zSt) => zAlj zJq K s (r')) (fun _ _ _ h => zh1_st h) (gj_patch h hr)
theorem r_card (h : zAlj zJq K σ μ) {x1 : Int32} : zp2 (fL_card o σ x1) (fX12_card μ x1) (fun r r' => zAlj zJq K (r.1.2) (r'.1)) := by
  unfold fL_card
  exact zp2_hi (I := fun s (r' : zSt × Int32) => zAlj zJq K s (r'.1)) (fun _ _ _ h => zh1_st h) (gj_card h)
theorem r_step (h : zAlj zJq K σ μ) (hK : K ≤ 1000000000) (hP : (μ.2 4 2).toInt ≤ 268435456) {x1 : Int32} : zp2 (fL_step o σ x1) (fX12_step μ x1) (fun r r' => zAlj zJq (K + 1000000) (r.1.2) (r'.1)) := by
  unfold fL_step
  exact zp2_hi (I := fun s (r' : zSt × Int32) => zAlj zJq (K + 1000000) s (r'.1)) (fun _ _ _ h => zh1_st h) (gj_step h hK hP)
theorem r_picture (h : zAlj zJq K σ μ) (hK : K ≤ 1000000000) (hP : (μ.2 4 2).toInt ≤ 268435456) {x1 : Int32} : zp2 (fL_picture o σ x1) (fX12_picture μ x1) (fun r r' => zAlj zJq (K + 1000000) (r.1.2) (r'.1)) := by
  unfold fL_picture
  exact zp2_hi (I := fun s (r' : zSt × Int32) => zAlj zJq (K + 1000000) s (r'.1)) (fun _ _ _ h => zh1_st h) (gj_picture h hK hP)
theorem r_press (h : zAlj zJq K σ μ) {x1 : Int32} {x2 : Int32} : zp2 (fL_press σ x1 x2) (fX12_press μ x1 x2) (fun r r' => zAlj zJq K (r.1) (r')) := by
  unfold fL_press
  exact zp2_hu (I := fun s (r' : zSt) => zAlj zJq K s (r')) (fun _ _ _ h => zh1_st h) (gj_press h)
theorem r_line (h : zAlj zJq K σ μ) {x1 : Int32} {x2 : Int32} : zp2 (fL_line σ x1 x2) (fX12_line μ x1 x2) (fun r r' => zAlj zJq K (r.1) (r')) := by
  unfold fL_line
  exact zp2_hu (I := fun s (r' : zSt) => zAlj zJq K s (r')) (fun _ _ _ h => zh1_st h) (gj_line h)
theorem r_plan (h : zAlj zJq K σ μ) {x1 : Int32} {x2 : Int32} {x3 : Int32} : zp2 (fL_plan o σ x1 x2 x3) (fX12_plan μ x1 x2 x3) (fun r r' => zAlj zJq K (r.1.2) (r'.1)) := by
  unfold fL_plan
  exact zp2_hi (I := fun s (r' : zSt × Int32) => zAlj zJq K s (r'.1)) (fun _ _ _ h => zh2_st h) (gj_plan h)
theorem r_text (h : zAlj zJq K σ μ) {x1 : Int32} : zp2 (fL_text o σ x1) (fX12_text μ x1) (fun r r' => zAlj zJq K (r.1.2) (r'.1)) := by
  unfold fL_text
  exact zp2_hl (I := fun s (r' : zSt × Int64) => zAlj zJq K s (r'.1)) (fun _ _ _ h => zh1_st h) (gj_text h)
theorem r_stop (h : zAlj zJq K σ μ) {x1 : Int32} {x2 : Int32} : zp2 (fL_stop o σ x1 x2) (fX12_stop μ x1 x2) (fun r r' => zAlj zJq K (r.1.2) (r'.1)) := by
  unfold fL_stop
  exact zp2_hi (I := fun s (r' : zSt × Int32) => zAlj zJq K s (r'.1)) (fun _ _ _ h => zh2_st h) (gj_stop h)
theorem r_restore (h : zAlj zJq K σ μ) (hf : σ.1 0 11 = 0 ↔ μ.1 0 19 = 0) : zp2 (fL_restore σ ) (fX12_restore μ ) (fun r r' => zAlj zJq K (r.1) (r')) := by
  unfold fL_restore
  exact zp2_hu (I := fun s (r' : zSt) => zAlj zJq K s (r')) (fun _ _ _ h => zh1_st h) (gj_restore h hf)
theorem r_register (h : zAlj zJq K σ μ) {x1 : Int32} : zp2 (fL_register o σ x1) (fX12_register μ x1) (fun r r' => zAlj zJq K (r.1.2) (r'.1)) := by
  unfold fL_register
  exact zp2_hi (I := fun s (r' : zSt × Int32) => zAlj zJq K s (r'.1)) (fun _ _ _ h => zh1_st h) (gj_register h)
theorem r_set (h : zAlj zJq K σ μ) {x1 : Int32} {x2 : Int32} : zp2 (fL_set σ x1 x2) (fX12_set μ x1 x2) (fun r r' => zAlj zJq K (r.1) (r')) := by
  unfold fL_set
  exact zp2_hu (I := fun s (r' : zSt) => zAlj zJq K s (r')) (fun _ _ _ h => zh1_st h) (gj_set h)
theorem r_battery (h : zAlj zJq K σ μ) {x1 : Int32} : zp2 (fL_battery o σ x1) (fX12_battery μ x1) (fun r r' => zAlj zJq K (r.1.2) (r'.1)) := by
  unfold fL_battery
  exact zp2_hi (I := fun s (r' : zSt × Int32) => zAlj zJq K s (r'.1)) (fun _ _ _ h => zh1_st h) (gj_battery h)
theorem r_chip (h : zAlj zJq K σ μ) {x1 : Int32} : zp2 (fL_chip o σ x1) (fX12_chip μ x1) (fun r r' => zAlj zJq K (r.1.2) (r'.1)) := by
  unfold fL_chip
  exact zp2_hi (I := fun s (r' : zSt × Int32) => zAlj zJq K s (r'.1)) (fun _ _ _ h => zh1_st h) (gj_chip h)
theorem r_dot (h : zAlj zJq K σ μ) {x1 : Int32} {x2 : Int32} : zp2 (fL_dot o σ x1 x2) (fX12_dot μ x1 x2) (fun r r' => zAlj zJq K (r.1.2) (r'.1)) := by
  unfold fL_dot
  exact zp2_hi (I := fun s (r' : zSt × Int32) => zAlj zJq K s (r'.1)) (fun _ _ _ h => zh1_st h) (gj_dot h)
theorem r_row (h : zAlj zJq K σ μ) {x1 : Int32} : zp2 (fL_row o σ x1) (fX12_row μ x1) (fun r r' => zAlj zJq K (r.1.2) (r'.1)) := by
  unfold fL_row
  exact zp2_hi (I := fun s (r' : zSt × Int32) => zAlj zJq K s (r'.1)) (fun _ _ _ h => zh1_st h) (gj_row h)
theorem r_hear (h : zAlj zJq K σ μ) : zp2 (fL_hear o σ ) (fX12_hear μ ) (fun r r' => zAlj zJq K (r.1.2) (r'.1)) := by
  unfold fL_hear
  exact zp2_hl (I := fun s (r' : zSt × Int64) => zAlj zJq K s (r'.1)) (fun _ _ _ h => zh1_st h) (gj_hear h)
theorem r_mix (h : zAlj zJq K σ μ) : zp2 (fL_mix o σ ) (fX12_mix μ ) (fun r r' => zAlj zJq K (r.1.2) (r'.1)) := by
  unfold fL_mix
  exact zp2_hl (I := fun s (r' : zSt × Int64) => zAlj zJq K s (r'.1)) (fun _ _ _ h => zh1_st h) (gj_mix h)
theorem r_wave (h : zAlj zJq K σ μ) {x1 : Int32} : zp2 (fL_wave o σ x1) (fX12_wave μ x1) (fun r r' => zAlj zJq K (r.1.2) (r'.1)) := by
  unfold fL_wave
  exact zp2_hi (I := fun s (r' : zSt × Int32) => zAlj zJq K s (r'.1)) (fun _ _ _ h => zh1_st h) (gj_wave h)
theorem r_sound (h : zAlj zJq K σ μ) {x1 : Int32} : zp2 (fL_sound o σ x1) (fX12_sound μ x1) (fun r r' => zAlj zJq K (r.1.2) (r'.1)) := by
  unfold fL_sound
  exact zp2_hi (I := fun s (r' : zSt × Int32) => zAlj zJq K s (r'.1)) (fun _ _ _ h => zh1_st h) (gj_sound h)
theorem r_look (h : zAlj zJq K σ μ) {x1 : Int32} : zp2 (fL_look o σ x1) (fX12_look μ x1) (fun r r' => zAlj zJq K (r.1.2) (r'.1)) := by
  unfold fL_look
  exact zp2_hl (I := fun s (r' : zSt × Int64) => zAlj zJq K s (r'.1)) (fun _ _ _ h => zh1_st h) (gj_look h)
theorem zAn2.h {o : Nat → Int64} {q : Option zRi} {p : Option (zSt × Int32)} (h : zp2 q p zAn2) : zp2 (zbr q (zhi o zh2)) p zCv := by
  intro a c ea ec
  cases e : q with
  | none => rw [e] at ea; cases ea
  | some r =>
    have i := h r c e ec
    rw [e] at ea
    have ea : zhi o zh2 r = some a := ea
    rcases i with ⟨s, e1, t⟩ | ⟨s, e1, t⟩ | ⟨s, e1, t⟩
    · subst e1
      have ea : (if (1 : Nat) = 1 then some ((o, s), (1 : Int32)) else if (1 : Nat) = 2 then some ((o, s), (2 : Int32)) else none) = some a := ea
      rw [if_pos rfl] at ea
      cases ea
      exact ⟨t, fun z => absurd (show (1 : Int32) = 0 from z) (by decide)⟩
    · subst e1
      have ea : (if (2 : Nat) = 1 then some ((o, s), (1 : Int32)) else if (2 : Nat) = 2 then some ((o, s), (2 : Int32)) else none) = some a := ea
      rw [if_neg (by decide), if_pos rfl] at ea
      cases ea
      exact ⟨t, fun z => absurd (show (2 : Int32) = 0 from z) (by decide)⟩
    · subst e1
      have ea : some ((vp_updL o 0 c.2.toInt64, s), (0 : Int32)) = some a := ea
      cases ea
      refine ⟨t, fun _ => ?_⟩
      show (if (0 : Nat) = 0 then c.2.toInt64 else o 0).toInt = _
      rw [if_pos rfl, Int32.toInt_toInt64]
theorem w_wave (h : zAlj zJq K σ μ) (hK : K ≤ 1000000000) (hP : (μ.2 4 2).toInt ≤ 268435456) {x1 : Int32} : zp2 (fL_wave o σ x1) (fX12_wave μ x1) zCv := by
  unfold fL_wave
  exact zAns.h (v_wave (h.rw2 hK))
end ZG5
end ZJN22
section ZJN23
theorem q_fLaw_208 {K n k s h A : Int} {xs : Nat → Int32} {L : Nat} {kn : zSt → (Nat → Int64) → zSt → Int32 → Option Int32} {μ σ : zSt} {o : Nat → Int64} {x4 : Int32} (hM : zRM K n k s μ) (hC : zRC n h s σ) (hR : zAlj zJq A σ μ) (hA : A ≤ 1000000000) (hb : K + 2100000 ≤ 268435456) (hz : ∀ j : Int32, 0 ≤ j.toInt → j.toInt ≤ 7 → zin (x4 + j) L = true) (hK : ∀ (μ1 : zSt) (o1 : Nat → Int64) (σ1 : zSt) (n s : Int), zRM (K + 2100000) n k s μ1 → zRC n h s σ1 → zAlj zJq (A + 1000000) σ1 μ1 → zok (kn μ1 o1 σ1 (x4 + 8)) (fun r => r = 1)) : zok (fLaw_208 xs L kn μ o σ x4) (fun r => r = 1) := by
  unfold fLaw_208
  refine zok_ck (hz 1 (by decide) (by decide)) ?_
  refine zok_ck (hz 2 (by decide) (by decide)) ?_
  refine zok_ck (hz 3 (by decide) (by decide)) ?_
  refine zok_ck (hz 4 (by decide) (by decide)) ?_
  refine zok_ck (hz 5 (by decide) (by decide)) ?_
  refine zok_ck (hz 6 (by decide) (by decide)) ?_
  refine zok_ck (hz 7 (by decide) (by decide)) ?_
  refine zok_bhE (l_feedx hC) (fun o3 s4 _ e2 p1 => ?_)
  refine zok_ck (hz 1 (by decide) (by decide)) ?_
  refine zok_ck (hz 2 (by decide) (by decide)) ?_
  refine zok_ck (hz 3 (by decide) (by decide)) ?_
  refine zok_ck (hz 4 (by decide) (by decide)) ?_
  refine zok_ck (hz 5 (by decide) (by decide)) ?_
  refine zok_ck (hz 6 (by decide) (by decide)) ?_
  refine zok_ck (hz 7 (by decide) (by decide)) ?_
  refine zok_biE (m_feedx hM) (fun s7 _ e6 p5 => ?_)
  have R6 := r_feed hR hM.len.1 _ _ e2 e6
  obtain ⟨_, ⟨_, c8, m9⟩, _⟩ := zBr.both p1 p5
  refine zok_bv (fun v8 e8 => ?_)
  subst e8
  exact hK _ _ _ _ _ (zRM.mono m9 (by omega) hb) c8 (zAlj.mono R6 (by omega))
theorem q_fLaw_372 {K n k s h A : Int} {xs : Nat → Int32} {L : Nat} {kn : zSt → (Nat → Int64) → zSt → Int32 → Option Int32} {μ σ : zSt} {o : Nat → Int64} {x4 : Int32} (hM : zRM K n k s μ) (hC : zRC n h s σ) (hR : zAlj zJq A σ μ) (hA : A ≤ 1000000000) (hb : K + 2100000 ≤ 268435456) (hz : ∀ j : Int32, 0 ≤ j.toInt → j.toInt ≤ 7 → zin (x4 + j) L = true) (hK : ∀ (μ1 : zSt) (o1 : Nat → Int64) (σ1 : zSt) (n s : Int), zRM (K + 2100000) n k s μ1 → zRC n h s σ1 → zAlj zJq (A + 1000000) σ1 μ1 → zok (kn μ1 o1 σ1 (x4 + 8)) (fun r => r = 1)) : zok (fLaw_372 xs L kn μ o σ x4) (fun r => r = 1) := by
  unfold fLaw_372
  refine zok_ck (hz 1 (by decide) (by decide)) ?_
  refine zok_bhE (l_growx hC) (fun o3 s4 _ e2 p1 => ?_)
  refine zok_ck (hz 1 (by decide) (by decide)) ?_
  refine zok_biE (m_growx hM) (fun s7 _ e6 p5 => ?_)
  have R6 := r_grow hR hM.len.1 _ _ e2 e6
  obtain ⟨_, ⟨_, c8, m9⟩, _⟩ := zBr.both p1 p5
  refine zok_bv (fun v8 e8 => ?_)
  subst e8
  exact hK _ _ _ _ _ (zRM.mono m9 (by omega) hb) c8 (zAlj.mono R6 (by omega))
theorem q_fLaw_400 {K n k s h A : Int} {xs : Nat → Int32} {L : Nat} {kn : zSt → (Nat → Int64) → zSt → Int32 → Option Int32} {μ σ : zSt} {o : Nat → Int64} {x4 : Int32} (hM : zRM K n k s μ) (hC : zRC n h s σ) (hR : zAlj zJq A σ μ) (hA : A ≤ 1000000000) (hb : K + 2100000 ≤ 268435456) (hz : ∀ j : Int32, 0 ≤ j.toInt → j.toInt ≤ 7 → zin (x4 + j) L = true) (hK : ∀ (μ1 : zSt) (o1 : Nat → Int64) (σ1 : zSt) (n s : Int), zRM (K + 2100000) n k s μ1 → zRC n h s σ1 → zAlj zJq (A + 1000000) σ1 μ1 → zok (kn μ1 o1 σ1 (x4 + 8)) (fun r => r = 1)) : zok (fLaw_400 xs L kn μ o σ x4) (fun r => r = 1) := by
  unfold fLaw_400
  refine zok_ck (hz 1 (by decide) (by decide)) ?_
  refine zok_ck (hz 2 (by decide) (by decide)) ?_
  refine zok_ck (hz 3 (by decide) (by decide)) ?_
  refine zok_biE (l_patchx hC) (fun s3 _ e2 p1 => ?_)
  refine zok_ck (hz 1 (by decide) (by decide)) ?_
  refine zok_ck (hz 2 (by decide) (by decide)) ?_
  refine zok_ck (hz 3 (by decide) (by decide)) ?_
  refine zok_buE (m_patchx hM) (fun s6 e5 p4 => ?_)
  have R6 := r_patch hR hM.len.1 _ _ e2 e5
  refine zok_bv (fun v8 e8 => ?_)
  subst e8
  exact hK _ _ _ _ _ (zRM.mono p4.1 (by omega) hb) p1.1 (zAlj.mono R6 (by omega))
theorem q_fLaw_469 {K n k s h A : Int} {xs : Nat → Int32} {L : Nat} {kn : zSt → (Nat → Int64) → zSt → Int32 → Option Int32} {μ σ : zSt} {o : Nat → Int64} {x4 : Int32} (hM : zRM K n k s μ) (hC : zRC n h s σ) (hR : zAlj zJq A σ μ) (hA : A ≤ 1000000000) (hb : K + 2100000 ≤ 268435456) (hz : ∀ j : Int32, 0 ≤ j.toInt → j.toInt ≤ 7 → zin (x4 + j) L = true) (hK : ∀ (μ1 : zSt) (o1 : Nat → Int64) (σ1 : zSt) (n s : Int), zRM (K + 2100000) n k s μ1 → zRC n h s σ1 → zAlj zJq (A + 1000000) σ1 μ1 → zok (kn μ1 o1 σ1 (x4 + 8)) (fun r => r = 1)) : zok (fLaw_469 xs L kn μ o σ x4) (fun r => r = 1) := by
  unfold fLaw_469
  refine zok_biE (c_loadx hC) (fun s3 _ e2 p1 => ?_)
  refine zok_biE (m_loadx hM) (fun s6 _ e5 p4 => ?_)
  have l10 := z2_load hR.1.2.1 hM.len.1 _ _ e2 e5
  have R5 := gj_load hR hM.len.1 _ _ e2 e5
  obtain ⟨e9, _, c7, m8⟩ := zLo.both p1 p4
  have R6 := R5 e9 c7.len.2.1 c7.len.2.2 (zR6.ofL m8 c7 (l10 e9))
  refine zok_bv (fun v8 e8 => ?_)
  subst e8
  exact hK _ _ _ _ _ (zRM.mono m8 (by omega) hb) c7 (zAlj.mono R6 (by omega))
theorem q_fLaw_482 {K n k s h A : Int} {xs : Nat → Int32} {L : Nat} {kn : zSt → (Nat → Int64) → zSt → Int32 → Option Int32} {μ σ : zSt} {o : Nat → Int64} {x4 : Int32} (hM : zRM K n k s μ) (hC : zRC n h s σ) (hR : zAlj zJq A σ μ) (hA : A ≤ 1000000000) (hb : K + 2100000 ≤ 268435456) (hz : ∀ j : Int32, 0 ≤ j.toInt → j.toInt ≤ 7 → zin (x4 + j) L = true) (hK : ∀ (μ1 : zSt) (o1 : Nat → Int64) (σ1 : zSt) (n s : Int), zRM (K + 2100000) n k s μ1 → zRC n h s σ1 → zAlj zJq (A + 1000000) σ1 μ1 → zok (kn μ1 o1 σ1 (x4 + 8)) (fun r => r = 1)) : zok (fLaw_482 xs L kn μ o σ x4) (fun r => r = 1) := by
  unfold fLaw_482
  refine zok_ck (hz 1 (by decide) (by decide)) ?_
  refine zok_bhE (l_card hC) (fun o3 s4 _ e2 p1 => ?_)
  refine zok_ck (hz 1 (by decide) (by decide)) ?_
  refine zok_biE (m_card hM) (fun s7 _ e6 p5 => ?_)
  have R6 := r_card hR _ _ e2 e6
  refine zok_bv (fun v8 e8 => ?_)
  subst e8
  exact hK _ _ _ _ _ (zRM.mono p5 (by omega) hb) p1 (zAlj.mono R6 (by omega))
theorem q_fLaw_510 {K n k s h A : Int} {xs : Nat → Int32} {L : Nat} {kn : zSt → (Nat → Int64) → zSt → Int32 → Option Int32} {μ σ : zSt} {o : Nat → Int64} {x4 : Int32} (hM : zRM K n k s μ) (hC : zRC n h s σ) (hR : zAlj zJq A σ μ) (hA : A ≤ 1000000000) (hb : K + 2100000 ≤ 268435456) (hz : ∀ j : Int32, 0 ≤ j.toInt → j.toInt ≤ 7 → zin (x4 + j) L = true) (hK : ∀ (μ1 : zSt) (o1 : Nat → Int64) (σ1 : zSt) (n s : Int), zRM (K + 2100000) n k s μ1 → zRC n h s σ1 → zAlj zJq (A + 1000000) σ1 μ1 → zok (kn μ1 o1 σ1 (x4 + 8)) (fun r => r = 1)) : zok (fLaw_510 xs L kn μ o σ x4) (fun r => r = 1) := by
  unfold fLaw_510
  refine zok_ck (hz 1 (by decide) (by decide)) ?_
  refine zok_bhE (l_step hC) (fun o3 s4 _ e2 p1 => ?_)
  refine zok_ck (hz 1 (by decide) (by decide)) ?_
  refine zok_biE (m_step hM hb) (fun s7 _ e6 p5 => ?_)
  have R6 := r_step hR hA hM.pic _ _ e2 e6
  refine zok_bv (fun v8 e8 => ?_)
  subst e8
  exact hK _ _ _ _ _ p5 p1 R6
theorem q_fLaw_538 {K n k s h A : Int} {xs : Nat → Int32} {L : Nat} {kn : zSt → (Nat → Int64) → zSt → Int32 → Option Int32} {μ σ : zSt} {o : Nat → Int64} {x4 : Int32} (hM : zRM K n k s μ) (hC : zRC n h s σ) (hR : zAlj zJq A σ μ) (hA : A ≤ 1000000000) (hb : K + 2100000 ≤ 268435456) (hz : ∀ j : Int32, 0 ≤ j.toInt → j.toInt ≤ 7 → zin (x4 + j) L = true) (hK : ∀ (μ1 : zSt) (o1 : Nat → Int64) (σ1 : zSt) (n s : Int), zRM (K + 2100000) n k s μ1 → zRC n h s σ1 → zAlj zJq (A + 1000000) σ1 μ1 → zok (kn μ1 o1 σ1 (x4 + 8)) (fun r => r = 1)) : zok (fLaw_538 xs L kn μ o σ x4) (fun r => r = 1) := by
  unfold fLaw_538
  refine zok_ck (hz 1 (by decide) (by decide)) ?_
  refine zok_bhE (l_picture hC) (fun o3 s4 _ e2 p1 => ?_)
  refine zok_ck (hz 1 (by decide) (by decide)) ?_
  refine zok_biE (m_picture hM hb) (fun s7 _ e6 p5 => ?_)
  have R6 := r_picture hR hA hM.pic _ _ e2 e6
  refine zok_bv (fun v8 e8 => ?_)
  subst e8
  exact hK _ _ _ _ _ p5 p1 R6
theorem q_fLaw_566 {K n k s h A : Int} {xs : Nat → Int32} {L : Nat} {kn : zSt → (Nat → Int64) → zSt → Int32 → Option Int32} {μ σ : zSt} {o : Nat → Int64} {x4 : Int32} (hM : zRM K n k s μ) (hC : zRC n h s σ) (hR : zAlj zJq A σ μ) (hA : A ≤ 1000000000) (hb : K + 2100000 ≤ 268435456) (hz : ∀ j : Int32, 0 ≤ j.toInt → j.toInt ≤ 7 → zin (x4 + j) L = true) (hK : ∀ (μ1 : zSt) (o1 : Nat → Int64) (σ1 : zSt) (n s : Int), zRM (K + 2100000) n k s μ1 → zRC n h s σ1 → zAlj zJq (A + 1000000) σ1 μ1 → zok (kn μ1 o1 σ1 (x4 + 8)) (fun r => r = 1)) : zok (fLaw_566 xs L kn μ o σ x4) (fun r => r = 1) := by
  unfold fLaw_566
  refine zok_buE (c_reset hC) (fun s3 e2 p1 => ?_)
  refine zok_buE (m_reset hM) (fun s6 e5 p4 => ?_)
  have R6 := gj_reset hR _ _ e2 e5
  refine zok_bv (fun v8 e8 => ?_)
  subst e8
  exact hK _ _ _ _ _ (zRM.mono p4 (by omega) hb) p1 (zAlj.mono R6 (by omega))
theorem q_fLaw_577 {K n k s h A : Int} {xs : Nat → Int32} {L : Nat} {kn : zSt → (Nat → Int64) → zSt → Int32 → Option Int32} {μ σ : zSt} {o : Nat → Int64} {x4 : Int32} (hM : zRM K n k s μ) (hC : zRC n h s σ) (hR : zAlj zJq A σ μ) (hA : A ≤ 1000000000) (hb : K + 2100000 ≤ 268435456) (hz : ∀ j : Int32, 0 ≤ j.toInt → j.toInt ≤ 7 → zin (x4 + j) L = true) (hK : ∀ (μ1 : zSt) (o1 : Nat → Int64) (σ1 : zSt) (n s : Int), zRM (K + 2100000) n k s μ1 → zRC n h s σ1 → zAlj zJq (A + 1000000) σ1 μ1 → zok (kn μ1 o1 σ1 (x4 + 8)) (fun r => r = 1)) : zok (fLaw_577 xs L kn μ o σ x4) (fun r => r = 1) := by
  unfold fLaw_577
  refine zok_biE (c_pause hC) (fun s3 _ e2 p1 => ?_)
  refine zok_biE (m_pause hM) (fun s6 _ e5 p4 => ?_)
  have R6 := gj_pause hR _ _ e2 e5
  refine zok_bv (fun v8 e8 => ?_)
  subst e8
  exact hK _ _ _ _ _ (zRM.mono p4 (by omega) hb) p1 (zAlj.mono R6 (by omega))
theorem q_fLaw_590 {K n k s h A : Int} {xs : Nat → Int32} {L : Nat} {kn : zSt → (Nat → Int64) → zSt → Int32 → Option Int32} {μ σ : zSt} {o : Nat → Int64} {x4 : Int32} (hM : zRM K n k s μ) (hC : zRC n h s σ) (hR : zAlj zJq A σ μ) (hA : A ≤ 1000000000) (hb : K + 2100000 ≤ 268435456) (hz : ∀ j : Int32, 0 ≤ j.toInt → j.toInt ≤ 7 → zin (x4 + j) L = true) (hK : ∀ (μ1 : zSt) (o1 : Nat → Int64) (σ1 : zSt) (n s : Int), zRM (K + 2100000) n k s μ1 → zRC n h s σ1 → zAlj zJq (A + 1000000) σ1 μ1 → zok (kn μ1 o1 σ1 (x4 + 8)) (fun r => r = 1)) : zok (fLaw_590 xs L kn μ o σ x4) (fun r => r = 1) := by
  unfold fLaw_590
  refine zok_ck (hz 1 (by decide) (by decide)) ?_
  refine zok_ck (hz 2 (by decide) (by decide)) ?_
  refine zok_biE (l_press hC) (fun s3 _ e2 p1 => ?_)
  refine zok_ck (hz 1 (by decide) (by decide)) ?_
  refine zok_ck (hz 2 (by decide) (by decide)) ?_
  refine zok_buE (m_press hM) (fun s6 e5 p4 => ?_)
  have R6 := r_press hR _ _ e2 e5
  refine zok_bv (fun v8 e8 => ?_)
  subst e8
  exact hK _ _ _ _ _ (zRM.mono p4 (by omega) hb) p1 (zAlj.mono R6 (by omega))
theorem q_fLaw_627 {K n k s h A : Int} {xs : Nat → Int32} {L : Nat} {kn : zSt → (Nat → Int64) → zSt → Int32 → Option Int32} {μ σ : zSt} {o : Nat → Int64} {x4 : Int32} (hM : zRM K n k s μ) (hC : zRC n h s σ) (hR : zAlj zJq A σ μ) (hA : A ≤ 1000000000) (hb : K + 2100000 ≤ 268435456) (hz : ∀ j : Int32, 0 ≤ j.toInt → j.toInt ≤ 7 → zin (x4 + j) L = true) (hK : ∀ (μ1 : zSt) (o1 : Nat → Int64) (σ1 : zSt) (n s : Int), zRM (K + 2100000) n k s μ1 → zRC n h s σ1 → zAlj zJq (A + 1000000) σ1 μ1 → zok (kn μ1 o1 σ1 (x4 + 8)) (fun r => r = 1)) : zok (fLaw_627 xs L kn μ o σ x4) (fun r => r = 1) := by
  unfold fLaw_627
  refine zok_ck (hz 1 (by decide) (by decide)) ?_
  refine zok_if (fun q1 => ?_) (fun q1 => ?_)
  · refine zok_buE (c_start hC (zr_c (by decide))) (fun s4 e3 p2 => ?_)
    refine zok_ck (hz 1 (by decide) (by decide)) ?_
    refine zok_if (fun _ => ?_) (fun z => absurd q1 z)
    refine zok_buE (m_start hM (zr_c (by decide))) (fun s7 e6 p5 => ?_)
    have R6 := gj_start hR _ _ e3 e6
    refine zok_bv (fun v8 e8 => ?_)
    subst e8
    exact hK _ _ _ _ _ (zRM.mono p5 (by omega) hb) p2 (zAlj.mono R6 (by omega))
  · refine zok_buE (c_start hC (zr_c (by decide))) (fun s10 e9 p8 => ?_)
    refine zok_ck (hz 1 (by decide) (by decide)) ?_
    refine zok_if (fun z => absurd z q1) (fun _ => ?_)
    refine zok_buE (m_start hM (zr_c (by decide))) (fun s13 e12 p11 => ?_)
    have R6 := gj_start hR _ _ e9 e12
    refine zok_bv (fun v8 e8 => ?_)
    subst e8
    exact hK _ _ _ _ _ (zRM.mono p11 (by omega) hb) p8 (zAlj.mono R6 (by omega))
theorem q_fLaw_666 {K n k s h A : Int} {xs : Nat → Int32} {L : Nat} {kn : zSt → (Nat → Int64) → zSt → Int32 → Option Int32} {μ σ : zSt} {o : Nat → Int64} {x4 : Int32} (hM : zRM K n k s μ) (hC : zRC n h s σ) (hR : zAlj zJq A σ μ) (hA : A ≤ 1000000000) (hb : K + 2100000 ≤ 268435456) (hz : ∀ j : Int32, 0 ≤ j.toInt → j.toInt ≤ 7 → zin (x4 + j) L = true) (hK : ∀ (μ1 : zSt) (o1 : Nat → Int64) (σ1 : zSt) (n s : Int), zRM (K + 2100000) n k s μ1 → zRC n h s σ1 → zAlj zJq (A + 1000000) σ1 μ1 → zok (kn μ1 o1 σ1 (x4 + 8)) (fun r => r = 1)) : zok (fLaw_666 xs L kn μ o σ x4) (fun r => r = 1) := by
  unfold fLaw_666
  refine zok_ck (hz 1 (by decide) (by decide)) ?_
  refine zok_ck (hz 2 (by decide) (by decide)) ?_
  refine zok_if (fun q1 => ?_) (fun q1 => ?_)
  · refine zok_biE (l_line hC (zr_c (by decide))) (fun s4 _ e3 p2 => ?_)
    refine zok_ck (hz 1 (by decide) (by decide)) ?_
    refine zok_ck (hz 2 (by decide) (by decide)) ?_
    refine zok_if (fun _ => ?_) (fun z => absurd q1 z)
    refine zok_buE (m_line hM (zr_c (by decide))) (fun s7 e6 p5 => ?_)
    have R6 := r_line hR _ _ e3 e6
    refine zok_bv (fun v8 e8 => ?_)
    subst e8
    exact hK _ _ _ _ _ (zRM.mono p5 (by omega) hb) p2 (zAlj.mono R6 (by omega))
  · refine zok_biE (l_line hC (zr_c (by decide))) (fun s10 _ e9 p8 => ?_)
    refine zok_ck (hz 1 (by decide) (by decide)) ?_
    refine zok_ck (hz 2 (by decide) (by decide)) ?_
    refine zok_if (fun z => absurd z q1) (fun _ => ?_)
    refine zok_buE (m_line hM (zr_c (by decide))) (fun s13 e12 p11 => ?_)
    have R6 := r_line hR _ _ e9 e12
    refine zok_bv (fun v8 e8 => ?_)
    subst e8
    exact hK _ _ _ _ _ (zRM.mono p11 (by omega) hb) p8 (zAlj.mono R6 (by omega))
theorem q_fLaw_719 {K n k s h A : Int} {xs : Nat → Int32} {L : Nat} {kn : zSt → (Nat → Int64) → zSt → Int32 → Option Int32} {μ σ : zSt} {o : Nat → Int64} {x4 : Int32} (hM : zRM K n k s μ) (hC : zRC n h s σ) (hR : zAlj zJq A σ μ) (hA : A ≤ 1000000000) (hb : K + 2100000 ≤ 268435456) (hz : ∀ j : Int32, 0 ≤ j.toInt → j.toInt ≤ 7 → zin (x4 + j) L = true) (hK : ∀ (μ1 : zSt) (o1 : Nat → Int64) (σ1 : zSt) (n s : Int), zRM (K + 2100000) n k s μ1 → zRC n h s σ1 → zAlj zJq (A + 1000000) σ1 μ1 → zok (kn μ1 o1 σ1 (x4 + 8)) (fun r => r = 1)) : zok (fLaw_719 xs L kn μ o σ x4) (fun r => r = 1) := by
  unfold fLaw_719
  refine zok_ck (hz 1 (by decide) (by decide)) ?_
  refine zok_ck (hz 2 (by decide) (by decide)) ?_
  refine zok_ck (hz 3 (by decide) (by decide)) ?_
  refine zok_bhE (l_plan hC) (fun o3 s4 _ e2 p1 => ?_)
  refine zok_ck (hz 1 (by decide) (by decide)) ?_
  refine zok_ck (hz 2 (by decide) (by decide)) ?_
  refine zok_ck (hz 3 (by decide) (by decide)) ?_
  refine zok_biE (m_plan hM) (fun s7 _ e6 p5 => ?_)
  have R6 := r_plan hR _ _ e2 e6
  refine zok_bv (fun v8 e8 => ?_)
  subst e8
  exact hK _ _ _ _ _ (zRM.mono p5 (by omega) hb) p1 (zAlj.mono R6 (by omega))
theorem q_fLaw_771 {K n k s h A : Int} {xs : Nat → Int32} {L : Nat} {kn : zSt → (Nat → Int64) → zSt → Int32 → Option Int32} {μ σ : zSt} {o : Nat → Int64} {x4 : Int32} (hM : zRM K n k s μ) (hC : zRC n h s σ) (hR : zAlj zJq A σ μ) (hA : A ≤ 1000000000) (hb : K + 2100000 ≤ 268435456) (hz : ∀ j : Int32, 0 ≤ j.toInt → j.toInt ≤ 7 → zin (x4 + j) L = true) (hK : ∀ (μ1 : zSt) (o1 : Nat → Int64) (σ1 : zSt) (n s : Int), zRM (K + 2100000) n k s μ1 → zRC n h s σ1 → zAlj zJq (A + 1000000) σ1 μ1 → zok (kn μ1 o1 σ1 (x4 + 8)) (fun r => r = 1)) : zok (fLaw_771 xs L kn μ o σ x4) (fun r => r = 1) := by
  unfold fLaw_771
  refine zok_ck (hz 1 (by decide) (by decide)) ?_
  refine zok_biE (c_tell hC) (fun s3 _ e2 p1 => ?_)
  refine zok_ck (hz 1 (by decide) (by decide)) ?_
  refine zok_biE (m_tell hM) (fun s6 _ e5 p4 => ?_)
  have R6 := gj_tell hR _ _ e2 e5
  refine zok_bv (fun v8 e8 => ?_)
  subst e8
  exact hK _ _ _ _ _ (zRM.mono p4 (by omega) hb) p1 (zAlj.mono R6 (by omega))
theorem q_fLaw_796 {K n k s h A : Int} {xs : Nat → Int32} {L : Nat} {kn : zSt → (Nat → Int64) → zSt → Int32 → Option Int32} {μ σ : zSt} {o : Nat → Int64} {x4 : Int32} (hM : zRM K n k s μ) (hC : zRC n h s σ) (hR : zAlj zJq A σ μ) (hA : A ≤ 1000000000) (hb : K + 2100000 ≤ 268435456) (hz : ∀ j : Int32, 0 ≤ j.toInt → j.toInt ≤ 7 → zin (x4 + j) L = true) (hK : ∀ (μ1 : zSt) (o1 : Nat → Int64) (σ1 : zSt) (n s : Int), zRM (K + 2100000) n k s μ1 → zRC n h s σ1 → zAlj zJq (A + 1000000) σ1 μ1 → zok (kn μ1 o1 σ1 (x4 + 8)) (fun r => r = 1)) : zok (fLaw_796 xs L kn μ o σ x4) (fun r => r = 1) := by
  unfold fLaw_796
  refine zok_ck (hz 1 (by decide) (by decide)) ?_
  refine zok_bhE (l_text hC) (fun o3 s4 _ e2 p1 => ?_)
  refine zok_ck (hz 1 (by decide) (by decide)) ?_
  refine zok_bllE (m_text hM) (fun s7 _ e6 p5 => ?_)
  have R6 := r_text hR _ _ e2 e6
  refine zok_bv (fun v8 e8 => ?_)
  subst e8
  exact hK _ _ _ _ _ (zRM.mono p5 (by omega) hb) p1 (zAlj.mono R6 (by omega))
theorem q_fLaw_824 {K n k s h A : Int} {xs : Nat → Int32} {L : Nat} {kn : zSt → (Nat → Int64) → zSt → Int32 → Option Int32} {μ σ : zSt} {o : Nat → Int64} {x4 : Int32} (hM : zRM K n k s μ) (hC : zRC n h s σ) (hR : zAlj zJq A σ μ) (hA : A ≤ 1000000000) (hb : K + 2100000 ≤ 268435456) (hz : ∀ j : Int32, 0 ≤ j.toInt → j.toInt ≤ 7 → zin (x4 + j) L = true) (hK : ∀ (μ1 : zSt) (o1 : Nat → Int64) (σ1 : zSt) (n s : Int), zRM (K + 2100000) n k s μ1 → zRC n h s σ1 → zAlj zJq (A + 1000000) σ1 μ1 → zok (kn μ1 o1 σ1 (x4 + 8)) (fun r => r = 1)) : zok (fLaw_824 xs L kn μ o σ x4) (fun r => r = 1) := by
  unfold fLaw_824
  refine zok_ck (hz 1 (by decide) (by decide)) ?_
  refine zok_ck (hz 2 (by decide) (by decide)) ?_
  refine zok_if (fun q1 => ?_) (fun q1 => ?_)
  · refine zok_bhE (l_stop hC (zr_c (by decide))) (fun o4 s5 _ e3 p2 => ?_)
    refine zok_ck (hz 1 (by decide) (by decide)) ?_
    refine zok_ck (hz 2 (by decide) (by decide)) ?_
    refine zok_if (fun _ => ?_) (fun z => absurd q1 z)
    refine zok_biE (m_stop hM (zr_c (by decide))) (fun s8 _ e7 p6 => ?_)
    have R6 := r_stop hR _ _ e3 e7
    refine zok_bv (fun v8 e8 => ?_)
    subst e8
    exact hK _ _ _ _ _ (zRM.mono p6 (by omega) hb) p2 (zAlj.mono R6 (by omega))
  · refine zok_bhE (l_stop hC (zr_c (by decide))) (fun o11 s12 _ e10 p9 => ?_)
    refine zok_ck (hz 1 (by decide) (by decide)) ?_
    refine zok_ck (hz 2 (by decide) (by decide)) ?_
    refine zok_if (fun z => absurd z q1) (fun _ => ?_)
    refine zok_biE (m_stop hM (zr_c (by decide))) (fun s15 _ e14 p13 => ?_)
    have R6 := r_stop hR _ _ e10 e14
    refine zok_bv (fun v8 e8 => ?_)
    subst e8
    exact hK _ _ _ _ _ (zRM.mono p13 (by omega) hb) p9 (zAlj.mono R6 (by omega))
theorem q_fLaw_880 {K n k s h A : Int} {xs : Nat → Int32} {L : Nat} {kn : zSt → (Nat → Int64) → zSt → Int32 → Option Int32} {μ σ : zSt} {o : Nat → Int64} {x4 : Int32} (hM : zRM K n k s μ) (hC : zRC n h s σ) (hR : zAlj zJq A σ μ) (hA : A ≤ 1000000000) (hb : K + 2100000 ≤ 268435456) (hz : ∀ j : Int32, 0 ≤ j.toInt → j.toInt ≤ 7 → zin (x4 + j) L = true) (hK : ∀ (μ1 : zSt) (o1 : Nat → Int64) (σ1 : zSt) (n s : Int), zRM (K + 2100000) n k s μ1 → zRC n h s σ1 → zAlj zJq (A + 1000000) σ1 μ1 → zok (kn μ1 o1 σ1 (x4 + 8)) (fun r => r = 1)) : zok (fLaw_880 xs L kn μ o σ x4) (fun r => r = 1) := by
  unfold fLaw_880
  refine zok_buE (c_savex hC) (fun s3 e2 p1 => ?_)
  refine zok_buE (m_save hM) (fun s6 e5 p4 => ?_)
  have R6 := gj_save hR _ _ e2 e5
  refine zok_bv (fun v8 e8 => ?_)
  subst e8
  exact hK _ _ _ _ _ (zRM.mono p4 (by omega) hb) p1 (zAlj.mono R6 (by omega))
theorem q_fLaw_891 {K n k s h A : Int} {xs : Nat → Int32} {L : Nat} {kn : zSt → (Nat → Int64) → zSt → Int32 → Option Int32} {μ σ : zSt} {o : Nat → Int64} {x4 : Int32} (hM : zRM K n k s μ) (hC : zRC n h s σ) (hR : zAlj zJq A σ μ) (hA : A ≤ 1000000000) (hb : K + 2100000 ≤ 268435456) (hz : ∀ j : Int32, 0 ≤ j.toInt → j.toInt ≤ 7 → zin (x4 + j) L = true) (hK : ∀ (μ1 : zSt) (o1 : Nat → Int64) (σ1 : zSt) (n s : Int), zRM (K + 2100000) n k s μ1 → zRC n h s σ1 → zAlj zJq (A + 1000000) σ1 μ1 → zok (kn μ1 o1 σ1 (x4 + 8)) (fun r => r = 1)) : zok (fLaw_891 xs L kn μ o σ x4) (fun r => r = 1) := by
  unfold fLaw_891
  refine zok_biE (l_restorex hC) (fun s3 _ e2 p1 => ?_)
  refine zok_buE (m_restorex hM) (fun s6 e5 p4 => ?_)
  have R6 := r_restore hR (z_flag hM hC) _ _ e2 e5
  refine zok_bv (fun v8 e8 => ?_)
  subst e8
  exact hK _ _ _ _ _ (zRM.mono p4.1 (by omega) hb) p1.1 (zAlj.mono R6 (by omega))
theorem q_fLaw_904 {K n k s h A : Int} {xs : Nat → Int32} {L : Nat} {kn : zSt → (Nat → Int64) → zSt → Int32 → Option Int32} {μ σ : zSt} {o : Nat → Int64} {x4 : Int32} (hM : zRM K n k s μ) (hC : zRC n h s σ) (hR : zAlj zJq A σ μ) (hA : A ≤ 1000000000) (hb : K + 2100000 ≤ 268435456) (hz : ∀ j : Int32, 0 ≤ j.toInt → j.toInt ≤ 7 → zin (x4 + j) L = true) (hK : ∀ (μ1 : zSt) (o1 : Nat → Int64) (σ1 : zSt) (n s : Int), zRM (K + 2100000) n k s μ1 → zRC n h s σ1 → zAlj zJq (A + 1000000) σ1 μ1 → zok (kn μ1 o1 σ1 (x4 + 8)) (fun r => r = 1)) : zok (fLaw_904 xs L kn μ o σ x4) (fun r => r = 1) := by
  unfold fLaw_904
  refine zok_ck (hz 1 (by decide) (by decide)) ?_
  refine zok_bhE (l_register hC) (fun o3 s4 _ e2 p1 => ?_)
  refine zok_ck (hz 1 (by decide) (by decide)) ?_
  refine zok_biE (m_register hM) (fun s7 _ e6 p5 => ?_)
  have R6 := r_register hR _ _ e2 e6
  refine zok_bv (fun v8 e8 => ?_)
  subst e8
  exact hK _ _ _ _ _ (zRM.mono p5 (by omega) hb) p1 (zAlj.mono R6 (by omega))
theorem q_fLaw_932 {K n k s h A : Int} {xs : Nat → Int32} {L : Nat} {kn : zSt → (Nat → Int64) → zSt → Int32 → Option Int32} {μ σ : zSt} {o : Nat → Int64} {x4 : Int32} (hM : zRM K n k s μ) (hC : zRC n h s σ) (hR : zAlj zJq A σ μ) (hA : A ≤ 1000000000) (hb : K + 2100000 ≤ 268435456) (hz : ∀ j : Int32, 0 ≤ j.toInt → j.toInt ≤ 7 → zin (x4 + j) L = true) (hK : ∀ (μ1 : zSt) (o1 : Nat → Int64) (σ1 : zSt) (n s : Int), zRM (K + 2100000) n k s μ1 → zRC n h s σ1 → zAlj zJq (A + 1000000) σ1 μ1 → zok (kn μ1 o1 σ1 (x4 + 8)) (fun r => r = 1)) : zok (fLaw_932 xs L kn μ o σ x4) (fun r => r = 1) := by
  unfold fLaw_932
  refine zok_ck (hz 1 (by decide) (by decide)) ?_
  refine zok_ck (hz 2 (by decide) (by decide)) ?_
  refine zok_biE (l_set hC) (fun s3 _ e2 p1 => ?_)
  refine zok_ck (hz 1 (by decide) (by decide)) ?_
  refine zok_ck (hz 2 (by decide) (by decide)) ?_
  refine zok_buE (m_set hM) (fun s6 e5 p4 => ?_)
  have R6 := r_set hR _ _ e2 e5
  refine zok_bv (fun v8 e8 => ?_)
  subst e8
  exact hK _ _ _ _ _ (zRM.mono p4 (by omega) hb) p1 (zAlj.mono R6 (by omega))
theorem q_fLaw_969 {K n k s h A : Int} {xs : Nat → Int32} {L : Nat} {kn : zSt → (Nat → Int64) → zSt → Int32 → Option Int32} {μ σ : zSt} {o : Nat → Int64} {x4 : Int32} (hM : zRM K n k s μ) (hC : zRC n h s σ) (hR : zAlj zJq A σ μ) (hA : A ≤ 1000000000) (hb : K + 2100000 ≤ 268435456) (hz : ∀ j : Int32, 0 ≤ j.toInt → j.toInt ≤ 7 → zin (x4 + j) L = true) (hK : ∀ (μ1 : zSt) (o1 : Nat → Int64) (σ1 : zSt) (n s : Int), zRM (K + 2100000) n k s μ1 → zRC n h s σ1 → zAlj zJq (A + 1000000) σ1 μ1 → zok (kn μ1 o1 σ1 (x4 + 8)) (fun r => r = 1)) : zok (fLaw_969 xs L kn μ o σ x4) (fun r => r = 1) := by
  unfold fLaw_969
  refine zok_ck (hz 1 (by decide) (by decide)) ?_
  refine zok_biE (c_peek hC) (fun s3 _ e2 p1 => ?_)
  refine zok_ck (hz 1 (by decide) (by decide)) ?_
  refine zok_biE (m_peek hM) (fun s6 _ e5 p4 => ?_)
  have R6 := gj_peek hR _ _ e2 e5
  refine zok_bv (fun v8 e8 => ?_)
  subst e8
  exact hK _ _ _ _ _ (zRM.mono p4 (by omega) hb) p1 (zAlj.mono R6 (by omega))
theorem q_fLaw_994 {K n k s h A : Int} {xs : Nat → Int32} {L : Nat} {kn : zSt → (Nat → Int64) → zSt → Int32 → Option Int32} {μ σ : zSt} {o : Nat → Int64} {x4 : Int32} (hM : zRM K n k s μ) (hC : zRC n h s σ) (hR : zAlj zJq A σ μ) (hA : A ≤ 1000000000) (hb : K + 2100000 ≤ 268435456) (hz : ∀ j : Int32, 0 ≤ j.toInt → j.toInt ≤ 7 → zin (x4 + j) L = true) (hK : ∀ (μ1 : zSt) (o1 : Nat → Int64) (σ1 : zSt) (n s : Int), zRM (K + 2100000) n k s μ1 → zRC n h s σ1 → zAlj zJq (A + 1000000) σ1 μ1 → zok (kn μ1 o1 σ1 (x4 + 8)) (fun r => r = 1)) : zok (fLaw_994 xs L kn μ o σ x4) (fun r => r = 1) := by
  unfold fLaw_994
  refine zok_ck (hz 1 (by decide) (by decide)) ?_
  refine zok_ck (hz 2 (by decide) (by decide)) ?_
  refine zok_buE (c_poke hC) (fun s3 e2 p1 => ?_)
  refine zok_ck (hz 1 (by decide) (by decide)) ?_
  refine zok_ck (hz 2 (by decide) (by decide)) ?_
  refine zok_buE (m_poke hM) (fun s6 e5 p4 => ?_)
  have R6 := gj_poke hR _ _ e2 e5
  refine zok_bv (fun v8 e8 => ?_)
  subst e8
  exact hK _ _ _ _ _ (zRM.mono p4 (by omega) hb) p1 (zAlj.mono R6 (by omega))
theorem q_fLaw_1029 {K n k s h A : Int} {xs : Nat → Int32} {L : Nat} {kn : zSt → (Nat → Int64) → zSt → Int32 → Option Int32} {μ σ : zSt} {o : Nat → Int64} {x4 : Int32} (hM : zRM K n k s μ) (hC : zRC n h s σ) (hR : zAlj zJq A σ μ) (hA : A ≤ 1000000000) (hb : K + 2100000 ≤ 268435456) (hz : ∀ j : Int32, 0 ≤ j.toInt → j.toInt ≤ 7 → zin (x4 + j) L = true) (hK : ∀ (μ1 : zSt) (o1 : Nat → Int64) (σ1 : zSt) (n s : Int), zRM (K + 2100000) n k s μ1 → zRC n h s σ1 → zAlj zJq (A + 1000000) σ1 μ1 → zok (kn μ1 o1 σ1 (x4 + 8)) (fun r => r = 1)) : zok (fLaw_1029 xs L kn μ o σ x4) (fun r => r = 1) := by
  unfold fLaw_1029
  refine zok_ck (hz 1 (by decide) (by decide)) ?_
  refine zok_biE (c_in hC) (fun s3 _ e2 p1 => ?_)
  refine zok_ck (hz 1 (by decide) (by decide)) ?_
  refine zok_biE (m_in hM) (fun s6 _ e5 p4 => ?_)
  have R6 := gj_in hR _ _ e2 e5
  refine zok_bv (fun v8 e8 => ?_)
  subst e8
  exact hK _ _ _ _ _ (zRM.mono p4 (by omega) hb) p1 (zAlj.mono R6 (by omega))
theorem q_fLaw_1054 {K n k s h A : Int} {xs : Nat → Int32} {L : Nat} {kn : zSt → (Nat → Int64) → zSt → Int32 → Option Int32} {μ σ : zSt} {o : Nat → Int64} {x4 : Int32} (hM : zRM K n k s μ) (hC : zRC n h s σ) (hR : zAlj zJq A σ μ) (hA : A ≤ 1000000000) (hb : K + 2100000 ≤ 268435456) (hz : ∀ j : Int32, 0 ≤ j.toInt → j.toInt ≤ 7 → zin (x4 + j) L = true) (hK : ∀ (μ1 : zSt) (o1 : Nat → Int64) (σ1 : zSt) (n s : Int), zRM (K + 2100000) n k s μ1 → zRC n h s σ1 → zAlj zJq (A + 1000000) σ1 μ1 → zok (kn μ1 o1 σ1 (x4 + 8)) (fun r => r = 1)) : zok (fLaw_1054 xs L kn μ o σ x4) (fun r => r = 1) := by
  unfold fLaw_1054
  refine zok_ck (hz 1 (by decide) (by decide)) ?_
  refine zok_ck (hz 2 (by decide) (by decide)) ?_
  refine zok_buE (c_out hC) (fun s3 e2 p1 => ?_)
  refine zok_ck (hz 1 (by decide) (by decide)) ?_
  refine zok_ck (hz 2 (by decide) (by decide)) ?_
  refine zok_buE (m_out hM) (fun s6 e5 p4 => ?_)
  have R6 := gj_out hR _ _ e2 e5
  refine zok_bv (fun v8 e8 => ?_)
  subst e8
  exact hK _ _ _ _ _ (zRM.mono p4 (by omega) hb) p1 (zAlj.mono R6 (by omega))
theorem q_fLaw_1089 {K n k s h A : Int} {xs : Nat → Int32} {L : Nat} {kn : zSt → (Nat → Int64) → zSt → Int32 → Option Int32} {μ σ : zSt} {o : Nat → Int64} {x4 : Int32} (hM : zRM K n k s μ) (hC : zRC n h s σ) (hR : zAlj zJq A σ μ) (hA : A ≤ 1000000000) (hb : K + 2100000 ≤ 268435456) (hz : ∀ j : Int32, 0 ≤ j.toInt → j.toInt ≤ 7 → zin (x4 + j) L = true) (hK : ∀ (μ1 : zSt) (o1 : Nat → Int64) (σ1 : zSt) (n s : Int), zRM (K + 2100000) n k s μ1 → zRC n h s σ1 → zAlj zJq (A + 1000000) σ1 μ1 → zok (kn μ1 o1 σ1 (x4 + 8)) (fun r => r = 1)) : zok (fLaw_1089 xs L kn μ o σ x4) (fun r => r = 1) := by
  unfold fLaw_1089
  refine zok_ck (hz 1 (by decide) (by decide)) ?_
  refine zok_bhE (l_battery hC) (fun o3 s4 _ e2 p1 => ?_)
  refine zok_ck (hz 1 (by decide) (by decide)) ?_
  refine zok_biE (m_battery hM) (fun s7 _ e6 p5 => ?_)
  have R6 := r_battery hR _ _ e2 e6
  refine zok_bv (fun v8 e8 => ?_)
  subst e8
  exact hK _ _ _ _ _ (zRM.mono p5 (by omega) hb) p1 (zAlj.mono R6 (by omega))
theorem q_fLaw_1117 {K n k s h A : Int} {xs : Nat → Int32} {L : Nat} {kn : zSt → (Nat → Int64) → zSt → Int32 → Option Int32} {μ σ : zSt} {o : Nat → Int64} {x4 : Int32} (hM : zRM K n k s μ) (hC : zRC n h s σ) (hR : zAlj zJq A σ μ) (hA : A ≤ 1000000000) (hb : K + 2100000 ≤ 268435456) (hz : ∀ j : Int32, 0 ≤ j.toInt → j.toInt ≤ 7 → zin (x4 + j) L = true) (hK : ∀ (μ1 : zSt) (o1 : Nat → Int64) (σ1 : zSt) (n s : Int), zRM (K + 2100000) n k s μ1 → zRC n h s σ1 → zAlj zJq (A + 1000000) σ1 μ1 → zok (kn μ1 o1 σ1 (x4 + 8)) (fun r => r = 1)) : zok (fLaw_1117 xs L kn μ o σ x4) (fun r => r = 1) := by
  unfold fLaw_1117
  refine zok_buE (c_wipe hC) (fun s3 e2 p1 => ?_)
  refine zok_buE (m_wipe hM) (fun s6 e5 p4 => ?_)
  have R6 := gj_wipe hR _ _ e2 e5
  refine zok_bv (fun v8 e8 => ?_)
  subst e8
  exact hK _ _ _ _ _ (zRM.mono p4 (by omega) hb) p1 (zAlj.mono R6 (by omega))
theorem q_fLaw_1128 {K n k s h A : Int} {xs : Nat → Int32} {L : Nat} {kn : zSt → (Nat → Int64) → zSt → Int32 → Option Int32} {μ σ : zSt} {o : Nat → Int64} {x4 : Int32} (hM : zRM K n k s μ) (hC : zRC n h s σ) (hR : zAlj zJq A σ μ) (hA : A ≤ 1000000000) (hb : K + 2100000 ≤ 268435456) (hz : ∀ j : Int32, 0 ≤ j.toInt → j.toInt ≤ 7 → zin (x4 + j) L = true) (hK : ∀ (μ1 : zSt) (o1 : Nat → Int64) (σ1 : zSt) (n s : Int), zRM (K + 2100000) n k s μ1 → zRC n h s σ1 → zAlj zJq (A + 1000000) σ1 μ1 → zok (kn μ1 o1 σ1 (x4 + 8)) (fun r => r = 1)) : zok (fLaw_1128 xs L kn μ o σ x4) (fun r => r = 1) := by
  unfold fLaw_1128
  refine zok_ck (hz 1 (by decide) (by decide)) ?_
  refine zok_bllE (c_video hC) (fun s3 _ e2 p1 => ?_)
  refine zok_ck (hz 1 (by decide) (by decide)) ?_
  refine zok_bllE (m_video hM) (fun s6 _ e5 p4 => ?_)
  have R6 := gj_video hR _ _ e2 e5
  refine zok_bv (fun v8 e8 => ?_)
  subst e8
  exact hK _ _ _ _ _ (zRM.mono p4 (by omega) hb) p1 (zAlj.mono R6 (by omega))
theorem q_fLaw_1153 {K n k s h A : Int} {xs : Nat → Int32} {L : Nat} {kn : zSt → (Nat → Int64) → zSt → Int32 → Option Int32} {μ σ : zSt} {o : Nat → Int64} {x4 : Int32} (hM : zRM K n k s μ) (hC : zRC n h s σ) (hR : zAlj zJq A σ μ) (hA : A ≤ 1000000000) (hb : K + 2100000 ≤ 268435456) (hz : ∀ j : Int32, 0 ≤ j.toInt → j.toInt ≤ 7 → zin (x4 + j) L = true) (hK : ∀ (μ1 : zSt) (o1 : Nat → Int64) (σ1 : zSt) (n s : Int), zRM (K + 2100000) n k s μ1 → zRC n h s σ1 → zAlj zJq (A + 1000000) σ1 μ1 → zok (kn μ1 o1 σ1 (x4 + 8)) (fun r => r = 1)) : zok (fLaw_1153 xs L kn μ o σ x4) (fun r => r = 1) := by
  unfold fLaw_1153
  refine zok_ck (hz 1 (by decide) (by decide)) ?_
  refine zok_bhE (l_chip hC) (fun o3 s4 _ e2 p1 => ?_)
  refine zok_ck (hz 1 (by decide) (by decide)) ?_
  refine zok_biE (m_chip hM) (fun s7 _ e6 p5 => ?_)
  have R6 := r_chip hR _ _ e2 e6
  refine zok_bv (fun v8 e8 => ?_)
  subst e8
  exact hK _ _ _ _ _ (zRM.mono p5 (by omega) hb) p1 (zAlj.mono R6 (by omega))
theorem q_fLaw_1181 {K n k s h A : Int} {xs : Nat → Int32} {L : Nat} {kn : zSt → (Nat → Int64) → zSt → Int32 → Option Int32} {μ σ : zSt} {o : Nat → Int64} {x4 : Int32} (hM : zRM K n k s μ) (hC : zRC n h s σ) (hR : zAlj zJq A σ μ) (hA : A ≤ 1000000000) (hb : K + 2100000 ≤ 268435456) (hz : ∀ j : Int32, 0 ≤ j.toInt → j.toInt ≤ 7 → zin (x4 + j) L = true) (hK : ∀ (μ1 : zSt) (o1 : Nat → Int64) (σ1 : zSt) (n s : Int), zRM (K + 2100000) n k s μ1 → zRC n h s σ1 → zAlj zJq (A + 1000000) σ1 μ1 → zok (kn μ1 o1 σ1 (x4 + 8)) (fun r => r = 1)) : zok (fLaw_1181 xs L kn μ o σ x4) (fun r => r = 1) := by
  unfold fLaw_1181
  refine zok_ck (hz 1 (by decide) (by decide)) ?_
  refine zok_ck (hz 2 (by decide) (by decide)) ?_
  refine zok_bhE (l_dot hC) (fun o3 s4 _ e2 p1 => ?_)
  refine zok_ck (hz 1 (by decide) (by decide)) ?_
  refine zok_ck (hz 2 (by decide) (by decide)) ?_
  refine zok_biE (m_dot hM) (fun s7 _ e6 p5 => ?_)
  have R6 := r_dot hR _ _ e2 e6
  refine zok_bv (fun v8 e8 => ?_)
  subst e8
  exact hK _ _ _ _ _ (zRM.mono p5 (by omega) hb) p1 (zAlj.mono R6 (by omega))
theorem q_fLaw_1221 {K n k s h A : Int} {xs : Nat → Int32} {L : Nat} {kn : zSt → (Nat → Int64) → zSt → Int32 → Option Int32} {μ σ : zSt} {o : Nat → Int64} {x4 : Int32} (hM : zRM K n k s μ) (hC : zRC n h s σ) (hR : zAlj zJq A σ μ) (hA : A ≤ 1000000000) (hb : K + 2100000 ≤ 268435456) (hz : ∀ j : Int32, 0 ≤ j.toInt → j.toInt ≤ 7 → zin (x4 + j) L = true) (hK : ∀ (μ1 : zSt) (o1 : Nat → Int64) (σ1 : zSt) (n s : Int), zRM (K + 2100000) n k s μ1 → zRC n h s σ1 → zAlj zJq (A + 1000000) σ1 μ1 → zok (kn μ1 o1 σ1 (x4 + 8)) (fun r => r = 1)) : zok (fLaw_1221 xs L kn μ o σ x4) (fun r => r = 1) := by
  unfold fLaw_1221
  refine zok_ck (hz 1 (by decide) (by decide)) ?_
  refine zok_bhE (l_row hC) (fun o3 s4 _ e2 p1 => ?_)
  refine zok_ck (hz 1 (by decide) (by decide)) ?_
  refine zok_biE (m_row hM) (fun s7 _ e6 p5 => ?_)
  have R6 := r_row hR _ _ e2 e6
  refine zok_bv (fun v8 e8 => ?_)
  subst e8
  exact hK _ _ _ _ _ (zRM.mono p5 (by omega) hb) p1 (zAlj.mono R6 (by omega))
theorem q_fLaw_1249 {K n k s h A : Int} {xs : Nat → Int32} {L : Nat} {kn : zSt → (Nat → Int64) → zSt → Int32 → Option Int32} {μ σ : zSt} {o : Nat → Int64} {x4 : Int32} (hM : zRM K n k s μ) (hC : zRC n h s σ) (hR : zAlj zJq A σ μ) (hA : A ≤ 1000000000) (hb : K + 2100000 ≤ 268435456) (hz : ∀ j : Int32, 0 ≤ j.toInt → j.toInt ≤ 7 → zin (x4 + j) L = true) (hK : ∀ (μ1 : zSt) (o1 : Nat → Int64) (σ1 : zSt) (n s : Int), zRM (K + 2100000) n k s μ1 → zRC n h s σ1 → zAlj zJq (A + 1000000) σ1 μ1 → zok (kn μ1 o1 σ1 (x4 + 8)) (fun r => r = 1)) : zok (fLaw_1249 xs L kn μ o σ x4) (fun r => r = 1) := by
  unfold fLaw_1249
  refine zok_bhE (l_hear hC) (fun o3 s4 _ e2 p1 => ?_)
  refine zok_bllE (m_hear hM) (fun s7 _ e6 p5 => ?_)
  have R6 := r_hear hR _ _ e2 e6
  refine zok_bv (fun v8 e8 => ?_)
  subst e8
  exact hK _ _ _ _ _ (zRM.mono p5 (by omega) hb) p1 (zAlj.mono R6 (by omega))
theorem q_fLaw_1265 {K n k s h A : Int} {xs : Nat → Int32} {L : Nat} {kn : zSt → (Nat → Int64) → zSt → Int32 → Option Int32} {μ σ : zSt} {o : Nat → Int64} {x4 : Int32} (hM : zRM K n k s μ) (hC : zRC n h s σ) (hR : zAlj zJq A σ μ) (hA : A ≤ 1000000000) (hb : K + 2100000 ≤ 268435456) (hz : ∀ j : Int32, 0 ≤ j.toInt → j.toInt ≤ 7 → zin (x4 + j) L = true) (hK : ∀ (μ1 : zSt) (o1 : Nat → Int64) (σ1 : zSt) (n s : Int), zRM (K + 2100000) n k s μ1 → zRC n h s σ1 → zAlj zJq (A + 1000000) σ1 μ1 → zok (kn μ1 o1 σ1 (x4 + 8)) (fun r => r = 1)) : zok (fLaw_1265 xs L kn μ o σ x4) (fun r => r = 1) := by
  unfold fLaw_1265
  refine zok_bhE (l_mix hC) (fun o3 s4 _ e2 p1 => ?_)
  refine zok_bllE (m_mix hM) (fun s7 _ e6 p5 => ?_)
  have R6 := r_mix hR _ _ e2 e6
  refine zok_bv (fun v8 e8 => ?_)
  subst e8
  exact hK _ _ _ _ _ (zRM.mono p5 (by omega) hb) p1 (zAlj.mono R6 (by omega))
theorem q_fLaw_1281 {K n k s h A : Int} {xs : Nat → Int32} {L : Nat} {kn : zSt → (Nat → Int64) → zSt → Int32 → Option Int32} {μ σ : zSt} {o : Nat → Int64} {x4 : Int32} (hM : zRM K n k s μ) (hC : zRC n h s σ) (hR : zAlj zJq A σ μ) (hA : A ≤ 1000000000) (hb : K + 2100000 ≤ 268435456) (hz : ∀ j : Int32, 0 ≤ j.toInt → j.toInt ≤ 7 → zin (x4 + j) L = true) (hK : ∀ (μ1 : zSt) (o1 : Nat → Int64) (σ1 : zSt) (n s : Int), zRM (K + 2100000) n k s μ1 → zRC n h s σ1 → zAlj zJq (A + 1000000) σ1 μ1 → zok (kn μ1 o1 σ1 (x4 + 8)) (fun r => r = 1)) : zok (fLaw_1281 xs L kn μ o σ x4) (fun r => r = 1) := by
  unfold fLaw_1281
  refine zok_ck (hz 1 (by decide) (by decide)) ?_
  refine zok_bhE (l_wave hC) (fun o3 s4 _ e2 p1 => ?_)
  refine zok_ck (hz 1 (by decide) (by decide)) ?_
  refine zok_biE (m_wave hM) (fun s7 _ e6 p5 => ?_)
  have d8 := w_wave hR hA hM.pic _ _ e2 e6
  have R6 := r_wave hR _ _ e2 e6
  refine zok_thrown ?_
  refine zok_if (fun _ => ?_) (fun q => absurd d8.1 q)
  refine zok_if (fun q9 => ?_) (fun q9 => ?_)
  · refine zok_if (fun _ => ?_) (fun q => absurd (z_lgc (by rw [Int32.toInt_toInt64]; exact d8.2 q9)) q)
    refine zok_bv (fun v8 e8 => ?_)
    subst e8
    exact hK _ _ _ _ _ (zRM.mono p5 (by omega) hb) p1 (zAlj.mono R6 (by omega))
  · refine zok_bv (fun v8 e8 => ?_)
    subst e8
    exact hK _ _ _ _ _ (zRM.mono p5 (by omega) hb) p1 (zAlj.mono R6 (by omega))
theorem q_fLaw_1337 {K n k s h A : Int} {xs : Nat → Int32} {L : Nat} {kn : zSt → (Nat → Int64) → zSt → Int32 → Option Int32} {μ σ : zSt} {o : Nat → Int64} {x4 : Int32} (hM : zRM K n k s μ) (hC : zRC n h s σ) (hR : zAlj zJq A σ μ) (hA : A ≤ 1000000000) (hb : K + 2100000 ≤ 268435456) (hz : ∀ j : Int32, 0 ≤ j.toInt → j.toInt ≤ 7 → zin (x4 + j) L = true) (hK : ∀ (μ1 : zSt) (o1 : Nat → Int64) (σ1 : zSt) (n s : Int), zRM (K + 2100000) n k s μ1 → zRC n h s σ1 → zAlj zJq (A + 1000000) σ1 μ1 → zok (kn μ1 o1 σ1 (x4 + 8)) (fun r => r = 1)) : zok (fLaw_1337 xs L kn μ o σ x4) (fun r => r = 1) := by
  unfold fLaw_1337
  refine zok_ck (hz 1 (by decide) (by decide)) ?_
  refine zok_bhE (l_sound hC) (fun o3 s4 _ e2 p1 => ?_)
  refine zok_ck (hz 1 (by decide) (by decide)) ?_
  refine zok_biE (m_sound hM) (fun s7 _ e6 p5 => ?_)
  have R6 := r_sound hR _ _ e2 e6
  refine zok_bv (fun v8 e8 => ?_)
  subst e8
  exact hK _ _ _ _ _ (zRM.mono p5 (by omega) hb) p1 (zAlj.mono R6 (by omega))
theorem q_fLaw_1365 {K n k s h A : Int} {xs : Nat → Int32} {L : Nat} {kn : zSt → (Nat → Int64) → zSt → Int32 → Option Int32} {μ σ : zSt} {o : Nat → Int64} {x4 : Int32} (hM : zRM K n k s μ) (hC : zRC n h s σ) (hR : zAlj zJq A σ μ) (hA : A ≤ 1000000000) (hb : K + 2100000 ≤ 268435456) (hz : ∀ j : Int32, 0 ≤ j.toInt → j.toInt ≤ 7 → zin (x4 + j) L = true) (hK : ∀ (μ1 : zSt) (o1 : Nat → Int64) (σ1 : zSt) (n s : Int), zRM (K + 2100000) n k s μ1 → zRC n h s σ1 → zAlj zJq (A + 1000000) σ1 μ1 → zok (kn μ1 o1 σ1 (x4 + 8)) (fun r => r = 1)) : zok (fLaw_1365 xs L kn μ o σ x4) (fun r => r = 1) := by
  unfold fLaw_1365
  refine zok_ck (hz 1 (by decide) (by decide)) ?_
  refine zok_biE (c_trace hC) (fun s3 _ e2 p1 => ?_)
  refine zok_ck (hz 1 (by decide) (by decide)) ?_
  refine zok_biE (m_trace hM) (fun s6 _ e5 p4 => ?_)
  have R6 := gj_trace hR _ _ e2 e5
  refine zok_bv (fun v8 e8 => ?_)
  subst e8
  exact hK _ _ _ _ _ (zRM.mono p4 (by omega) hb) p1 (zAlj.mono R6 (by omega))
theorem q_fLaw_1390 {K n k s h A : Int} {xs : Nat → Int32} {L : Nat} {kn : zSt → (Nat → Int64) → zSt → Int32 → Option Int32} {μ σ : zSt} {o : Nat → Int64} {x4 : Int32} (hM : zRM K n k s μ) (hC : zRC n h s σ) (hR : zAlj zJq A σ μ) (hA : A ≤ 1000000000) (hb : K + 2100000 ≤ 268435456) (hz : ∀ j : Int32, 0 ≤ j.toInt → j.toInt ≤ 7 → zin (x4 + j) L = true) (hK : ∀ (μ1 : zSt) (o1 : Nat → Int64) (σ1 : zSt) (n s : Int), zRM (K + 2100000) n k s μ1 → zRC n h s σ1 → zAlj zJq (A + 1000000) σ1 μ1 → zok (kn μ1 o1 σ1 (x4 + 8)) (fun r => r = 1)) : zok (fLaw_1390 xs L kn μ o σ x4) (fun r => r = 1) := by
  unfold fLaw_1390
  refine zok_ck (hz 1 (by decide) (by decide)) ?_
  refine zok_bhE (l_look hC) (fun o3 s4 _ e2 p1 => ?_)
  refine zok_ck (hz 1 (by decide) (by decide)) ?_
  refine zok_bllE (m_look hM) (fun s7 _ e6 p5 => ?_)
  have R6 := r_look hR _ _ e2 e6
  refine zok_bv (fun v8 e8 => ?_)
  subst e8
  exact hK _ _ _ _ _ (zRM.mono p5 (by omega) hb) p1 (zAlj.mono R6 (by omega))
theorem q_fLaw_1418 {K n k s h A : Int} {xs : Nat → Int32} {L : Nat} {kn : zSt → (Nat → Int64) → zSt → Int32 → Option Int32} {μ σ : zSt} {o : Nat → Int64} {x4 : Int32} (hM : zRM K n k s μ) (hC : zRC n h s σ) (hR : zAlj zJq A σ μ) (hA : A ≤ 1000000000) (hb : K + 2100000 ≤ 268435456) (hz : ∀ j : Int32, 0 ≤ j.toInt → j.toInt ≤ 7 → zin (x4 + j) L = true) (hK : ∀ (μ1 : zSt) (o1 : Nat → Int64) (σ1 : zSt) (n s : Int), zRM (K + 2100000) n k s μ1 → zRC n h s σ1 → zAlj zJq (A + 1000000) σ1 μ1 → zok (kn μ1 o1 σ1 (x4 + 8)) (fun r => r = 1)) : zok (fLaw_1418 xs L kn μ o σ x4) (fun r => r = 1) := by
  unfold fLaw_1418
  refine zok_bv (fun v8 e8 => ?_)
  subst e8
  exact hK _ _ _ _ _ (zRM.mono hM (by omega) hb) hC (zAlj.mono hR (by omega))
end ZJN23
section ZJN24
theorem z_at8 {L : Nat} (hL : L ≤ 513) {x4 : Int32} {c : Nat} (e : x4.toInt = 1 + 8 * (c : Int)) (hc : c ≤ 64) (q : ¬ Int32.ofNat L - 8 < x4) : c ≤ 63 ∧ (∀ j : Int32, 0 ≤ j.toInt → j.toInt ≤ 7 → zin (x4 + j) L = true) ∧ zin x4 L = true ∧ (x4 + 8).toInt = 1 + 8 * ((c + 1 : Nat) : Int) := by
  have eL : (Int32.ofNat L).toInt = L := Int32.toInt_ofNat_of_lt (by omega)
  have c8 : (8 : Int32).toInt = 8 := rfl
  have r8 : zr 8 8 (8 : Int32) := zr_c (by decide)
  have rL : zr 0 513 (Int32.ofNat L) := ⟨by omega, by omega⟩
  have r4 : zr 1 513 x4 := ⟨by omega, by omega⟩
  have t := z_tsub rL r8 (by decide)
  have q1 := Int32.le_iff_toInt_le.mp (z_nlt q)
  rw [t, eL, c8, e] at q1
  have t8 := z_tadd r4 r8 (by decide)
  refine ⟨by omega, fun j j1 j2 => ?_, zin_ok (lo := x4.toInt) (hi := x4.toInt) ⟨Int.le_refl _, Int.le_refl _⟩ (by omega), by rw [t8, e, c8]; omega⟩
  have rj : zr 0 7 j := ⟨j1, j2⟩
  have tj := z_tadd r4 rj (by decide)
  exact zin_ok (lo := (x4 + j).toInt) (hi := (x4 + j).toInt) ⟨Int.le_refl _, Int.le_refl _⟩ (by omega)
theorem z_loop {L : Nat} (hL : L ≤ 513) {xs : Nat → Int32} {k h : Int} : ∀ (n c : Nat) (μ : zSt) (o : Nat → Int64) (σ : zSt) (x4 : Int32) (a d : Int), x4.toInt = 1 + 8 * (c : Int) → c + n = 66 → c ≤ 64 → zRM (2100000 * (c : Int)) a k d μ → zRC a h d σ → zAlj zJq (1000000 * (c : Int)) σ μ → zok (fLaw xs L n μ o σ x4) (fun r => r = 1) := by
  intro n
  induction n with
  | zero => intro c μ o σ x4 a d e hn hc; exfalso; omega
  | succ n ih =>
    intro c μ o σ x4 a d e hn hc hM hC hR
    show zok (fLaw_body xs L (fLaw xs L n) μ o σ x4) _
    unfold fLaw_body
    refine zok_if (fun _ => zok_some rfl) (fun q => ?_)
    obtain ⟨c1, hz, h0, e8⟩ := z_at8 hL e hc q
    have hb : 2100000 * (c : Int) + 2100000 ≤ 268435456 := by omega
    have hA : 1000000 * (c : Int) ≤ 1000000000 := by omega
    have hK : ∀ (μ1 : zSt) (o1 : Nat → Int64) (σ1 : zSt) (a d : Int), zRM (2100000 * (c : Int) + 2100000) a k d μ1 → zRC a h d σ1 → zAlj zJq (1000000 * (c : Int) + 1000000) σ1 μ1 → zok (fLaw xs L n μ1 o1 σ1 (x4 + 8)) (fun r => r = 1) := fun μ1 o1 σ1 a d h1 h2 h3 => by
      refine ih (c + 1) μ1 o1 σ1 (x4 + 8) a d e8 (by omega) (by omega) ?_ h2 ?_
      · rw [show 2100000 * ((c + 1 : Nat) : Int) = 2100000 * (c : Int) + 2100000 by omega]
        exact h1
      · rw [show 1000000 * ((c + 1 : Nat) : Int) = 1000000 * (c : Int) + 1000000 by omega]
        exact h3
    refine zok_ck h0 (zok_bv (fun t _ => ?_))
    refine zok_if (fun _ => q_fLaw_208 hM hC hR hA hb hz hK) (fun _ => ?_)
    refine zok_if (fun _ => q_fLaw_372 hM hC hR hA hb hz hK) (fun _ => ?_)
    refine zok_if (fun _ => q_fLaw_400 hM hC hR hA hb hz hK) (fun _ => ?_)
    refine zok_if (fun _ => q_fLaw_469 hM hC hR hA hb hz hK) (fun _ => ?_)
    refine zok_if (fun _ => q_fLaw_482 hM hC hR hA hb hz hK) (fun _ => ?_)
    refine zok_if (fun _ => q_fLaw_510 hM hC hR hA hb hz hK) (fun _ => ?_)
    refine zok_if (fun _ => q_fLaw_538 hM hC hR hA hb hz hK) (fun _ => ?_)
    refine zok_if (fun _ => q_fLaw_566 hM hC hR hA hb hz hK) (fun _ => ?_)
    refine zok_if (fun _ => q_fLaw_577 hM hC hR hA hb hz hK) (fun _ => ?_)
    refine zok_if (fun _ => q_fLaw_590 hM hC hR hA hb hz hK) (fun _ => ?_)
    refine zok_if (fun _ => q_fLaw_627 hM hC hR hA hb hz hK) (fun _ => ?_)
    refine zok_if (fun _ => q_fLaw_666 hM hC hR hA hb hz hK) (fun _ => ?_)
    refine zok_if (fun _ => q_fLaw_719 hM hC hR hA hb hz hK) (fun _ => ?_)
    refine zok_if (fun _ => q_fLaw_771 hM hC hR hA hb hz hK) (fun _ => ?_)
    refine zok_if (fun _ => q_fLaw_796 hM hC hR hA hb hz hK) (fun _ => ?_)
    refine zok_if (fun _ => q_fLaw_824 hM hC hR hA hb hz hK) (fun _ => ?_)
    refine zok_if (fun _ => q_fLaw_880 hM hC hR hA hb hz hK) (fun _ => ?_)
    refine zok_if (fun _ => q_fLaw_891 hM hC hR hA hb hz hK) (fun _ => ?_)
    refine zok_if (fun _ => q_fLaw_904 hM hC hR hA hb hz hK) (fun _ => ?_)
    refine zok_if (fun _ => q_fLaw_932 hM hC hR hA hb hz hK) (fun _ => ?_)
    refine zok_if (fun _ => q_fLaw_969 hM hC hR hA hb hz hK) (fun _ => ?_)
    refine zok_if (fun _ => q_fLaw_994 hM hC hR hA hb hz hK) (fun _ => ?_)
    refine zok_if (fun _ => q_fLaw_1029 hM hC hR hA hb hz hK) (fun _ => ?_)
    refine zok_if (fun _ => q_fLaw_1054 hM hC hR hA hb hz hK) (fun _ => ?_)
    refine zok_if (fun _ => q_fLaw_1089 hM hC hR hA hb hz hK) (fun _ => ?_)
    refine zok_if (fun _ => q_fLaw_1117 hM hC hR hA hb hz hK) (fun _ => ?_)
    refine zok_if (fun _ => q_fLaw_1128 hM hC hR hA hb hz hK) (fun _ => ?_)
    refine zok_if (fun _ => q_fLaw_1153 hM hC hR hA hb hz hK) (fun _ => ?_)
    refine zok_if (fun _ => q_fLaw_1181 hM hC hR hA hb hz hK) (fun _ => ?_)
    refine zok_if (fun _ => q_fLaw_1221 hM hC hR hA hb hz hK) (fun _ => ?_)
    refine zok_if (fun _ => q_fLaw_1249 hM hC hR hA hb hz hK) (fun _ => ?_)
    refine zok_if (fun _ => q_fLaw_1265 hM hC hR hA hb hz hK) (fun _ => ?_)
    refine zok_if (fun _ => q_fLaw_1281 hM hC hR hA hb hz hK) (fun _ => ?_)
    refine zok_if (fun _ => q_fLaw_1337 hM hC hR hA hb hz hK) (fun _ => ?_)
    refine zok_if (fun _ => q_fLaw_1365 hM hC hR hA hb hz hK) (fun _ => ?_)
    refine zok_if (fun _ => q_fLaw_1390 hM hC hR hA hb hz hK) (fun _ => ?_)
    exact q_fLaw_1418 hM hC hR hA hb hz hK
theorem zKS_fresh {k : Int32} : zKS 0 (zG0 k) := by
  have v : ∀ i, ¬ i = 1 → zG0 k i = 0 := fun i h1 => by
    unfold zG0 zset
    split
    · rfl
    · split
      · rfl
      · first | rfl | rw [if_neg h1]
  have lb := zln_b (zG0 k)
  unfold zKS zJ
  rw [v 102 (by decide), v 105 (by decide), v 106 (by decide), v 6 (by decide), v 7 (by decide), v 8 (by decide)]
  omega
theorem z_owed {L : Nat} {xs : Nat → Int32} (hL : L ≤ 513) : zOwed L xs := by
  obtain ⟨σ4, e4, i4⟩ := z_c4
  obtain ⟨σ5, e5, i5⟩ := z_c5
  obtain ⟨σ9, e9, i9⟩ := z_c9
  obtain ⟨σ1, e1, i1⟩ := s_freshM (zKd_r (zCell L xs))
  have hC := s_freshC i4 i5 (fun v => (Classical.choose_spec (z_c6 v)).2) i9 (k := zCell L xs)
  have z0 : zG0 (zKd (zCell L xs)) 0 = 0 := by unfold zG0; rw [zset_ne (by decide), zset_ne (by decide), zset_ne (by decide)]
  have z2 : zG0 (zKd (zCell L xs)) 2 = 0 := by unfold zG0; rw [zset_ne (by decide), zset_ne (by decide), zset_ne (by decide)]
  have h0 : zRM (2100000 * ((0 : Nat) : Int)) 0 (zG0 (zKd (zCell L xs)) 1) 0 σ1 := by
    rw [show (2100000 * ((0 : Nat) : Int)) = 0 by decide]
    exact ⟨by decide, _, i1, zG0_J (zKd_r _), zKS_fresh, z0, rfl, z2⟩
  have h1 : zRC 0 (zH0 (zCell L xs) 2) 0 (zC1 (zCell L xs) σ4 σ5 (fun v => Classical.choose (z_c6 v)) σ9) := ⟨_, hC, rfl, rfl, rfl⟩
  obtain ⟨r, e, h⟩ := z_loop hL (xs := xs) 66 0 σ1 (fun _ => 0) _ 1 _ _ (by decide) rfl (by decide) h0 h1 (by rw [show (1000000 * ((0 : Nat) : Int)) = 0 by decide]; exact z_freshJ2 rfl e4 e5 (fun v => (Classical.choose_spec (z_c6 v)).1) e9 e1)
  refine ⟨σ4, e4, σ5, e5, _, fun v => (Classical.choose_spec (z_c6 v)).1, σ9, e9, σ1, e1, 66, by decide, ?_⟩
  rw [e, h]
end ZJN24
