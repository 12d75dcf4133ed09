section ZJN0
/-! SOUNDS OVER CALLS -/
section ZSV
variable {σ μ s t : zSt} {B : Int × Int × Int} {K N : Int} {J : { J : Int → zSt → zSt → Prop // zJw J }}
noncomputable def zJo (J : { J : Int → zSt → zSt → Prop // zJw J }) : { J : Int → zSt → zSt → Prop // zJok J } := ⟨J.1, J.2.1⟩
/-- both machines, what was kept, and sounds -/
noncomputable def zAlj (J : { J : Int → zSt → zSt → Prop // zJw J }) (K : Int) (σ μ : zSt) : Prop := zAll K σ μ ∧ J.1 (64 * K) σ μ ∧ (¬ σ.1 0 11 = 0 → J.1 (64 * K) (zKsn σ) (zKtn μ))
theorem zAlj.go (h : zAlj J K σ μ) {K' : Int} (hK : K ≤ K') (x : zAll K' s t) (y : J.1 (64 * K') s t) (f : ¬ s.1 0 11 = 0 → ¬ σ.1 0 11 = 0 ∧ zSc (zKsn σ) (zKsn s) ∧ zSrm (zKtn μ) (zKtn t)) : zAlj J K' s t := by
  refine ⟨x, y, fun q => ?_⟩
  obtain ⟨f1, f2, f3⟩ := f q
  exact J.2.2.1 _ _ _ _ _ (J.2.1.2.2.1 _ _ _ _ (by omega) (h.2.2 f1)) f2 f3
theorem bj_reset (hj : J.1 N s t) : zp2 (fX11_reset s ) (fX12_reset t ) (fun r r' => J.1 N r r') := by
  unfold fX11_reset fX12_reset
  refine zp2_bvr (fun t1 e1 => ?_)
  have h1 : J.1 N s t1 := by rw [e1]; exact J.2.1.th hj
  exact zp2_buu (P := fun r r' => zCw s r ∧ zAw t1 r') (zp2_of c_clr m_anewx (fun _ _ p q => ⟨p, q⟩)) (fun r r' q => zp2_some (J.2.2.2.1 _ _ _ _ _ h1 q.1.x q.2.x))
/-! kept by the class -/
theorem zWf_ne {k p q k' : Nat} (h : ¬ k' = k) : (zWf s k p q).1 k' = s.1 k' := zsi_ne h
theorem zWf_ej {k p q : Nat} : (zWf s k p q).1 k p = s.1 k q := zsi_ej
theorem zWf_nj {k p q j : Nat} (h : ¬ j = p) : (zWf s k p q).1 k j = s.1 k j := zsi_nj h
theorem zWf_2 {k p q : Nat} : (zWf s k p q).2 = s.2 := rfl
theorem zcpl_1 {a b c d e : Nat} : (zcpl s a b c d e).1 = s.1 := rfl
theorem zcpi_2 {a b c d e : Nat} : (zcpi s a b c d e).2 = s.2 := rfl
theorem zKept_11_2 : (zKept σ).1 11 2 = σ.1 11 2 := by
  unfold zKept
  rw [zcpi_ne (by decide), zcpi_ne (by decide), zWf_ne (by decide), zWf_ne (by decide), zcpl_1, zWf_nj (by decide), zWf_nj (by decide), zcpl_1, zcpl_1, zcpi_ne (by decide), zcpi_ne (by decide), zcpi_ne (by decide), zcpi_ne (by decide), zcpi_ne (by decide), zcpi_ne (by decide), zcpi_ne (by decide), zcpi_ne (by decide), zcpi_ne (by decide), zcpi_ne (by decide)]
theorem zKept_11_3 : (zKept σ).1 11 3 = σ.1 11 3 := by
  unfold zKept
  rw [zcpi_ne (by decide), zcpi_ne (by decide), zWf_ne (by decide), zWf_ne (by decide), zcpl_1, zWf_nj (by decide), zWf_nj (by decide), zcpl_1, zcpl_1, zcpi_ne (by decide), zcpi_ne (by decide), zcpi_ne (by decide), zcpi_ne (by decide), zcpi_ne (by decide), zcpi_ne (by decide), zcpi_ne (by decide), zcpi_ne (by decide), zcpi_ne (by decide), zcpi_ne (by decide)]
theorem zKept_11_4 : (zKept σ).1 11 4 = σ.1 11 2 := by
  unfold zKept
  rw [zcpi_ne (by decide), zcpi_ne (by decide), zWf_ne (by decide), zWf_ne (by decide), zcpl_1, zWf_nj (by decide), zWf_ej, zcpl_1, zcpl_1, zcpi_ne (by decide), zcpi_ne (by decide), zcpi_ne (by decide), zcpi_ne (by decide), zcpi_ne (by decide), zcpi_ne (by decide), zcpi_ne (by decide), zcpi_ne (by decide), zcpi_ne (by decide), zcpi_ne (by decide)]
theorem zKept_11_5 : (zKept σ).1 11 5 = σ.1 11 3 := by
  unfold zKept
  rw [zcpi_ne (by decide), zcpi_ne (by decide), zWf_ne (by decide), zWf_ne (by decide), zcpl_1, zWf_ej, zWf_nj (by decide), zcpl_1, zcpl_1, zcpi_ne (by decide), zcpi_ne (by decide), zcpi_ne (by decide), zcpi_ne (by decide), zcpi_ne (by decide), zcpi_ne (by decide), zcpi_ne (by decide), zcpi_ne (by decide), zcpi_ne (by decide), zcpi_ne (by decide)]
theorem zKept_12_2 : (zKept σ).1 12 2 = σ.1 12 2 := by
  unfold zKept
  rw [zcpi_ne (by decide), zcpi_ne (by decide), zWf_nj (by decide), zWf_nj (by decide), zcpl_1, zWf_ne (by decide), zWf_ne (by decide), zcpl_1, zcpl_1, zcpi_ne (by decide), zcpi_ne (by decide), zcpi_ne (by decide), zcpi_ne (by decide), zcpi_ne (by decide), zcpi_ne (by decide), zcpi_ne (by decide), zcpi_ne (by decide), zcpi_ne (by decide), zcpi_ne (by decide)]
theorem zKept_12_3 : (zKept σ).1 12 3 = σ.1 12 3 := by
  unfold zKept
  rw [zcpi_ne (by decide), zcpi_ne (by decide), zWf_nj (by decide), zWf_nj (by decide), zcpl_1, zWf_ne (by decide), zWf_ne (by decide), zcpl_1, zcpl_1, zcpi_ne (by decide), zcpi_ne (by decide), zcpi_ne (by decide), zcpi_ne (by decide), zcpi_ne (by decide), zcpi_ne (by decide), zcpi_ne (by decide), zcpi_ne (by decide), zcpi_ne (by decide), zcpi_ne (by decide)]
theorem zKept_12_4 : (zKept σ).1 12 4 = σ.1 12 2 := by
  unfold zKept
  rw [zcpi_ne (by decide), zcpi_ne (by decide), zWf_nj (by decide), zWf_ej, zcpl_1, zWf_ne (by decide), zWf_ne (by decide), zcpl_1, zcpl_1, zcpi_ne (by decide), zcpi_ne (by decide), zcpi_ne (by decide), zcpi_ne (by decide), zcpi_ne (by decide), zcpi_ne (by decide), zcpi_ne (by decide), zcpi_ne (by decide), zcpi_ne (by decide), zcpi_ne (by decide)]
theorem zKept_12_5 : (zKept σ).1 12 5 = σ.1 12 3 := by
  unfold zKept
  rw [zcpi_ne (by decide), zcpi_ne (by decide), zWf_ej, zWf_nj (by decide), zcpl_1, zWf_ne (by decide), zWf_ne (by decide), zcpl_1, zcpl_1, zcpi_ne (by decide), zcpi_ne (by decide), zcpi_ne (by decide), zcpi_ne (by decide), zcpi_ne (by decide), zcpi_ne (by decide), zcpi_ne (by decide), zcpi_ne (by decide), zcpi_ne (by decide), zcpi_ne (by decide)]
theorem zKept_47 {j : Nat} (h : j < 4096) : (zKept σ).2 47 j = σ.2 46 j := by
  unfold zKept
  rw [zcpi_2, zcpi_2, zWf_2, zWf_2, zcpl_ne (by decide), zWf_2, zWf_2, zcpl_eq, if_pos h, zcpl_ne (by decide), zcpi_2, zcpi_2, zcpi_2, zcpi_2, zcpi_2, zcpi_2, zcpi_2, zcpi_2, zcpi_2, zcpi_2]
theorem zKept_49 {j : Nat} (h : j < 4096) : (zKept σ).2 49 j = σ.2 48 j := by
  unfold zKept
  rw [zcpi_2, zcpi_2, zWf_2, zWf_2, zcpl_eq, if_pos h, zWf_2, zWf_2, zcpl_ne (by decide), zcpl_ne (by decide), zcpi_2, zcpi_2, zcpi_2, zcpi_2, zcpi_2, zcpi_2, zcpi_2, zcpi_2, zcpi_2, zcpi_2]
theorem zBack_11_2 : (zBack σ).1 11 2 = σ.1 11 4 := by
  unfold zBack
  rw [zcpi_ne (by decide), zcpi_ne (by decide), zWf_ne (by decide), zWf_ne (by decide), zcpl_1, zWf_nj (by decide), zWf_ej, zcpl_1, zcpl_1, zcpi_ne (by decide), zcpi_ne (by decide), zcpi_ne (by decide), zcpi_ne (by decide), zcpi_ne (by decide), zcpi_ne (by decide), zcpi_ne (by decide), zcpi_ne (by decide), zcpi_ne (by decide), zcpi_ne (by decide)]
theorem zBack_11_3 : (zBack σ).1 11 3 = σ.1 11 5 := by
  unfold zBack
  rw [zcpi_ne (by decide), zcpi_ne (by decide), zWf_ne (by decide), zWf_ne (by decide), zcpl_1, zWf_ej, zWf_nj (by decide), zcpl_1, zcpl_1, zcpi_ne (by decide), zcpi_ne (by decide), zcpi_ne (by decide), zcpi_ne (by decide), zcpi_ne (by decide), zcpi_ne (by decide), zcpi_ne (by decide), zcpi_ne (by decide), zcpi_ne (by decide), zcpi_ne (by decide)]
theorem zBack_11_4 : (zBack σ).1 11 4 = σ.1 11 4 := by
  unfold zBack
  rw [zcpi_ne (by decide), zcpi_ne (by decide), zWf_ne (by decide), zWf_ne (by decide), zcpl_1, zWf_nj (by decide), zWf_nj (by decide), zcpl_1, zcpl_1, zcpi_ne (by decide), zcpi_ne (by decide), zcpi_ne (by decide), zcpi_ne (by decide), zcpi_ne (by decide), zcpi_ne (by decide), zcpi_ne (by decide), zcpi_ne (by decide), zcpi_ne (by decide), zcpi_ne (by decide)]
theorem zBack_11_5 : (zBack σ).1 11 5 = σ.1 11 5 := by
  unfold zBack
  rw [zcpi_ne (by decide), zcpi_ne (by decide), zWf_ne (by decide), zWf_ne (by decide), zcpl_1, zWf_nj (by decide), zWf_nj (by decide), zcpl_1, zcpl_1, zcpi_ne (by decide), zcpi_ne (by decide), zcpi_ne (by decide), zcpi_ne (by decide), zcpi_ne (by decide), zcpi_ne (by decide), zcpi_ne (by decide), zcpi_ne (by decide), zcpi_ne (by decide), zcpi_ne (by decide)]
theorem zBack_12_2 : (zBack σ).1 12 2 = σ.1 12 4 := by
  unfold zBack
  rw [zcpi_ne (by decide), zcpi_ne (by decide), zWf_nj (by decide), zWf_ej, zcpl_1, zWf_ne (by decide), zWf_ne (by decide), zcpl_1, zcpl_1, zcpi_ne (by decide), zcpi_ne (by decide), zcpi_ne (by decide), zcpi_ne (by decide), zcpi_ne (by decide), zcpi_ne (by decide), zcpi_ne (by decide), zcpi_ne (by decide), zcpi_ne (by decide), zcpi_ne (by decide)]
theorem zBack_12_3 : (zBack σ).1 12 3 = σ.1 12 5 := by
  unfold zBack
  rw [zcpi_ne (by decide), zcpi_ne (by decide), zWf_ej, zWf_nj (by decide), zcpl_1, zWf_ne (by decide), zWf_ne (by decide), zcpl_1, zcpl_1, zcpi_ne (by decide), zcpi_ne (by decide), zcpi_ne (by decide), zcpi_ne (by decide), zcpi_ne (by decide), zcpi_ne (by decide), zcpi_ne (by decide), zcpi_ne (by decide), zcpi_ne (by decide), zcpi_ne (by decide)]
theorem zBack_12_4 : (zBack σ).1 12 4 = σ.1 12 4 := by
  unfold zBack
  rw [zcpi_ne (by decide), zcpi_ne (by decide), zWf_nj (by decide), zWf_nj (by decide), zcpl_1, zWf_ne (by decide), zWf_ne (by decide), zcpl_1, zcpl_1, zcpi_ne (by decide), zcpi_ne (by decide), zcpi_ne (by decide), zcpi_ne (by decide), zcpi_ne (by decide), zcpi_ne (by decide), zcpi_ne (by decide), zcpi_ne (by decide), zcpi_ne (by decide), zcpi_ne (by decide)]
theorem zBack_12_5 : (zBack σ).1 12 5 = σ.1 12 5 := by
  unfold zBack
  rw [zcpi_ne (by decide), zcpi_ne (by decide), zWf_nj (by decide), zWf_nj (by decide), zcpl_1, zWf_ne (by decide), zWf_ne (by decide), zcpl_1, zcpl_1, zcpi_ne (by decide), zcpi_ne (by decide), zcpi_ne (by decide), zcpi_ne (by decide), zcpi_ne (by decide), zcpi_ne (by decide), zcpi_ne (by decide), zcpi_ne (by decide), zcpi_ne (by decide), zcpi_ne (by decide)]
theorem zBack_46 {j : Nat} (h : j < 4096) : (zBack σ).2 46 j = σ.2 47 j := by
  unfold zBack
  rw [zcpi_2, zcpi_2, zWf_2, zWf_2, zcpl_ne (by decide), zWf_2, zWf_2, zcpl_eq, if_pos h, zcpl_ne (by decide), zcpi_2, zcpi_2, zcpi_2, zcpi_2, zcpi_2, zcpi_2, zcpi_2, zcpi_2, zcpi_2, zcpi_2]
theorem zBack_48 {j : Nat} (h : j < 4096) : (zBack σ).2 48 j = σ.2 49 j := by
  unfold zBack
  rw [zcpi_2, zcpi_2, zWf_2, zWf_2, zcpl_eq, if_pos h, zWf_2, zWf_2, zcpl_ne (by decide), zcpl_ne (by decide), zcpi_2, zcpi_2, zcpi_2, zcpi_2, zcpi_2, zcpi_2, zcpi_2, zcpi_2, zcpi_2, zcpi_2]
theorem zsi_ne0 {k j : Nat} {v w : Int32} (hk : ¬ k = 0) (h : s.1 k j = w) : (zsi s 0 11 v).1 k j = w := (congrFun (zsi_ne hk) j).trans h
theorem zKsn_30 {j : Nat} : (zKsn s).1 30 j = s.1 31 j := rfl
theorem zKsn_32 {j : Nat} : (zKsn s).1 32 j = s.1 33 j := rfl
theorem zKsn_11 {j : Nat} : (zKsn s).1 11 j = s.1 11 (j + 2) := rfl
theorem zKsn_12 {j : Nat} : (zKsn s).1 12 j = s.1 12 (j + 2) := rfl
theorem zKsn_38 {j : Nat} : (zKsn s).2 38 j = s.2 39 j := rfl
theorem zKsn_46 {j : Nat} : (zKsn s).2 46 j = s.2 47 j := rfl
theorem zKsn_48 {j : Nat} : (zKsn s).2 48 j = s.2 49 j := rfl
theorem zsi_20 {k j : Nat} {v : Int32} : (zsi s k j v).2 = s.2 := rfl
theorem zKept_sc {v : Int32} : zSc σ (zsi (zKept σ) 0 11 v) := by
  obtain ⟨q1, q2⟩ := zKept_q (σ := σ)
  have q : zQ [16, 18, 20, 22, 24, 26, 31, 33, 35, 37, 41, 43, 11, 12] [(0, 11, 11)] [39, 47, 49] [] σ (zsi (zKept σ) 0 11 v) := zQ.wi q1 rfl
  have e0 := q.ro (k := 30) rfl
  have e2 := q.ro (k := 32) rfl
  have e8 := q.rlo (k := 38) rfl
  have e6 := q.rlo (k := 46) rfl
  have e9 := q.rlo (k := 48) rfl
  refine ⟨fun j _ _ => by rw [e0], fun j _ _ => by rw [e0], fun j _ _ => by rw [e2], fun j _ _ => by rw [e2], fun j x y => ?_, fun j x y => ?_, fun j _ _ => by rw [e8], fun j _ _ => by rw [e8], fun j _ => by rw [e6], fun j _ => by rw [e9]⟩
  · rcases (show j = 2 ∨ j = 3 by omega) with rfl | rfl
    · exact zsi_ne0 (by decide) zKept_11_2
    · exact zsi_ne0 (by decide) zKept_11_3
  · rcases (show j = 2 ∨ j = 3 by omega) with rfl | rfl
    · exact zsi_ne0 (by decide) zKept_12_2
    · exact zsi_ne0 (by decide) zKept_12_3
theorem zKept_kv {v : Int32} : zSc σ (zKsn (zsi (zKept σ) 0 11 v)) := by
  obtain ⟨q1, q2⟩ := zKept_q (σ := σ)
  have z31 : ∀ j : Nat, j < 19 → (zsi (zKept σ) 0 11 v).1 31 j = σ.1 30 j := fun j hj => by
    rw [zsi_ne (by decide)]
    exact q2 (31, 30, 19) (by decide +kernel) j hj
  have z33 : ∀ j : Nat, j < 272 → (zsi (zKept σ) 0 11 v).1 33 j = σ.1 32 j := fun j hj => by
    rw [zsi_ne (by decide)]
    exact q2 (33, 32, 272) (by decide +kernel) j hj
  refine ⟨fun j x y => ?_, fun j x y => ?_, fun j x y => ?_, fun j x y => ?_, fun j x y => ?_, fun j x y => ?_, fun j x y => ?_, fun j x y => ?_, fun j h => ?_, fun j h => ?_⟩
  · rw [zKsn_30]; exact z31 j (by omega)
  · rw [zKsn_30]; exact z31 j (by omega)
  · rw [zKsn_32]; exact z33 j (by omega)
  · rw [zKsn_32]; exact z33 j (by omega)
  · rcases (show j = 2 ∨ j = 3 by omega) with rfl | rfl
    · rw [zKsn_11]; exact zsi_ne0 (by decide) zKept_11_4
    · rw [zKsn_11]; exact zsi_ne0 (by decide) zKept_11_5
  · rcases (show j = 2 ∨ j = 3 by omega) with rfl | rfl
    · rw [zKsn_12]; exact zsi_ne0 (by decide) zKept_12_4
    · rw [zKsn_12]; exact zsi_ne0 (by decide) zKept_12_5
  · rw [zKsn_38, zsi_20]; exact zKept_l (by omega)
  · rw [zKsn_38, zsi_20]; exact zKept_l (by omega)
  · rw [zKsn_46, zsi_20]; exact zKept_47 h
  · rw [zKsn_48, zsi_20]; exact zKept_49 h
theorem zBack_sc : zSc (zKsn σ) (zBack σ) := by
  obtain ⟨q1, q2⟩ := zBack_q (σ := σ)
  have z30 : ∀ j : Nat, j < 19 → (zBack σ).1 30 j = σ.1 31 j := fun j hj => q2 (30, 31, 19) (by decide +kernel) j hj
  have z32 : ∀ j : Nat, j < 272 → (zBack σ).1 32 j = σ.1 33 j := fun j hj => q2 (32, 33, 272) (by decide +kernel) j hj
  refine ⟨fun j x y => ?_, fun j x y => ?_, fun j x y => ?_, fun j x y => ?_, fun j x y => ?_, fun j x y => ?_, fun j x y => ?_, fun j x y => ?_, fun j h => ?_, fun j h => ?_⟩
  · rw [zKsn_30]; exact z30 j (by omega)
  · rw [zKsn_30]; exact z30 j (by omega)
  · rw [zKsn_32]; exact z32 j (by omega)
  · rw [zKsn_32]; exact z32 j (by omega)
  · rcases (show j = 2 ∨ j = 3 by omega) with rfl | rfl
    · rw [zKsn_11]; exact zBack_11_2
    · rw [zKsn_11]; exact zBack_11_3
  · rcases (show j = 2 ∨ j = 3 by omega) with rfl | rfl
    · rw [zKsn_12]; exact zBack_12_2
    · rw [zKsn_12]; exact zBack_12_3
  · rw [zKsn_38]; exact zBack_l (by omega)
  · rw [zKsn_38]; exact zBack_l (by omega)
  · rw [zKsn_46]; exact zBack_46 h
  · rw [zKsn_48]; exact zBack_48 h
theorem zBack_kv : zSc (zKsn σ) (zKsn (zBack σ)) := by
  obtain ⟨q1, q2⟩ := zBack_q (σ := σ)
  have e0 := q1.ro (k := 31) rfl
  have e2 := q1.ro (k := 33) rfl
  have e8 := q1.rlo (k := 39) rfl
  have e6 := q1.rlo (k := 47) rfl
  have e9 := q1.rlo (k := 49) rfl
  refine ⟨fun j _ _ => ?_, fun j _ _ => ?_, fun j _ _ => ?_, fun j _ _ => ?_, fun j x y => ?_, fun j x y => ?_, fun j _ _ => ?_, fun j _ _ => ?_, fun j _ => ?_, fun j _ => ?_⟩
  · rw [zKsn_30, zKsn_30, e0]
  · rw [zKsn_30, zKsn_30, e0]
  · rw [zKsn_32, zKsn_32, e2]
  · rw [zKsn_32, zKsn_32, e2]
  · rcases (show j = 2 ∨ j = 3 by omega) with rfl | rfl
    · rw [zKsn_11, zKsn_11]; exact zBack_11_4
    · rw [zKsn_11, zKsn_11]; exact zBack_11_5
  · rcases (show j = 2 ∨ j = 3 by omega) with rfl | rfl
    · rw [zKsn_12, zKsn_12]; exact zBack_12_4
    · rw [zKsn_12, zKsn_12]; exact zBack_12_5
  · rw [zKsn_38, zKsn_38, e8]
  · rw [zKsn_38, zKsn_38, e8]
  · rw [zKsn_46, zKsn_46, e6]
  · rw [zKsn_48, zKsn_48, e9]
/-! kept by the reference -/
theorem m_sv196v : ∀ (n i : Nat) (t : zSt), i ≤ 4096 → zQ [] [] [19, 20] [] μ t → (∀ j : Nat, j < i → t.2 19 j = μ.2 10 j ∧ t.2 20 j = μ.2 11 j) → zpc (fX12_save_196 n t (Int32.ofNat i)) (fun r => ∀ j : Nat, j < 4096 → r.2 19 j = μ.2 10 j ∧ r.2 20 j = μ.2 11 j) := by
  intro n
  induction n with
  | zero => intro i t _ _ _; exact zpc_none
  | succ n ih =>
    intro i t hi hd hin
    show zpc (fX12_save_196_body (fX12_save_196 n) t (Int32.ofNat i)) _
    unfold fX12_save_196_body
    refine zpc_if (fun q => zpc_some (fun j hj => hin j (by have := (z_ofL (k := 4096) (by omega) rfl).mp q; omega))) (fun q => ?_)
    have hi2 : i < 4096 := by
      have : ¬ 4096 ≤ i := fun z => q ((z_ofL (c := 4096) (k := 4096) (i := i) (by omega) rfl).mpr z)
      omega
    rw [z_ofC (by omega), z_ofS (by omega)]
    refine zpc_ck (zpc_ck (zpc_bv (fun t1 g1 => zpc_ck (zpc_ck (zpc_bv (fun t2 g2 => zpc_bv (fun x ex => ?_)))))))
    subst ex
    have a1 : ∀ j : Nat, t2.2 19 j = t1.2 19 j := fun j => by rw [g2]; exact zsl_off (fun q => absurd q.1 (by decide))
    have a2 : ∀ j : Nat, t1.2 20 j = t.2 20 j := fun j => by rw [g1]; exact zsl_off (fun q => absurd q.1 (by decide))
    refine ih (i + 1) t2 (by omega) (by rw [g2, g1]; exact zQ.wl (zQ.wl hd rfl) rfl) (fun j hj => ?_)
    by_cases z : j = i
    · rw [z]
      refine ⟨?_, ?_⟩
      · rw [a1, g1, zsl_ej]
        show t.2 10 i = μ.2 10 i
        rw [hd.rlo (k := 10) rfl]
      · rw [g2, zsl_ej]
        show t1.2 11 i = μ.2 11 i
        rw [g1, zsl_off (fun q => absurd q.1 (by decide)), hd.rlo (k := 11) rfl]
    · have y := hin j (by omega)
      refine ⟨?_, ?_⟩
      · rw [a1, g1, zsl_nj z]; exact y.1
      · rw [g2, zsl_nj z, a2]; exact y.2
theorem m_rs207v : ∀ (n i : Nat) (t : zSt), i ≤ 4096 → zQ [] [] [10, 11] [] μ t → (∀ j : Nat, j < i → t.2 10 j = μ.2 19 j ∧ t.2 11 j = μ.2 20 j) → zpc (fX12_restore_207 n t (Int32.ofNat i)) (fun r => ∀ j : Nat, j < 4096 → r.2 10 j = μ.2 19 j ∧ r.2 11 j = μ.2 20 j) := by
  intro n
  induction n with
  | zero => intro i t _ _ _; exact zpc_none
  | succ n ih =>
    intro i t hi hd hin
    show zpc (fX12_restore_207_body (fX12_restore_207 n) t (Int32.ofNat i)) _
    unfold fX12_restore_207_body
    refine zpc_if (fun q => zpc_some (fun j hj => hin j (by have := (z_ofL (k := 4096) (by omega) rfl).mp q; omega))) (fun q => ?_)
    have hi2 : i < 4096 := by
      have : ¬ 4096 ≤ i := fun z => q ((z_ofL (c := 4096) (k := 4096) (i := i) (by omega) rfl).mpr z)
      omega
    rw [z_ofC (by omega), z_ofS (by omega)]
    refine zpc_ck (zpc_ck (zpc_bv (fun t1 g1 => zpc_ck (zpc_ck (zpc_bv (fun t2 g2 => zpc_bv (fun x ex => ?_)))))))
    subst ex
    have a1 : ∀ j : Nat, t2.2 10 j = t1.2 10 j := fun j => by rw [g2]; exact zsl_off (fun q => absurd q.1 (by decide))
    have a2 : ∀ j : Nat, t1.2 11 j = t.2 11 j := fun j => by rw [g1]; exact zsl_off (fun q => absurd q.1 (by decide))
    refine ih (i + 1) t2 (by omega) (by rw [g2, g1]; exact zQ.wl (zQ.wl hd rfl) rfl) (fun j hj => ?_)
    by_cases z : j = i
    · rw [z]
      refine ⟨?_, ?_⟩
      · rw [a1, g1, zsl_ej]
        show t.2 19 i = μ.2 19 i
        rw [hd.rlo (k := 19) rfl]
      · rw [g2, zsl_ej]
        show t1.2 20 i = μ.2 20 i
        rw [g1, zsl_off (fun q => absurd q.1 (by decide)), hd.rlo (k := 20) rfl]
    · have y := hin j (by omega)
      refine ⟨?_, ?_⟩
      · rw [a1, g1, zsl_nj z]; exact y.1
      · rw [g2, zsl_nj z, a2]; exact y.2
theorem m_saveJ : zpc (fX12_save_12 zfuel μ 0) (fun r => ∀ j : Nat, j < 4096 → r.2 19 j = μ.2 10 j ∧ r.2 20 j = μ.2 11 j) := by
  refine m_sv12 (μ := μ) zfuel 0 μ (by decide) zQ.rf (fun j hj => absurd hj (by omega)) (fun u0 d0 v0 => ?_)
  refine m_sv39 (μ := u0) zfuel 0 u0 (by decide) zQ.rf (fun j hj => absurd hj (by omega)) (fun u1 d1 v1 => ?_)
  refine m_sv64 (μ := u1) zfuel 0 u1 (by decide) zQ.rf (fun j hj => absurd hj (by omega)) (fun u2 d2 v2 => ?_)
  refine m_sv91 (μ := u2) zfuel 0 u2 (by decide) zQ.rf (fun j hj => absurd hj (by omega)) (fun u3 d3 v3 => ?_)
  refine m_sv117 (μ := u3) zfuel 0 u3 (by decide) zQ.rf (fun j hj => absurd hj (by omega)) (fun u4 d4 v4 => ?_)
  refine m_sv144 (μ := u4) zfuel 0 u4 (by decide) zQ.rf (fun j hj => absurd hj (by omega)) (fun u5 d5 v5 => ?_)
  refine m_sv170 (μ := u5) zfuel 0 u5 (by decide) zQ.rf (fun j hj => absurd hj (by omega)) (fun u6 d6 v6 => ?_)
  refine zpc_mono (m_sv196v (μ := u6) zfuel 0 u6 (by decide) zQ.rf (fun j hj => absurd hj (by omega))) (fun r d7 j hj => ?_)
  refine ⟨?_, ?_⟩
  · rw [(d7 j hj).1, d6.rlo (k := 10) rfl, d5.rlo (k := 10) rfl, d4.rlo (k := 10) rfl, d3.rlo (k := 10) rfl, d2.rlo (k := 10) rfl, d1.rlo (k := 10) rfl, d0.rlo (k := 10) rfl]
  · rw [(d7 j hj).2, d6.rlo (k := 11) rfl, d5.rlo (k := 11) rfl, d4.rlo (k := 11) rfl, d3.rlo (k := 11) rfl, d2.rlo (k := 11) rfl, d1.rlo (k := 11) rfl, d0.rlo (k := 11) rfl]
theorem m_backJ : zpc (fX12_restore_23 zfuel μ 0) (fun r => ∀ j : Nat, j < 4096 → r.2 10 j = μ.2 19 j ∧ r.2 11 j = μ.2 20 j) := by
  refine m_rs23 (μ := μ) zfuel 0 μ (by decide) zQ.rf (fun j hj => absurd hj (by omega)) (fun u0 d0 v0 => ?_)
  refine m_rs50 (μ := u0) zfuel 0 u0 (by decide) zQ.rf (fun j hj => absurd hj (by omega)) (fun u1 d1 v1 => ?_)
  refine m_rs75 (μ := u1) zfuel 0 u1 (by decide) zQ.rf (fun j hj => absurd hj (by omega)) (fun u2 d2 v2 => ?_)
  refine m_rs102 (μ := u2) zfuel 0 u2 (by decide) zQ.rf (fun j hj => absurd hj (by omega)) (fun u3 d3 v3 => ?_)
  refine m_rs128 (μ := u3) zfuel 0 u3 (by decide) zQ.rf (fun j hj => absurd hj (by omega)) (fun u4 d4 v4 => ?_)
  refine m_rs155 (μ := u4) zfuel 0 u4 (by decide) zQ.rf (fun j hj => absurd hj (by omega)) (fun u5 d5 v5 => ?_)
  refine m_rs181 (μ := u5) zfuel 0 u5 (by decide) zQ.rf (fun j hj => absurd hj (by omega)) (fun u6 d6 v6 => ?_)
  refine zpc_mono (m_rs207v (μ := u6) zfuel 0 u6 (by decide) zQ.rf (fun j hj => absurd hj (by omega))) (fun r d7 j hj => ?_)
  refine ⟨?_, ?_⟩
  · rw [(d7 j hj).1, d6.rlo (k := 19) rfl, d5.rlo (k := 19) rfl, d4.rlo (k := 19) rfl, d3.rlo (k := 19) rfl, d2.rlo (k := 19) rfl, d1.rlo (k := 19) rfl, d0.rlo (k := 19) rfl]
  · rw [(d7 j hj).2, d6.rlo (k := 20) rfl, d5.rlo (k := 20) rfl, d4.rlo (k := 20) rfl, d3.rlo (k := 20) rfl, d2.rlo (k := 20) rfl, d1.rlo (k := 20) rfl, d0.rlo (k := 20) rfl]
theorem m_saveK : zpc (fX12_save μ ) (fun r => zQ [12, 14, 15, 16, 17, 18] [(0, 0, 0), (0, 19, 19)] [13, 19, 20] [] μ r ∧ zSrm μ (zKtn r)) := by
  unfold fX12_save
  refine zpc_bv (fun t1 e1 => zpc_ck (zpc_bv (fun t2 e2 => ?_)))
  have f1 : zQ [12, 14, 15, 16, 17, 18] [(0, 0, 0), (0, 19, 19)] [13, 19, 20] [] μ t2 := by rw [e2, e1]; exact zQ.wi (zQ.wi zQ.rf rfl) rfl
  refine zpc_mono (zpc_and (m_save' (μ := t2)) (m_saveJ (μ := t2))) (fun r p => ?_)
  obtain ⟨⟨b0, w3, w4, _⟩, w10⟩ := p
  have g3 : t2.1 3 = μ.1 3 := f1.ro (k := 3) rfl
  have g4 : t2.2 = μ.2 := by rw [e2, e1]; rfl
  refine ⟨f1.tr b0, ⟨fun j x y => ?_, fun j x y => ?_, fun j x y => ?_, fun j x y => ?_, fun j x y => ?_, fun j x y => ?_, fun j hj => ?_, fun j hj => ?_⟩⟩
  · show r.1 12 j = μ.1 3 j
    rw [w3 j (by omega), g3]
  · show r.1 12 j = μ.1 3 j
    rw [w3 j (by omega), g3]
  · show r.1 12 j = μ.1 3 j
    rw [w3 j (by omega), g3]
  · show r.1 12 j = μ.1 3 j
    rw [w3 j (by omega), g3]
  · show r.1 12 j = μ.1 3 j
    rw [w3 j (by omega), g3]
  · show r.2 13 j = μ.2 4 j
    rw [w4 j (by omega), g4]
  · show r.2 19 j = μ.2 10 j
    rw [(w10 j hj).1, g4]
  · show r.2 20 j = μ.2 11 j
    rw [(w10 j hj).2, g4]
theorem m_restK (nq : ¬ μ.1 0 19 = 0) : zpc (fX12_restore μ ) (fun r => zQ [3, 5, 6, 7, 8, 9] [(0, 0, 0)] [4, 10, 11] [] μ r ∧ zSrm (zKtn μ) r) := by
  unfold fX12_restore fX12_restore_13
  refine zpc_if (fun z => absurd z nq) (fun _ => zpc_fails0' (fun t1 e1 => zpc_if (fun _ => ?_) (fun z => absurd rfl z)))
  have f1 : zQ [3, 5, 6, 7, 8, 9] [(0, 0, 0)] [4, 10, 11] [] μ t1 := by rw [e1]; exact zQ.wi zQ.rf rfl
  refine zpc_mono (zpc_and (m_back (μ := t1)) (zpc_and (m_backf (μ := t1)) (m_backJ (μ := t1)))) (fun r p => ?_)
  obtain ⟨p1, p2, p10⟩ := p
  have g12 : t1.1 12 = μ.1 12 := f1.ro (k := 12) rfl
  have g2 : t1.2 = μ.2 := by rw [e1]; rfl
  have r3 := p1.ro (k := 3) rfl
  have r4 := p1.rlo (k := 4) rfl
  refine ⟨f1.tr (p2.mono rfl rfl), ⟨fun j x y => ?_, fun j x y => ?_, fun j x y => ?_, fun j x y => ?_, fun j x y => ?_, fun j x y => ?_, fun j hj => ?_, fun j hj => ?_⟩⟩
  · show r.1 3 j = μ.1 12 j
    rw [r3, zKm_3 (by omega), g12]
  · show r.1 3 j = μ.1 12 j
    rw [r3, zKm_3 (by omega), g12]
  · show r.1 3 j = μ.1 12 j
    rw [r3, zKm_3 (by omega), g12]
  · show r.1 3 j = μ.1 12 j
    rw [r3, zKm_3 (by omega), g12]
  · show r.1 3 j = μ.1 12 j
    rw [r3, zKm_3 (by omega), g12]
  · show r.2 4 j = μ.2 13 j
    rw [r4, zKm_l (by omega), g2]
  · show r.2 10 j = μ.2 19 j
    rw [(p10 j hj).1, g2]
  · show r.2 11 j = μ.2 20 j
    rw [(p10 j hj).2, g2]
theorem gj_save (h : zAlj J K σ μ) : zp2 (fX11_save σ ) (fX12_save μ ) (zAlj J K) := fun a b ea eb => by
  have x := g_save h.1 a b ea eb
  have ha := k_save a ea
  have hm := m_saveK b eb
  rw [ha] at x ⊢
  exact ⟨x, J.2.2.1 _ _ _ _ _ h.2.1 zKept_sc (zSrm.of hm.1 rfl), fun _ => J.2.2.1 _ _ _ _ _ h.2.1 zKept_kv hm.2⟩
theorem gj_restore (h : zAlj J K σ μ) (hf : σ.1 0 11 = 0 ↔ μ.1 0 19 = 0) : zp2 (fX11_restore σ ) (fX12_restore μ ) (fun r r' => zAlj J K (zRus r) r') := fun a b ea eb => by
  have x : zAll K (zRus a) b := g_restore h.1 hf a b ea eb
  show zAlj J K (zRus a) b
  by_cases q : σ.1 0 11 = 0
  · have ha : zpc (fX11_restore σ ) (fun r => zRus r = σ) := by
      unfold fX11_restore
      exact zpc_if (fun _ => zpc_some rfl) (fun z => absurd q z)
    have hb : zpc (fX12_restore μ ) (fun r => ∃ v, r = zsi μ 0 0 v) := by
      unfold fX12_restore fX12_restore_13
      exact zpc_if (fun _ => zpc_fails1 (fun t1 e1 => zpc_if (fun z => absurd z (by decide)) (fun _ => zpc_some ⟨_, e1⟩))) (fun z => absurd (hf.mp q) z)
    obtain ⟨v, eb'⟩ := hb b eb
    have ea' : zRus a = σ := ha a ea
    rw [ea', eb'] at x ⊢
    exact ⟨x, J.2.1.th h.2.1, fun z => absurd q z⟩
  · have nq : ¬ μ.1 0 19 = 0 := fun z => q (hf.mpr z)
    have ha := c_restore q a ea
    have hb := m_restK nq b eb
    rw [ha] at x ⊢
    exact ⟨x, J.2.2.1 _ _ _ _ _ (h.2.2 q) zBack_sc hb.2, fun _ => J.2.2.1 _ _ _ _ _ (h.2.2 q) zBack_kv (zKtn.of hb.1 rfl)⟩
theorem z_freshJ {k c : Int32} {σ4 σ5 σ9 σ1 : zSt} {σ6 : Int32 → zSt} (ec : c = zKd k) (e4 : fX7_clear zS0 = some σ4) (e5 : fX10_clear zS0 = some σ5) (e6 : ∀ v, fX4_clear (zsi (zsi (zsi zS0 6 0 v) 34 10 1) 34 11 1) = some (σ6 v)) (e9 : fJ7_fill_53178_k44 zS0 (-1) = some σ9) (e : fX12_anew (zsi (zsi (zsi (zsi (zsi zS0 0 8 (-1)) 0 3 c) 3 44 0) 3 45 1) 3 46 1) = some σ1) : zAlj ⟨zJ1, zJ1_jw⟩ 0 (zC1 k σ4 σ5 σ6 σ9) σ1 := by
  refine ⟨z_freshA ec e4 e5 e6 e9 e, ?_, fun q => absurd rfl q⟩
  have a4 := c_clr7 σ4 e4
  have b := m_anewx σ1 e
  have c38 : ∀ j, (zC1 k σ4 σ5 σ6 σ9).2 38 j = 0 := fun j => rfl
  have l4 : σ1.2 4 = zS0.2 4 := b.1.rlo (k := 4) rfl
  have l10 : σ1.2 10 = zS0.2 10 := b.1.rlo (k := 10) rfl
  have m8 : ∀ j : Nat, 87 ≤ j → j ≤ 88 → σ1.1 3 j = 0 := fun j x y => by
    rw [b.1.o (k := 3) (a := 87) (b := 88) rfl x y, zsi_nj (by omega), zsi_nj (by omega), zsi_nj (by omega), zsi_ne (by decide), zsi_ne (by decide)]
    rfl
  have m6 : ∀ j : Nat, 166 ≤ j → j ≤ 168 → σ1.1 3 j = 0 := fun j x y => by
    rw [b.1.o (k := 3) (a := 166) (b := 168) rfl x y, zsi_nj (by omega), zsi_nj (by omega), zsi_nj (by omega), zsi_ne (by decide), zsi_ne (by decide)]
    rfl
  show zJ1 (64 * 0) (zC1 k σ4 σ5 σ6 σ9) σ1
  refine ⟨⟨zTo_new (fun j hj => (show (zC1 k σ4 σ5 σ6 σ9).1 30 j = σ4.1 30 j from rfl).trans (a4.2 j hj)) b.2.2.1, ⟨?_, ?_, fun j hj => ?_, ?_, ?_⟩, ?_, ?_⟩, ?_, ?_⟩
  · rw [m8 88 (by decide) (by decide)]; rfl
  · rw [m8 87 (by decide) (by decide)]; rfl
  · rw [l10]; rfl
  · rw [m8 88 (by decide) (by decide)]; exact zr_c (by decide)
  · rw [m8 87 (by decide) (by decide)]; exact zr_c (by decide)
  · rw [c38, l4]; rfl
  · unfold zSmn
    rw [c38 6, c38 4, c38 5, c38 0, m6 168 (by decide) (by decide), m6 166 (by decide) (by decide), m6 167 (by decide) (by decide)]
    decide
  · rw [c38]; decide
  · rw [c38]; decide
/-- what sound() tells -/
theorem zAlj.rs (h : zAlj ⟨zJ1, zJ1_jw⟩ K σ μ) : zRs σ μ := by
  obtain ⟨C, hC, n⟩ := h.1.1
  have hE : zE σ μ := n.ve.1
  have hT : zTo σ μ := h.2.1.1.1
  have g0 : ∀ d : Nat, d < 3 → σ.1 30 (0 + d) = μ.1 3 (69 + d) := fun d hd => by rw [← hE.at (z_pn30_0 hd), z_an1]
  have g9 : ∀ d : Nat, d < 5 → σ.1 30 (9 + d) = μ.1 3 (78 + d) := fun d hd => by rw [← hE.at (z_pn30_9 hd), z_an1]
  have g17 : σ.1 30 17 = μ.1 3 86 := (hE.at (z_pn30_17 (d := 0) (by decide))).symm.trans (z_an1 _)
  have g18 : σ.1 30 18 = μ.1 3 34 := (hE.at (z_pn30_18 (d := 0) (by decide))).symm.trans (z_an1 _)
  refine ⟨fun j hj => ?_, g18⟩
  by_cases q1 : j < 3
  · have z := g0 j q1
    rw [Nat.zero_add] at z
    exact z
  by_cases q2 : j ≤ 8
  · exact (hT.1 j (by omega) q2).symm
  by_cases q3 : j ≤ 13
  · have z := g9 (j - 9) (by omega)
    rw [show 9 + (j - 9) = j by omega, show 78 + (j - 9) = 69 + j by omega] at z
    exact z
  by_cases q4 : j ≤ 16
  · exact (hT.2.1 j (by omega) q4).symm
  obtain rfl : j = 17 := by omega
  exact g17
end ZSV
end ZJN0
section ZJN1
/-! EVERY CALL KEEPS THE WHOLE RELATION -/
section ZG5
variable {K K0 n k s : Int} {σ μ : zSt} {o : Nat → Int64}
theorem zAll.mono {K K' : Int} (h : zAll K σ μ) (c : K ≤ K') : zAll K' σ μ := by
  obtain ⟨⟨C, hC, a⟩, b, d⟩ := h
  refine ⟨⟨C, Int.le_trans hC c, a⟩, b, fun q => ?_⟩
  obtain ⟨D, hD, e⟩ := d q
  exact ⟨D, Int.le_trans hD c, e⟩
theorem zRM.pic (h : zRM K0 n k s μ) : (μ.2 4 2).toInt ≤ 268435456 := by
  obtain ⟨c, G, i, a, b, e0, e1, e2⟩ := h
  have q : (μ.2 4 2).toInt = G 101 := i.fl 1 (4, 2) rfl
  have z := a.2.2.2.2.1
  omega
theorem zRM.svd (h : zRM K0 n k s μ) : (μ.1 0 19).toInt = s := by
  obtain ⟨c, G, i, a, b, e0, e1, e2⟩ := h
  exact Eq.trans (i.at 2 (by decide)) e2
theorem zRC.svd {k' : Int} (h : zRC n k' s σ) : (σ.1 0 11).toInt = s := by
  obtain ⟨H, i, e0, e1, e2⟩ := h
  exact Eq.trans (i.fz 1 (0, 11) rfl) e2
theorem z_flag {k' : Int} (a : zRM K0 n k s μ) (b : zRC n k' s σ) : σ.1 0 11 = 0 ↔ μ.1 0 19 = 0 := by
  have x := a.svd
  have y := b.svd
  rw [← Int32.toInt_inj, ← Int32.toInt_inj, x, y]
theorem g_feed (h : zAll K σ μ) (hr : zr 0 262656 (zgi μ 0 2)) {x1 : Int32} {x2 : Int64} {x4 : Int64} {x6 : Int64} : zp2 (fX11_feed σ x1 x2 x4 x6) (fX12_feed μ x1 x2 x4 x6) (fun r r' => zAll K (zRis r) (r'.1)) := fun a b ea eb => by
  obtain ⟨C, hC, n⟩ := h.1
  obtain ⟨m, r6⟩ := b_feed n h.2.1 hr a b ea eb
  exact h.tp hC m r6 (fy_fX11_feed zQ.rf a ea) (fY_fX12_feed zQ.rf b eb)
theorem g_grow (h : zAll K σ μ) (hr : zr 0 262656 (zgi μ 0 2)) {x1 : Int32} : zp2 (fX11_grow σ x1) (fX12_grow μ x1) (fun r r' => zAll K (zRis r) (r'.1)) := fun a b ea eb => by
  obtain ⟨C, hC, n⟩ := h.1
  obtain ⟨m, r6⟩ := b_grow n h.2.1 hr a b ea eb
  exact h.tp hC m r6 (fy_fX11_grow zQ.rf a ea) (fY_fX12_grow zQ.rf b eb)
theorem g_patch (h : zAll K σ μ) (hr : zr 0 262656 (zgi μ 0 2)) {x1 : Int32} {x2 : Int64} : zp2 (fX11_patch σ x1 x2) (fX12_patch μ x1 x2) (fun r r' => zAll K (zRus r) r') := fun a b ea eb => by
  obtain ⟨C, hC, n⟩ := h.1
  obtain ⟨m, r6⟩ := b_patch n h.2.1 hr a b ea eb
  exact h.tp hC m r6 (fy_fX11_patch zQ.rf a ea) (fY_fX12_patch zQ.rf b eb)
theorem g_load (h : zAll K σ μ) (hr : zr 0 262656 (zgi μ 0 2)) : zp2 (fX11_load σ ) (fX12_load μ ) (fun r r' => r.2 = r'.2 → zr 0 512 (r.1.1 1 3) → zr 0 262144 (r.1.1 1 4) → zR6 r.1 r'.1 → zAll K r.1 r'.1) := fun a b ea eb e r3 r4 r6 => by
  obtain ⟨C, hC, n⟩ := h.1
  have m := b_load n h.2.1 hr a b ea eb e r3 r4
  refine zAll.go (B := (K, 0, 0)) h (Int.le_refl _) (C := (C.1, C.2.1, 0)) hC m r6 (fun q => ?_)
  have hM := l_load n.pr.2.2.2.1.2.2.2.1 hr b eb
  rcases k_load a ea with ⟨x1, x2⟩ | ⟨_, σa, _, _, _, x5⟩
  · rcases hM with ⟨y1, y2⟩ | ⟨y1, _⟩
    · refine ⟨?_, ?_, x2.rlo (k := 39) rfl, ?_, y2.rlo (k := 13) rfl, y2.o (k := 0) (a := 3) (b := 3) rfl (by decide) (by decide)⟩
      · rw [← x2.o (k := 0) (a := 11) (b := 11) rfl (j := 11) (by decide) (by decide)]; exact q
      · unfold zsv
        exact List.forall_mem_cons.2 ⟨x2.ro (k := 43) rfl, List.forall_mem_cons.2 ⟨x2.ro (k := 41) rfl, List.forall_mem_cons.2 ⟨x2.ro (k := 37) rfl, List.forall_mem_cons.2 ⟨x2.ro (k := 35) rfl, List.forall_mem_cons.2 ⟨x2.ro (k := 33) rfl, List.forall_mem_cons.2 ⟨x2.ro (k := 31) rfl, List.forall_mem_cons.2 ⟨x2.ro (k := 26) rfl, List.forall_mem_cons.2 ⟨x2.ro (k := 24) rfl, List.forall_mem_cons.2 ⟨x2.ro (k := 22) rfl, List.forall_mem_cons.2 ⟨x2.ro (k := 20) rfl, List.forall_mem_cons.2 ⟨x2.ro (k := 18) rfl, List.forall_mem_cons.2 ⟨x2.ro (k := 16) rfl, fun _ h => absurd h List.not_mem_nil⟩⟩⟩⟩⟩⟩⟩⟩⟩⟩⟩⟩
      · unfold zsm
        exact List.forall_mem_cons.2 ⟨y2.ro (k := 18) rfl, List.forall_mem_cons.2 ⟨y2.ro (k := 17) rfl, List.forall_mem_cons.2 ⟨y2.ro (k := 16) rfl, List.forall_mem_cons.2 ⟨y2.ro (k := 15) rfl, List.forall_mem_cons.2 ⟨y2.ro (k := 14) rfl, List.forall_mem_cons.2 ⟨y2.ro (k := 12) rfl, fun _ h => absurd h List.not_mem_nil⟩⟩⟩⟩⟩⟩
    · exact absurd (e.trans y1) x1
  · exact absurd x5 q
theorem g_card (h : zAll K σ μ) {x1 : Int32} : zp2 (fX11_card σ x1) (fX12_card μ x1) (fun r r' => zAll K (zRis r) (r'.1)) := fun a b ea eb => by
  obtain ⟨C, hC, n⟩ := h.1
  exact h.kp (Int.le_refl _) hC (n.kp (fn_fX11_card zQ.rf a ea) (fN_fX12_card zQ.rf b eb) (by decide +kernel) (by decide +kernel)) (fv_fX11_card zQ.rf a ea) (fV_fX12_card zQ.rf b eb)
theorem g_step (h : zAll K σ μ) (hK : K ≤ 900000000000000) (hP : (μ.2 4 2).toInt ≤ 268435456) {x1 : Int32} : zp2 (fX11_step σ x1) (fX12_step μ x1) (fun r r' => zAll (K + 1000000) (zRis r) (r'.1)) := fun a b ea eb => by
  obtain ⟨C, hC, n⟩ := h.1
  obtain ⟨⟨D, hD, m⟩, _⟩ := a_step n (by omega) (by omega) a b ea eb
  exact h.kp (by omega) (show D.1 ≤ K + 1000000 by omega) m (fv_fX11_step zQ.rf a ea) (fV_fX12_step zQ.rf b eb)
theorem g_picture (h : zAll K σ μ) (hK : K ≤ 900000000000000) (hP : (μ.2 4 2).toInt ≤ 268435456) {x1 : Int32} : zp2 (fX11_picture σ x1) (fX12_picture μ x1) (fun r r' => zAll (K + 1000000) (zRis r) (r'.1)) := fun a b ea eb => by
  obtain ⟨C, hC, n⟩ := h.1
  obtain ⟨⟨D, hD, m⟩, _⟩ := a_picture n (by omega) (by omega) a b ea eb
  exact h.kp (by omega) (show D.1 ≤ K + 1000000 by omega) m (fv_fX11_picture zQ.rf a ea) (fV_fX12_picture zQ.rf b eb)
theorem g_reset (h : zAll K σ μ) : zp2 (fX11_reset σ ) (fX12_reset μ ) (fun r r' => zAll K r r') := fun a b ea eb => by
  obtain ⟨C, hC, n⟩ := h.1
  exact h.kp (Int.le_refl _) (C := (C.1, C.2.1, 0)) hC (b_reset n a b ea eb) (fv_fX11_reset zQ.rf a ea) (fV_fX12_reset zQ.rf b eb)
theorem g_pause (h : zAll K σ μ) : zp2 (fX11_pause σ ) (fX12_pause μ ) (fun r r' => zAll K r.1 (r'.1)) := fun a b ea eb => by
  obtain ⟨C, hC, n⟩ := h.1
  exact h.kp (Int.le_refl _) hC (b_pause n a b ea eb) (fv_fX11_pause zQ.rf a ea) (fV_fX12_pause zQ.rf b eb)
theorem g_press (h : zAll K σ μ) {x1 : Int32} {x2 : Int32} : zp2 (fX11_press σ x1 x2) (fX12_press μ x1 x2) (fun r r' => zAll K (zRus r) r') := fun a b ea eb => by
  obtain ⟨C, hC, n⟩ := h.1
  exact h.kp (Int.le_refl _) hC (b_press n a b ea eb) (fv_fX11_press zQ.rf a ea) (fV_fX12_press zQ.rf b eb)
theorem g_start (h : zAll K σ μ) {x1 : Int32} : zp2 (fX11_start σ x1) (fX12_start μ x1) (fun r r' => zAll K r r') := fun a b ea eb => by
  obtain ⟨C, hC, n⟩ := h.1
  exact h.kp (Int.le_refl _) hC (b_start n a b ea eb) (fv_fX11_start zQ.rf a ea) (fV_fX12_start zQ.rf b eb)
theorem g_line (h : zAll K σ μ) {x1 : Int32} {x2 : Int32} : zp2 (fX11_line σ x1 x2) (fX12_line μ x1 x2) (fun r r' => zAll K (zRus r) r') := fun a b ea eb => by
  obtain ⟨C, hC, n⟩ := h.1
  exact h.kp (Int.le_refl _) hC (b_line n a b ea eb) (fv_fX11_line zQ.rf a ea) (fV_fX12_line zQ.rf b eb)
theorem g_plan (h : zAll K σ μ) {x1 : Int32} {x2 : Int32} {x3 : Int32} : zp2 (fX11_plan σ x1 x2 x3) (fX12_plan μ x1 x2 x3) (fun r r' => zAll K (zRis r) (r'.1)) := fun a b ea eb => by
  obtain ⟨C, hC, n⟩ := h.1
  exact h.kp (Int.le_refl _) hC (b_plan n a b ea eb).1 (fv_fX11_plan zQ.rf a ea) (fV_fX12_plan zQ.rf b eb)
theorem g_tell (h : zAll K σ μ) {x1 : Int32} : zp2 (fX11_tell σ x1) (fX12_tell μ x1) (fun r r' => zAll K r.1 (r'.1)) := fun a b ea eb => by
  obtain ⟨C, hC, n⟩ := h.1
  exact h.kp (Int.le_refl _) hC (n.kp (fn_fX11_tell zQ.rf a ea) (fN_fX12_tell zQ.rf b eb) (by decide +kernel) (by decide +kernel)) (fv_fX11_tell zQ.rf a ea) (fV_fX12_tell zQ.rf b eb)
theorem g_text (h : zAll K σ μ) {x1 : Int32} : zp2 (fX11_text σ x1) (fX12_text μ x1) (fun r r' => zAll K (zRls r) (r'.1)) := fun a b ea eb => by
  obtain ⟨C, hC, n⟩ := h.1
  exact h.kp (Int.le_refl _) hC (n.kp (fn_fX11_text zQ.rf a ea) (fN_fX12_text zQ.rf b eb) (by decide +kernel) (by decide +kernel)) (fv_fX11_text zQ.rf a ea) (fV_fX12_text zQ.rf b eb)
theorem g_stop (h : zAll K σ μ) {x1 : Int32} {x2 : Int32} : zp2 (fX11_stop σ x1 x2) (fX12_stop μ x1 x2) (fun r r' => zAll K (zRis r) (r'.1)) := fun a b ea eb => by
  obtain ⟨C, hC, n⟩ := h.1
  exact h.kp (Int.le_refl _) hC (b_stop n a b ea eb) (fv_fX11_stop zQ.rf a ea) (fV_fX12_stop zQ.rf b eb)
theorem g_register (h : zAll K σ μ) {x1 : Int32} : zp2 (fX11_register σ x1) (fX12_register μ x1) (fun r r' => zAll K (zRis r) (r'.1)) := fun a b ea eb => by
  obtain ⟨C, hC, n⟩ := h.1
  exact h.kp (Int.le_refl _) hC (n.kp (fn_fX11_register zQ.rf a ea) (fN_fX12_register zQ.rf b eb) (by decide +kernel) (by decide +kernel)) (fv_fX11_register zQ.rf a ea) (fV_fX12_register zQ.rf b eb)
theorem g_set (h : zAll K σ μ) {x1 : Int32} {x2 : Int32} : zp2 (fX11_set σ x1 x2) (fX12_set μ x1 x2) (fun r r' => zAll K (zRus r) r') := fun a b ea eb => by
  obtain ⟨C, hC, n⟩ := h.1
  exact h.kp (Int.le_refl _) hC (b_set n a b ea eb) (fv_fX11_set zQ.rf a ea) (fV_fX12_set zQ.rf b eb)
theorem g_peek (h : zAll K σ μ) {x1 : Int32} : zp2 (fX11_peek σ x1) (fX12_peek μ x1) (fun r r' => zAll K r.1 (r'.1)) := fun a b ea eb => by
  obtain ⟨C, hC, n⟩ := h.1
  exact h.kp (Int.le_refl _) hC (n.kp (fn_fX11_peek zQ.rf a ea) (fN_fX12_peek zQ.rf b eb) (by decide +kernel) (by decide +kernel)) (fv_fX11_peek zQ.rf a ea) (fV_fX12_peek zQ.rf b eb)
theorem g_poke (h : zAll K σ μ) {x1 : Int32} {x2 : Int32} : zp2 (fX11_poke σ x1 x2) (fX12_poke μ x1 x2) (fun r r' => zAll K r r') := fun a b ea eb => by
  obtain ⟨C, hC, n⟩ := h.1
  exact h.kp (Int.le_refl _) hC (b_poke n a b ea eb) (fv_fX11_poke zQ.rf a ea) (fV_fX12_poke zQ.rf b eb)
theorem g_in (h : zAll K σ μ) {x1 : Int32} : zp2 (fX11_in σ x1) (fX12_in μ x1) (fun r r' => zAll K r.1 (r'.1)) := fun a b ea eb => by
  obtain ⟨C, hC, n⟩ := h.1
  exact h.kp (Int.le_refl _) hC (b_in n a b ea eb).1 (fv_fX11_in zQ.rf a ea) (fV_fX12_in zQ.rf b eb)
theorem g_out (h : zAll K σ μ) {x1 : Int32} {x2 : Int32} : zp2 (fX11_out σ x1 x2) (fX12_out μ x1 x2) (fun r r' => zAll K r r') := fun a b ea eb => by
  obtain ⟨C, hC, n⟩ := h.1
  exact h.kp (Int.le_refl _) hC (b_out n a b ea eb) (fv_fX11_out zQ.rf a ea) (fV_fX12_out zQ.rf b eb)
theorem g_battery (h : zAll K σ μ) {x1 : Int32} : zp2 (fX11_battery σ x1) (fX12_battery μ x1) (fun r r' => zAll K (zRis r) (r'.1)) := fun a b ea eb => by
  obtain ⟨C, hC, n⟩ := h.1
  exact h.kp (Int.le_refl _) hC (n.kp (fn_fX11_battery zQ.rf a ea) (fN_fX12_battery zQ.rf b eb) (by decide +kernel) (by decide +kernel)) (fv_fX11_battery zQ.rf a ea) (fV_fX12_battery zQ.rf b eb)
theorem g_wipe (h : zAll K σ μ) : zp2 (fX11_wipe σ ) (fX12_wipe μ ) (fun r r' => zAll K r r') := fun a b ea eb => by
  obtain ⟨C, hC, n⟩ := h.1
  exact h.kp (Int.le_refl _) hC (b_wipe n a b ea eb) (fv_fX11_wipe zQ.rf a ea) (fV_fX12_wipe zQ.rf b eb)
theorem g_video (h : zAll K σ μ) {x1 : Int32} : zp2 (fX11_video σ x1) (fX12_video μ x1) (fun r r' => zAll K r.1 (r'.1)) := fun a b ea eb => by
  obtain ⟨C, hC, n⟩ := h.1
  exact h.kp (Int.le_refl _) hC (n.kp (fn_fX11_video zQ.rf a ea) (fN_fX12_video zQ.rf b eb) (by decide +kernel) (by decide +kernel)) (fv_fX11_video zQ.rf a ea) (fV_fX12_video zQ.rf b eb)
theorem g_chip (h : zAll K σ μ) {x1 : Int32} : zp2 (fX11_chip σ x1) (fX12_chip μ x1) (fun r r' => zAll K (zRis r) (r'.1)) := fun a b ea eb => by
  obtain ⟨C, hC, n⟩ := h.1
  exact h.kp (Int.le_refl _) hC (n.kp (fn_fX11_chip zQ.rf a ea) (fN_fX12_chip zQ.rf b eb) (by decide +kernel) (by decide +kernel)) (fv_fX11_chip zQ.rf a ea) (fV_fX12_chip zQ.rf b eb)
theorem g_dot (h : zAll K σ μ) {x1 : Int32} {x2 : Int32} : zp2 (fX11_dot σ x1 x2) (fX12_dot μ x1 x2) (fun r r' => zAll K (zRis r) (r'.1)) := fun a b ea eb => by
  obtain ⟨C, hC, n⟩ := h.1
  exact h.kp (Int.le_refl _) hC (n.kp (fn_fX11_dot zQ.rf a ea) (fN_fX12_dot zQ.rf b eb) (by decide +kernel) (by decide +kernel)) (fv_fX11_dot zQ.rf a ea) (fV_fX12_dot zQ.rf b eb)
theorem g_row (h : zAll K σ μ) {x1 : Int32} : zp2 (fX11_row σ x1) (fX12_row μ x1) (fun r r' => zAll K (zRis r) (r'.1)) := fun a b ea eb => by
  obtain ⟨C, hC, n⟩ := h.1
  exact h.kp (Int.le_refl _) hC (n.kp (fn_fX11_row zQ.rf a ea) (fN_fX12_row zQ.rf b eb) (by decide +kernel) (by decide +kernel)) (fv_fX11_row zQ.rf a ea) (fV_fX12_row zQ.rf b eb)
theorem g_hear (h : zAll K σ μ) : zp2 (fX11_hear σ ) (fX12_hear μ ) (fun r r' => zAll K (zRls r) (r'.1)) := fun a b ea eb => by
  obtain ⟨C, hC, n⟩ := h.1
  exact h.kp (Int.le_refl _) hC (n.kp (fn_fX11_hear zQ.rf a ea) (fN_fX12_hear zQ.rf b eb) (by decide +kernel) (by decide +kernel)) (fv_fX11_hear zQ.rf a ea) (fV_fX12_hear zQ.rf b eb)
theorem g_mix (h : zAll K σ μ) : zp2 (fX11_mix σ ) (fX12_mix μ ) (fun r r' => zAll K (zRls r) (r'.1)) := fun a b ea eb => by
  obtain ⟨C, hC, n⟩ := h.1
  exact h.kp (Int.le_refl _) hC (n.kp (fn_fX11_mix zQ.rf a ea) (fN_fX12_mix zQ.rf b eb) (by decide +kernel) (by decide +kernel)) (fv_fX11_mix zQ.rf a ea) (fV_fX12_mix zQ.rf b eb)
theorem g_wave (h : zAll K σ μ) {x1 : Int32} : zp2 (fX11_wave σ x1) (fX12_wave μ x1) (fun r r' => zAll K (zRis r) (r'.1)) := fun a b ea eb => by
  obtain ⟨C, hC, n⟩ := h.1
  exact h.kp (Int.le_refl _) hC (n.kp (fn_fX11_wave zQ.rf a ea) (fN_fX12_wave zQ.rf b eb) (by decide +kernel) (by decide +kernel)) (fv_fX11_wave zQ.rf a ea) (fV_fX12_wave zQ.rf b eb)
theorem g_sound (h : zAll K σ μ) {x1 : Int32} : zp2 (fX11_sound σ x1) (fX12_sound μ x1) (fun r r' => zAll K (zRis r) (r'.1)) := fun a b ea eb => by
  obtain ⟨C, hC, n⟩ := h.1
  exact h.kp (Int.le_refl _) hC (n.kp (fn_fX11_sound zQ.rf a ea) (fN_fX12_sound zQ.rf b eb) (by decide +kernel) (by decide +kernel)) (fv_fX11_sound zQ.rf a ea) (fV_fX12_sound zQ.rf b eb)
theorem g_trace (h : zAll K σ μ) {x1 : Int32} : zp2 (fX11_trace σ x1) (fX12_trace μ x1) (fun r r' => zAll K r.1 (r'.1)) := fun a b ea eb => by
  obtain ⟨C, hC, n⟩ := h.1
  exact h.kp (Int.le_refl _) hC (n.kp (fn_fX11_trace zQ.rf a ea) (fN_fX12_trace zQ.rf b eb) (by decide +kernel) (by decide +kernel)) (fv_fX11_trace zQ.rf a ea) (fV_fX12_trace zQ.rf b eb)
theorem g_look (h : zAll K σ μ) {x1 : Int32} : zp2 (fX11_look σ x1) (fX12_look μ x1) (fun r r' => zAll K (zRls r) (r'.1)) := fun a b ea eb => by
  obtain ⟨C, hC, n⟩ := h.1
  exact h.kp (Int.le_refl _) hC (n.kp (fn_fX11_look zQ.rf a ea) (fN_fX12_look zQ.rf b eb) (by decide +kernel) (by decide +kernel)) (fv_fX11_look zQ.rf a ea) (fV_fX12_look zQ.rf b eb)
end ZG5
noncomputable def zJq : { J : Int → zSt → zSt → Prop // zJw J } := ⟨zJ1, zJ1_jw⟩
section ZG6
variable {K : Int} {σ μ : zSt} {J : { J : Int → zSt → zSt → Prop // zJw J }}
theorem zAlj.mono {K K' : Int} (h : zAlj J K σ μ) (c : K ≤ K') : zAlj J K' σ μ := ⟨h.1.mono c, J.2.1.2.2.1 _ _ _ _ (by omega) h.2.1, fun q => J.2.1.2.2.1 _ _ _ _ (by omega) (h.2.2 q)⟩
theorem gj_feed (h : zAlj J K σ μ) (hr : zr 0 262656 (zgi μ 0 2)) {x1 : Int32} {x2 : Int64} {x4 : Int64} {x6 : Int64} : zp2 (fX11_feed σ x1 x2 x4 x6) (fX12_feed μ x1 x2 x4 x6) (fun r r' => zAlj J K (zRis r) (r'.1)) := fun a b ea eb => by
  have fc := fy_fX11_feed (σ0 := σ) zQ.rf a ea
  have fm := fY_fX12_feed (σ0 := μ) zQ.rf b eb
  exact h.go (Int.le_refl _) (g_feed h.1 hr a b ea eb) (J.2.2.1 _ _ _ _ _ h.2.1 (zSc.of fc rfl) (zSrm.of fm rfl)) (fun q => ⟨by rw [← fc.o (k := 0) (a := 11) (b := 11) rfl (j := 11) (by decide) (by decide)]; exact q, zKsn.of fc rfl, zKtn.of fm rfl⟩)
theorem gj_grow (h : zAlj J K σ μ) (hr : zr 0 262656 (zgi μ 0 2)) {x1 : Int32} : zp2 (fX11_grow σ x1) (fX12_grow μ x1) (fun r r' => zAlj J K (zRis r) (r'.1)) := fun a b ea eb => by
  have fc := fy_fX11_grow (σ0 := σ) zQ.rf a ea
  have fm := fY_fX12_grow (σ0 := μ) zQ.rf b eb
  exact h.go (Int.le_refl _) (g_grow h.1 hr a b ea eb) (J.2.2.1 _ _ _ _ _ h.2.1 (zSc.of fc rfl) (zSrm.of fm rfl)) (fun q => ⟨by rw [← fc.o (k := 0) (a := 11) (b := 11) rfl (j := 11) (by decide) (by decide)]; exact q, zKsn.of fc rfl, zKtn.of fm rfl⟩)
theorem gj_patch (h : zAlj J K σ μ) (hr : zr 0 262656 (zgi μ 0 2)) {x1 : Int32} {x2 : Int64} : zp2 (fX11_patch σ x1 x2) (fX12_patch μ x1 x2) (fun r r' => zAlj J K (zRus r) (r')) := fun a b ea eb => by
  have fc := fy_fX11_patch (σ0 := σ) zQ.rf a ea
  have fm := fY_fX12_patch (σ0 := μ) zQ.rf b eb
  exact h.go (Int.le_refl _) (g_patch h.1 hr a b ea eb) (J.2.2.1 _ _ _ _ _ h.2.1 (zSc.of fc rfl) (zSrm.of fm rfl)) (fun q => ⟨by rw [← fc.o (k := 0) (a := 11) (b := 11) rfl (j := 11) (by decide) (by decide)]; exact q, zKsn.of fc rfl, zKtn.of fm rfl⟩)
theorem gj_load (h : zAlj J K σ μ) (hr : zr 0 262656 (zgi μ 0 2)) : zp2 (fX11_load σ ) (fX12_load μ ) (fun r r' => r.2 = r'.2 → zr 0 512 (r.1.1 1 3) → zr 0 262144 (r.1.1 1 4) → zR6 r.1 r'.1 → zAlj J K r.1 r'.1) := fun a b ea eb e r3 r4 r6 => by
  obtain ⟨C, hC, n⟩ := h.1.1
  have hM := l_load n.pr.2.2.2.1.2.2.2.1 hr b eb
  have x := g_load h.1 hr a b ea eb e r3 r4 r6
  rcases k_load a ea with ⟨x1, x2⟩ | ⟨x1, σa, x2, x3, x4, x5⟩
  · rcases hM with ⟨y1, y2⟩ | ⟨y1, _⟩
    · exact h.go (Int.le_refl _) x (J.2.2.1 _ _ _ _ _ h.2.1 (zSc.of x2 rfl) (zSrm.of y2 rfl)) (fun q => ⟨by rw [← x2.o (k := 0) (a := 11) (b := 11) rfl (j := 11) (by decide) (by decide)]; exact q, zKsn.of x2 rfl, zKtn.of y2 rfl⟩)
    · exact absurd (e.trans y1) x1
  · rcases hM with ⟨y1, y2⟩ | ⟨y1, μb, ⟨y2, _⟩, y6, y7⟩
    · exact absurd (e.symm.trans x1) y1
    · exact h.go (Int.le_refl _) x (J.2.2.2.1 _ _ _ _ _ (J.2.2.1 _ _ _ _ _ h.2.1 (zSc.of x2 rfl) (zSrm.of y2 rfl)) x3 y6) (fun q => absurd x5 q)
theorem gj_card (h : zAlj J K σ μ) {x1 : Int32} : zp2 (fX11_card σ x1) (fX12_card μ x1) (fun r r' => zAlj J K (zRis r) (r'.1)) := fun a b ea eb => by
  have fc := fg_fX11_card (σ0 := σ) zQ.rf a ea
  have fm := fG_fX12_card (σ0 := μ) zQ.rf b eb
  exact h.go (Int.le_refl _) (g_card h.1 a b ea eb) (J.2.2.1 _ _ _ _ _ h.2.1 (zSc.of fc rfl) (zSrm.of fm rfl)) (fun q => ⟨by rw [← fc.o (k := 0) (a := 11) (b := 11) rfl (j := 11) (by decide) (by decide)]; exact q, zKsn.of fc rfl, zKtn.of fm rfl⟩)
theorem gj_step (h : zAlj J K σ μ) (hK : K ≤ 9000000000000) (hP : (μ.2 4 2).toInt ≤ 268435456) {x1 : Int32} : zp2 (fX11_step σ x1) (fX12_step μ x1) (fun r r' => zAlj J (K + 1000000) (zRis r) (r'.1)) := fun a b ea eb => by
  have fc := fe_fX11_step (σ0 := σ) zQ.rf a ea
  have fm := fV_fX12_step (σ0 := μ) zQ.rf b eb
  obtain ⟨C, hC, n⟩ := h.1.1
  obtain ⟨⟨D, hD, _, mj⟩, _⟩ := a_stepJ J.2.1 (N := 64 * K) (by omega) n h.2.1 (by omega) (by omega) a b ea eb
  exact h.go (by omega) (g_step h.1 (by omega) hP a b ea eb) (J.2.1.2.2.1 _ _ _ _ (by omega) mj) (fun q => ⟨by rw [← fc.o (k := 0) (a := 11) (b := 11) rfl (j := 11) (by decide) (by decide)]; exact q, zKsn.of fc rfl, zKtn.of fm rfl⟩)
theorem gj_picture (h : zAlj J K σ μ) (hK : K ≤ 9000000000000) (hP : (μ.2 4 2).toInt ≤ 268435456) {x1 : Int32} : zp2 (fX11_picture σ x1) (fX12_picture μ x1) (fun r r' => zAlj J (K + 1000000) (zRis r) (r'.1)) := fun a b ea eb => by
  have fc := fe_fX11_picture (σ0 := σ) zQ.rf a ea
  have fm := fV_fX12_picture (σ0 := μ) zQ.rf b eb
  obtain ⟨C, hC, n⟩ := h.1.1
  obtain ⟨⟨D, hD, _, mj⟩, _⟩ := a_pictureJ J.2.1 (N := 64 * K) (by omega) n h.2.1 (by omega) (by omega) a b ea eb
  exact h.go (by omega) (g_picture h.1 (by omega) hP a b ea eb) (J.2.1.2.2.1 _ _ _ _ (by omega) mj) (fun q => ⟨by rw [← fc.o (k := 0) (a := 11) (b := 11) rfl (j := 11) (by decide) (by decide)]; exact q, zKsn.of fc rfl, zKtn.of fm rfl⟩)
theorem gj_reset (h : zAlj J K σ μ) : zp2 (fX11_reset σ ) (fX12_reset μ ) (fun r r' => zAlj J K r (r')) := fun a b ea eb => by
  have fc := fe_fX11_reset (σ0 := σ) zQ.rf a ea
  have fm := fV_fX12_reset (σ0 := μ) zQ.rf b eb
  exact h.go (Int.le_refl _) (g_reset h.1 a b ea eb) (bj_reset h.2.1 a b ea eb) (fun q => ⟨by rw [← fc.o (k := 0) (a := 11) (b := 11) rfl (j := 11) (by decide) (by decide)]; exact q, zKsn.of fc rfl, zKtn.of fm rfl⟩)
theorem gj_pause (h : zAlj J K σ μ) : zp2 (fX11_pause σ ) (fX12_pause μ ) (fun r r' => zAlj J K r.1 (r'.1)) := fun a b ea eb => by
  have fc := fe_fX11_pause (σ0 := σ) zQ.rf a ea
  have fm := fV_fX12_pause (σ0 := μ) zQ.rf b eb
  obtain ⟨C, hC, n⟩ := h.1.1
  have m := bj_pause (J := zJo J) (N := 64 * K) ⟨n, h.2.1⟩ a b ea eb
  exact h.go (Int.le_refl _) (g_pause h.1 a b ea eb) m.2 (fun q => ⟨by rw [← fc.o (k := 0) (a := 11) (b := 11) rfl (j := 11) (by decide) (by decide)]; exact q, zKsn.of fc rfl, zKtn.of fm rfl⟩)
theorem gj_press (h : zAlj J K σ μ) {x1 : Int32} {x2 : Int32} : zp2 (fX11_press σ x1 x2) (fX12_press μ x1 x2) (fun r r' => zAlj J K (zRus r) (r')) := fun a b ea eb => by
  have fc := fe_fX11_press (σ0 := σ) zQ.rf a ea
  have fm := fV_fX12_press (σ0 := μ) zQ.rf b eb
  obtain ⟨C, hC, n⟩ := h.1.1
  have m := bj_press (J := zJo J) (N := 64 * K) ⟨n, h.2.1⟩ a b ea eb
  exact h.go (Int.le_refl _) (g_press h.1 a b ea eb) m.2 (fun q => ⟨by rw [← fc.o (k := 0) (a := 11) (b := 11) rfl (j := 11) (by decide) (by decide)]; exact q, zKsn.of fc rfl, zKtn.of fm rfl⟩)
theorem gj_start (h : zAlj J K σ μ) {x1 : Int32} : zp2 (fX11_start σ x1) (fX12_start μ x1) (fun r r' => zAlj J K r (r')) := fun a b ea eb => by
  have fc := fe_fX11_start (σ0 := σ) zQ.rf a ea
  have fm := fV_fX12_start (σ0 := μ) zQ.rf b eb
  obtain ⟨C, hC, n⟩ := h.1.1
  have m := bj_start (J := zJo J) (N := 64 * K) ⟨n, h.2.1⟩ a b ea eb
  exact h.go (Int.le_refl _) (g_start h.1 a b ea eb) m.2 (fun q => ⟨by rw [← fc.o (k := 0) (a := 11) (b := 11) rfl (j := 11) (by decide) (by decide)]; exact q, zKsn.of fc rfl, zKtn.of fm rfl⟩)
theorem gj_line (h : zAlj J K σ μ) {x1 : Int32} {x2 : Int32} : zp2 (fX11_line σ x1 x2) (fX12_line μ x1 x2) (fun r r' => zAlj J K (zRus r) (r')) := fun a b ea eb => by
  have fc := fe_fX11_line (σ0 := σ) zQ.rf a ea
  have fm := fV_fX12_line (σ0 := μ) zQ.rf b eb
  obtain ⟨C, hC, n⟩ := h.1.1
  have m := bj_line (J := zJo J) (N := 64 * K) ⟨n, h.2.1⟩ a b ea eb
  exact h.go (Int.le_refl _) (g_line h.1 a b ea eb) m.2 (fun q => ⟨by rw [← fc.o (k := 0) (a := 11) (b := 11) rfl (j := 11) (by decide) (by decide)]; exact q, zKsn.of fc rfl, zKtn.of fm rfl⟩)
theorem gj_plan (h : zAlj J K σ μ) {x1 : Int32} {x2 : Int32} {x3 : Int32} : zp2 (fX11_plan σ x1 x2 x3) (fX12_plan μ x1 x2 x3) (fun r r' => zAlj J K (zRis r) (r'.1)) := fun a b ea eb => by
  have fc := fe_fX11_plan (σ0 := σ) zQ.rf a ea
  have fm := fV_fX12_plan (σ0 := μ) zQ.rf b eb
  obtain ⟨C, hC, n⟩ := h.1.1
  have m := bj_plan (J := zJo J) (N := 64 * K) ⟨n, h.2.1⟩ a b ea eb
  exact h.go (Int.le_refl _) (g_plan h.1 a b ea eb) m.1.2 (fun q => ⟨by rw [← fc.o (k := 0) (a := 11) (b := 11) rfl (j := 11) (by decide) (by decide)]; exact q, zKsn.of fc rfl, zKtn.of fm rfl⟩)
theorem gj_tell (h : zAlj J K σ μ) {x1 : Int32} : zp2 (fX11_tell σ x1) (fX12_tell μ x1) (fun r r' => zAlj J K r.1 (r'.1)) := fun a b ea eb => by
  have fc := fg_fX11_tell (σ0 := σ) zQ.rf a ea
  have fm := fG_fX12_tell (σ0 := μ) zQ.rf b eb
  exact h.go (Int.le_refl _) (g_tell h.1 a b ea eb) (J.2.2.1 _ _ _ _ _ h.2.1 (zSc.of fc rfl) (zSrm.of fm rfl)) (fun q => ⟨by rw [← fc.o (k := 0) (a := 11) (b := 11) rfl (j := 11) (by decide) (by decide)]; exact q, zKsn.of fc rfl, zKtn.of fm rfl⟩)
theorem gj_text (h : zAlj J K σ μ) {x1 : Int32} : zp2 (fX11_text σ x1) (fX12_text μ x1) (fun r r' => zAlj J K (zRls r) (r'.1)) := fun a b ea eb => by
  have fc := fg_fX11_text (σ0 := σ) zQ.rf a ea
  have fm := fG_fX12_text (σ0 := μ) zQ.rf b eb
  exact h.go (Int.le_refl _) (g_text h.1 a b ea eb) (J.2.2.1 _ _ _ _ _ h.2.1 (zSc.of fc rfl) (zSrm.of fm rfl)) (fun q => ⟨by rw [← fc.o (k := 0) (a := 11) (b := 11) rfl (j := 11) (by decide) (by decide)]; exact q, zKsn.of fc rfl, zKtn.of fm rfl⟩)
theorem gj_stop (h : zAlj J K σ μ) {x1 : Int32} {x2 : Int32} : zp2 (fX11_stop σ x1 x2) (fX12_stop μ x1 x2) (fun r r' => zAlj J K (zRis r) (r'.1)) := fun a b ea eb => by
  have fc := fe_fX11_stop (σ0 := σ) zQ.rf a ea
  have fm := fV_fX12_stop (σ0 := μ) zQ.rf b eb
  obtain ⟨C, hC, n⟩ := h.1.1
  have m := bj_stop (J := zJo J) (N := 64 * K) ⟨n, h.2.1⟩ a b ea eb
  exact h.go (Int.le_refl _) (g_stop h.1 a b ea eb) m.2 (fun q => ⟨by rw [← fc.o (k := 0) (a := 11) (b := 11) rfl (j := 11) (by decide) (by decide)]; exact q, zKsn.of fc rfl, zKtn.of fm rfl⟩)
theorem gj_register (h : zAlj J K σ μ) {x1 : Int32} : zp2 (fX11_register σ x1) (fX12_register μ x1) (fun r r' => zAlj J K (zRis r) (r'.1)) := fun a b ea eb => by
  have fc := fg_fX11_register (σ0 := σ) zQ.rf a ea
  have fm := fG_fX12_register (σ0 := μ) zQ.rf b eb
  exact h.go (Int.le_refl _) (g_register h.1 a b ea eb) (J.2.2.1 _ _ _ _ _ h.2.1 (zSc.of fc rfl) (zSrm.of fm rfl)) (fun q => ⟨by rw [← fc.o (k := 0) (a := 11) (b := 11) rfl (j := 11) (by decide) (by decide)]; exact q, zKsn.of fc rfl, zKtn.of fm rfl⟩)
theorem gj_set (h : zAlj J K σ μ) {x1 : Int32} {x2 : Int32} : zp2 (fX11_set σ x1 x2) (fX12_set μ x1 x2) (fun r r' => zAlj J K (zRus r) (r')) := fun a b ea eb => by
  have fc := fe_fX11_set (σ0 := σ) zQ.rf a ea
  have fm := fV_fX12_set (σ0 := μ) zQ.rf b eb
  obtain ⟨C, hC, n⟩ := h.1.1
  have m := bj_set (J := zJo J) (N := 64 * K) ⟨n, h.2.1⟩ a b ea eb
  exact h.go (Int.le_refl _) (g_set h.1 a b ea eb) m.2 (fun q => ⟨by rw [← fc.o (k := 0) (a := 11) (b := 11) rfl (j := 11) (by decide) (by decide)]; exact q, zKsn.of fc rfl, zKtn.of fm rfl⟩)
theorem gj_peek (h : zAlj J K σ μ) {x1 : Int32} : zp2 (fX11_peek σ x1) (fX12_peek μ x1) (fun r r' => zAlj J K r.1 (r'.1)) := fun a b ea eb => by
  have fc := fg_fX11_peek (σ0 := σ) zQ.rf a ea
  have fm := fG_fX12_peek (σ0 := μ) zQ.rf b eb
  exact h.go (Int.le_refl _) (g_peek h.1 a b ea eb) (J.2.2.1 _ _ _ _ _ h.2.1 (zSc.of fc rfl) (zSrm.of fm rfl)) (fun q => ⟨by rw [← fc.o (k := 0) (a := 11) (b := 11) rfl (j := 11) (by decide) (by decide)]; exact q, zKsn.of fc rfl, zKtn.of fm rfl⟩)
theorem gj_poke (h : zAlj J K σ μ) {x1 : Int32} {x2 : Int32} : zp2 (fX11_poke σ x1 x2) (fX12_poke μ x1 x2) (fun r r' => zAlj J K r (r')) := fun a b ea eb => by
  have fc := fe_fX11_poke (σ0 := σ) zQ.rf a ea
  have fm := fV_fX12_poke (σ0 := μ) zQ.rf b eb
  obtain ⟨C, hC, n⟩ := h.1.1
  have m := bj_poke (J := zJo J) (N := 64 * K) ⟨n, h.2.1⟩ a b ea eb
  exact h.go (Int.le_refl _) (g_poke h.1 a b ea eb) m.2 (fun q => ⟨by rw [← fc.o (k := 0) (a := 11) (b := 11) rfl (j := 11) (by decide) (by decide)]; exact q, zKsn.of fc rfl, zKtn.of fm rfl⟩)
theorem gj_in (h : zAlj J K σ μ) {x1 : Int32} : zp2 (fX11_in σ x1) (fX12_in μ x1) (fun r r' => zAlj J K r.1 (r'.1)) := fun a b ea eb => by
  have fc := fe_fX11_in (σ0 := σ) zQ.rf a ea
  have fm := fV_fX12_in (σ0 := μ) zQ.rf b eb
  obtain ⟨C, hC, n⟩ := h.1.1
  have m := bj_in (J := zJo J) (N := 64 * K) ⟨n, h.2.1⟩ a b ea eb
  exact h.go (Int.le_refl _) (g_in h.1 a b ea eb) m.1.2 (fun q => ⟨by rw [← fc.o (k := 0) (a := 11) (b := 11) rfl (j := 11) (by decide) (by decide)]; exact q, zKsn.of fc rfl, zKtn.of fm rfl⟩)
theorem gj_out (h : zAlj J K σ μ) {x1 : Int32} {x2 : Int32} : zp2 (fX11_out σ x1 x2) (fX12_out μ x1 x2) (fun r r' => zAlj J K r (r')) := fun a b ea eb => by
  have fc := fe_fX11_out (σ0 := σ) zQ.rf a ea
  have fm := fV_fX12_out (σ0 := μ) zQ.rf b eb
  obtain ⟨C, hC, n⟩ := h.1.1
  have m := bj_out (J := zJo J) (N := 64 * K) ⟨n, h.2.1⟩ a b ea eb
  exact h.go (Int.le_refl _) (g_out h.1 a b ea eb) m.2 (fun q => ⟨by rw [← fc.o (k := 0) (a := 11) (b := 11) rfl (j := 11) (by decide) (by decide)]; exact q, zKsn.of fc rfl, zKtn.of fm rfl⟩)
theorem gj_battery (h : zAlj J K σ μ) {x1 : Int32} : zp2 (fX11_battery σ x1) (fX12_battery μ x1) (fun r r' => zAlj J K (zRis r) (r'.1)) := fun a b ea eb => by
  have fc := fg_fX11_battery (σ0 := σ) zQ.rf a ea
  have fm := fG_fX12_battery (σ0 := μ) zQ.rf b eb
  exact h.go (Int.le_refl _) (g_battery h.1 a b ea eb) (J.2.2.1 _ _ _ _ _ h.2.1 (zSc.of fc rfl) (zSrm.of fm rfl)) (fun q => ⟨by rw [← fc.o (k := 0) (a := 11) (b := 11) rfl (j := 11) (by decide) (by decide)]; exact q, zKsn.of fc rfl, zKtn.of fm rfl⟩)
theorem gj_wipe (h : zAlj J K σ μ) : zp2 (fX11_wipe σ ) (fX12_wipe μ ) (fun r r' => zAlj J K r (r')) := fun a b ea eb => by
  have fc := fe_fX11_wipe (σ0 := σ) zQ.rf a ea
  have fm := fV_fX12_wipe (σ0 := μ) zQ.rf b eb
  obtain ⟨C, hC, n⟩ := h.1.1
  have m := bj_wipe (J := zJo J) (N := 64 * K) ⟨n, h.2.1⟩ a b ea eb
  exact h.go (Int.le_refl _) (g_wipe h.1 a b ea eb) m.2 (fun q => ⟨by rw [← fc.o (k := 0) (a := 11) (b := 11) rfl (j := 11) (by decide) (by decide)]; exact q, zKsn.of fc rfl, zKtn.of fm rfl⟩)
theorem gj_video (h : zAlj J K σ μ) {x1 : Int32} : zp2 (fX11_video σ x1) (fX12_video μ x1) (fun r r' => zAlj J K r.1 (r'.1)) := fun a b ea eb => by
  have fc := fg_fX11_video (σ0 := σ) zQ.rf a ea
  have fm := fG_fX12_video (σ0 := μ) zQ.rf b eb
  exact h.go (Int.le_refl _) (g_video h.1 a b ea eb) (J.2.2.1 _ _ _ _ _ h.2.1 (zSc.of fc rfl) (zSrm.of fm rfl)) (fun q => ⟨by rw [← fc.o (k := 0) (a := 11) (b := 11) rfl (j := 11) (by decide) (by decide)]; exact q, zKsn.of fc rfl, zKtn.of fm rfl⟩)
theorem gj_chip (h : zAlj J K σ μ) {x1 : Int32} : zp2 (fX11_chip σ x1) (fX12_chip μ x1) (fun r r' => zAlj J K (zRis r) (r'.1)) := fun a b ea eb => by
  have fc := fg_fX11_chip (σ0 := σ) zQ.rf a ea
  have fm := fG_fX12_chip (σ0 := μ) zQ.rf b eb
  exact h.go (Int.le_refl _) (g_chip h.1 a b ea eb) (J.2.2.1 _ _ _ _ _ h.2.1 (zSc.of fc rfl) (zSrm.of fm rfl)) (fun q => ⟨by rw [← fc.o (k := 0) (a := 11) (b := 11) rfl (j := 11) (by decide) (by decide)]; exact q, zKsn.of fc rfl, zKtn.of fm rfl⟩)
theorem gj_dot (h : zAlj J K σ μ) {x1 : Int32} {x2 : Int32} : zp2 (fX11_dot σ x1 x2) (fX12_dot μ x1 x2) (fun r r' => zAlj J K (zRis r) (r'.1)) := fun a b ea eb => by
  have fc := fg_fX11_dot (σ0 := σ) zQ.rf a ea
  have fm := fG_fX12_dot (σ0 := μ) zQ.rf b eb
  exact h.go (Int.le_refl _) (g_dot h.1 a b ea eb) (J.2.2.1 _ _ _ _ _ h.2.1 (zSc.of fc rfl) (zSrm.of fm rfl)) (fun q => ⟨by rw [← fc.o (k := 0) (a := 11) (b := 11) rfl (j := 11) (by decide) (by decide)]; exact q, zKsn.of fc rfl, zKtn.of fm rfl⟩)
theorem gj_row (h : zAlj J K σ μ) {x1 : Int32} : zp2 (fX11_row σ x1) (fX12_row μ x1) (fun r r' => zAlj J K (zRis r) (r'.1)) := fun a b ea eb => by
  have fc := fg_fX11_row (σ0 := σ) zQ.rf a ea
  have fm := fG_fX12_row (σ0 := μ) zQ.rf b eb
  exact h.go (Int.le_refl _) (g_row h.1 a b ea eb) (J.2.2.1 _ _ _ _ _ h.2.1 (zSc.of fc rfl) (zSrm.of fm rfl)) (fun q => ⟨by rw [← fc.o (k := 0) (a := 11) (b := 11) rfl (j := 11) (by decide) (by decide)]; exact q, zKsn.of fc rfl, zKtn.of fm rfl⟩)
theorem gj_hear (h : zAlj J K σ μ) : zp2 (fX11_hear σ ) (fX12_hear μ ) (fun r r' => zAlj J K (zRls r) (r'.1)) := fun a b ea eb => by
  have fc := fe_fX11_hear (σ0 := σ) zQ.rf a ea
  have fm := fV_fX12_hear (σ0 := μ) zQ.rf b eb
  exact h.go (Int.le_refl _) (g_hear h.1 a b ea eb) (J.2.2.2.2.1 _ _ _ h.2.1 a b ea eb) (fun q => ⟨by rw [← fc.o (k := 0) (a := 11) (b := 11) rfl (j := 11) (by decide) (by decide)]; exact q, zKsn.of fc rfl, zKtn.of fm rfl⟩)
theorem gj_mix (h : zAlj J K σ μ) : zp2 (fX11_mix σ ) (fX12_mix μ ) (fun r r' => zAlj J K (zRls r) (r'.1)) := fun a b ea eb => by
  have fc := fe_fX11_mix (σ0 := σ) zQ.rf a ea
  have fm := fV_fX12_mix (σ0 := μ) zQ.rf b eb
  exact h.go (Int.le_refl _) (g_mix h.1 a b ea eb) (J.2.2.2.2.2 _ _ _ h.2.1 a b ea eb) (fun q => ⟨by rw [← fc.o (k := 0) (a := 11) (b := 11) rfl (j := 11) (by decide) (by decide)]; exact q, zKsn.of fc rfl, zKtn.of fm rfl⟩)
theorem gj_wave (h : zAlj J K σ μ) {x1 : Int32} : zp2 (fX11_wave σ x1) (fX12_wave μ x1) (fun r r' => zAlj J K (zRis r) (r'.1)) := fun a b ea eb => by
  have fc := fg_fX11_wave (σ0 := σ) zQ.rf a ea
  have fm := fG_fX12_wave (σ0 := μ) zQ.rf b eb
  exact h.go (Int.le_refl _) (g_wave h.1 a b ea eb) (J.2.2.1 _ _ _ _ _ h.2.1 (zSc.of fc rfl) (zSrm.of fm rfl)) (fun q => ⟨by rw [← fc.o (k := 0) (a := 11) (b := 11) rfl (j := 11) (by decide) (by decide)]; exact q, zKsn.of fc rfl, zKtn.of fm rfl⟩)
theorem gj_sound (h : zAlj J K σ μ) {x1 : Int32} : zp2 (fX11_sound σ x1) (fX12_sound μ x1) (fun r r' => zAlj J K (zRis r) (r'.1)) := fun a b ea eb => by
  have fc := fg_fX11_sound (σ0 := σ) zQ.rf a ea
  have fm := fG_fX12_sound (σ0 := μ) zQ.rf b eb
  exact h.go (Int.le_refl _) (g_sound h.1 a b ea eb) (J.2.2.1 _ _ _ _ _ h.2.1 (zSc.of fc rfl) (zSrm.of fm rfl)) (fun q => ⟨by rw [← fc.o (k := 0) (a := 11) (b := 11) rfl (j := 11) (by decide) (by decide)]; exact q, zKsn.of fc rfl, zKtn.of fm rfl⟩)
theorem gj_trace (h : zAlj J K σ μ) {x1 : Int32} : zp2 (fX11_trace σ x1) (fX12_trace μ x1) (fun r r' => zAlj J K r.1 (r'.1)) := fun a b ea eb => by
  have fc := fg_fX11_trace (σ0 := σ) zQ.rf a ea
  have fm := fG_fX12_trace (σ0 := μ) zQ.rf b eb
  exact h.go (Int.le_refl _) (g_trace h.1 a b ea eb) (J.2.2.1 _ _ _ _ _ h.2.1 (zSc.of fc rfl) (zSrm.of fm rfl)) (fun q => ⟨by rw [← fc.o (k := 0) (a := 11) (b := 11) rfl (j := 11) (by decide) (by decide)]; exact q, zKsn.of fc rfl, zKtn.of fm rfl⟩)
theorem gj_look (h : zAlj J K σ μ) {x1 : Int32} : zp2 (fX11_look σ x1) (fX12_look μ x1) (fun r r' => zAlj J K (zRls r) (r'.1)) := fun a b ea eb => by
  have fc := fg_fX11_look (σ0 := σ) zQ.rf a ea
  have fm := fG_fX12_look (σ0 := μ) zQ.rf b eb
  exact h.go (Int.le_refl _) (g_look h.1 a b ea eb) (J.2.2.1 _ _ _ _ _ h.2.1 (zSc.of fc rfl) (zSrm.of fm rfl)) (fun q => ⟨by rw [← fc.o (k := 0) (a := 11) (b := 11) rfl (j := 11) (by decide) (by decide)]; exact q, zKsn.of fc rfl, zKtn.of fm rfl⟩)
end ZG6
section ZG5
variable {K K0 n k s : Int} {σ μ : zSt} {o : Nat → Int64}
theorem r_feed (h : zAlj zJq K σ μ) (hr : zr 0 262656 (zgi μ 0 2)) {x1 : Int32} {x2 : Int64} {x4 : Int64} {x6 : Int64} : zp2 (fL_feed o σ x1 x2 x4 x6) (fX12_feed μ x1 x2 x4 x6) (fun r r' => zAlj zJq K (r.1.2) (r'.1)) := by
  unfold fL_feed
  exact zp2_hi (I := fun s (r' : zSt × Int32) => zAlj zJq K s (r'.1)) (fun _ _ _ h => zh2_st h) (gj_feed h hr)
theorem r_grow (h : zAlj zJq K σ μ) (hr : zr 0 262656 (zgi μ 0 2)) {x1 : Int32} : zp2 (fL_grow o σ x1) (fX12_grow μ x1) (fun r r' => zAlj zJq K (r.1.2) (r'.1)) := by
  unfold fL_grow
  exact zp2_hi (I := fun s (r' : zSt × Int32) => zAlj zJq K s (r'.1)) (fun _ _ _ h => zh2_st h) (gj_grow h hr)
theorem r_patch (h : zAlj zJq K σ μ) (hr : zr 0 262656 (zgi μ 0 2)) {x1 : Int32} {x2 : Int64} : zp2 (fL_patch σ x1 x2) (fX12_patch μ x1 x2) (fun r r' => zAlj zJq K (r.1) (r')) := by
  unfold fL_patch
  exact zp2_hu (I := fun s (r' : zSt) => zAlj zJq K s (r')) (fun _ _ _ h => zh1_st h) (gj_patch h hr)
theorem r_card (h : zAlj zJq K σ μ) {x1 : Int32} : zp2 (fL_card o σ x1) (fX12_card μ x1) (fun r r' => zAlj zJq K (r.1.2) (r'.1)) := by
  unfold fL_card
  exact zp2_hi (I := fun s (r' : zSt × Int32) => zAlj zJq K s (r'.1)) (fun _ _ _ h => zh1_st h) (gj_card h)
theorem r_step (h : zAlj zJq K σ μ) (hK : K ≤ 9000000000000) (hP : (μ.2 4 2).toInt ≤ 268435456) {x1 : Int32} : zp2 (fL_step o σ x1) (fX12_step μ x1) (fun r r' => zAlj zJq (K + 1000000) (r.1.2) (r'.1)) := by
  unfold fL_step
  exact zp2_hi (I := fun s (r' : zSt × Int32) => zAlj zJq (K + 1000000) s (r'.1)) (fun _ _ _ h => zh1_st h) (gj_step h hK hP)
theorem r_picture (h : zAlj zJq K σ μ) (hK : K ≤ 9000000000000) (hP : (μ.2 4 2).toInt ≤ 268435456) {x1 : Int32} : zp2 (fL_picture o σ x1) (fX12_picture μ x1) (fun r r' => zAlj zJq (K + 1000000) (r.1.2) (r'.1)) := by
  unfold fL_picture
  exact zp2_hi (I := fun s (r' : zSt × Int32) => zAlj zJq (K + 1000000) s (r'.1)) (fun _ _ _ h => zh1_st h) (gj_picture h hK hP)
theorem r_press (h : zAlj zJq K σ μ) {x1 : Int32} {x2 : Int32} : zp2 (fL_press σ x1 x2) (fX12_press μ x1 x2) (fun r r' => zAlj zJq K (r.1) (r')) := by
  unfold fL_press
  exact zp2_hu (I := fun s (r' : zSt) => zAlj zJq K s (r')) (fun _ _ _ h => zh1_st h) (gj_press h)
theorem r_line (h : zAlj zJq K σ μ) {x1 : Int32} {x2 : Int32} : zp2 (fL_line σ x1 x2) (fX12_line μ x1 x2) (fun r r' => zAlj zJq K (r.1) (r')) := by
  unfold fL_line
  exact zp2_hu (I := fun s (r' : zSt) => zAlj zJq K s (r')) (fun _ _ _ h => zh1_st h) (gj_line h)
theorem r_plan (h : zAlj zJq K σ μ) {x1 : Int32} {x2 : Int32} {x3 : Int32} : zp2 (fL_plan o σ x1 x2 x3) (fX12_plan μ x1 x2 x3) (fun r r' => zAlj zJq K (r.1.2) (r'.1)) := by
  unfold fL_plan
  exact zp2_hi (I := fun s (r' : zSt × Int32) => zAlj zJq K s (r'.1)) (fun _ _ _ h => zh2_st h) (gj_plan h)
theorem r_text (h : zAlj zJq K σ μ) {x1 : Int32} : zp2 (fL_text o σ x1) (fX12_text μ x1) (fun r r' => zAlj zJq K (r.1.2) (r'.1)) := by
  unfold fL_text
  exact zp2_hl (I := fun s (r' : zSt × Int64) => zAlj zJq K s (r'.1)) (fun _ _ _ h => zh1_st h) (gj_text h)
theorem r_stop (h : zAlj zJq K σ μ) {x1 : Int32} {x2 : Int32} : zp2 (fL_stop o σ x1 x2) (fX12_stop μ x1 x2) (fun r r' => zAlj zJq K (r.1.2) (r'.1)) := by
  unfold fL_stop
  exact zp2_hi (I := fun s (r' : zSt × Int32) => zAlj zJq K s (r'.1)) (fun _ _ _ h => zh2_st h) (gj_stop h)
theorem r_restore (h : zAlj zJq K σ μ) (hf : σ.1 0 11 = 0 ↔ μ.1 0 19 = 0) : zp2 (fL_restore σ ) (fX12_restore μ ) (fun r r' => zAlj zJq K (r.1) (r')) := by
  unfold fL_restore
  exact zp2_hu (I := fun s (r' : zSt) => zAlj zJq K s (r')) (fun _ _ _ h => zh1_st h) (gj_restore h hf)
theorem r_register (h : zAlj zJq K σ μ) {x1 : Int32} : zp2 (fL_register o σ x1) (fX12_register μ x1) (fun r r' => zAlj zJq K (r.1.2) (r'.1)) := by
  unfold fL_register
  exact zp2_hi (I := fun s (r' : zSt × Int32) => zAlj zJq K s (r'.1)) (fun _ _ _ h => zh1_st h) (gj_register h)
theorem r_set (h : zAlj zJq K σ μ) {x1 : Int32} {x2 : Int32} : zp2 (fL_set σ x1 x2) (fX12_set μ x1 x2) (fun r r' => zAlj zJq K (r.1) (r')) := by
  unfold fL_set
  exact zp2_hu (I := fun s (r' : zSt) => zAlj zJq K s (r')) (fun _ _ _ h => zh1_st h) (gj_set h)
theorem r_battery (h : zAlj zJq K σ μ) {x1 : Int32} : zp2 (fL_battery o σ x1) (fX12_battery μ x1) (fun r r' => zAlj zJq K (r.1.2) (r'.1)) := by
  unfold fL_battery
  exact zp2_hi (I := fun s (r' : zSt × Int32) => zAlj zJq K s (r'.1)) (fun _ _ _ h => zh1_st h) (gj_battery h)
theorem r_chip (h : zAlj zJq K σ μ) {x1 : Int32} : zp2 (fL_chip o σ x1) (fX12_chip μ x1) (fun r r' => zAlj zJq K (r.1.2) (r'.1)) := by
  unfold fL_chip
  exact zp2_hi (I := fun s (r' : zSt × Int32) => zAlj zJq K s (r'.1)) (fun _ _ _ h => zh1_st h) (gj_chip h)
theorem r_dot (h : zAlj zJq K σ μ) {x1 : Int32} {x2 : Int32} : zp2 (fL_dot o σ x1 x2) (fX12_dot μ x1 x2) (fun r r' => zAlj zJq K (r.1.2) (r'.1)) := by
  unfold fL_dot
  exact zp2_hi (I := fun s (r' : zSt × Int32) => zAlj zJq K s (r'.1)) (fun _ _ _ h => zh1_st h) (gj_dot h)
theorem r_row (h : zAlj zJq K σ μ) {x1 : Int32} : zp2 (fL_row o σ x1) (fX12_row μ x1) (fun r r' => zAlj zJq K (r.1.2) (r'.1)) := by
  unfold fL_row
  exact zp2_hi (I := fun s (r' : zSt × Int32) => zAlj zJq K s (r'.1)) (fun _ _ _ h => zh1_st h) (gj_row h)
theorem r_hear (h : zAlj zJq K σ μ) : zp2 (fL_hear o σ ) (fX12_hear μ ) (fun r r' => zAlj zJq K (r.1.2) (r'.1)) := by
  unfold fL_hear
  exact zp2_hl (I := fun s (r' : zSt × Int64) => zAlj zJq K s (r'.1)) (fun _ _ _ h => zh1_st h) (gj_hear h)
theorem r_mix (h : zAlj zJq K σ μ) : zp2 (fL_mix o σ ) (fX12_mix μ ) (fun r r' => zAlj zJq K (r.1.2) (r'.1)) := by
  unfold fL_mix
  exact zp2_hl (I := fun s (r' : zSt × Int64) => zAlj zJq K s (r'.1)) (fun _ _ _ h => zh1_st h) (gj_mix h)
theorem r_wave (h : zAlj zJq K σ μ) {x1 : Int32} : zp2 (fL_wave o σ x1) (fX12_wave μ x1) (fun r r' => zAlj zJq K (r.1.2) (r'.1)) := by
  unfold fL_wave
  exact zp2_hi (I := fun s (r' : zSt × Int32) => zAlj zJq K s (r'.1)) (fun _ _ _ h => zh1_st h) (gj_wave h)
theorem r_sound (h : zAlj zJq K σ μ) {x1 : Int32} : zp2 (fL_sound o σ x1) (fX12_sound μ x1) (fun r r' => zAlj zJq K (r.1.2) (r'.1)) := by
  unfold fL_sound
  exact zp2_hi (I := fun s (r' : zSt × Int32) => zAlj zJq K s (r'.1)) (fun _ _ _ h => zh1_st h) (gj_sound h)
theorem r_look (h : zAlj zJq K σ μ) {x1 : Int32} : zp2 (fL_look o σ x1) (fX12_look μ x1) (fun r r' => zAlj zJq K (r.1.2) (r'.1)) := by
  unfold fL_look
  exact zp2_hl (I := fun s (r' : zSt × Int64) => zAlj zJq K s (r'.1)) (fun _ _ _ h => zh1_st h) (gj_look h)
theorem zAn2.h {o : Nat → Int64} {q : Option zRi} {p : Option (zSt × Int32)} (h : zp2 q p zAn2) : zp2 (zbr q (zhi o zh2)) p zCv := by
  intro a c ea ec
  cases e : q with
  | none => rw [e] at ea; cases ea
  | some r =>
    have i := h r c e ec
    rw [e] at ea
    have ea : zhi o zh2 r = some a := ea
    rcases i with ⟨s, e1, t⟩ | ⟨s, e1, t⟩ | ⟨s, e1, t⟩
    · subst e1
      have ea : (if (1 : Nat) = 1 then some ((o, s), (1 : Int32)) else if (1 : Nat) = 2 then some ((o, s), (2 : Int32)) else none) = some a := ea
      rw [if_pos rfl] at ea
      cases ea
      exact ⟨t, fun z => absurd (show (1 : Int32) = 0 from z) (by decide)⟩
    · subst e1
      have ea : (if (2 : Nat) = 1 then some ((o, s), (1 : Int32)) else if (2 : Nat) = 2 then some ((o, s), (2 : Int32)) else none) = some a := ea
      rw [if_neg (by decide), if_pos rfl] at ea
      cases ea
      exact ⟨t, fun z => absurd (show (2 : Int32) = 0 from z) (by decide)⟩
    · subst e1
      have ea : some ((vp_updL o 0 c.2.toInt64, s), (0 : Int32)) = some a := ea
      cases ea
      refine ⟨t, fun _ => ?_⟩
      show (if (0 : Nat) = 0 then c.2.toInt64 else o 0).toInt = _
      rw [if_pos rfl, Int32.toInt_toInt64]
theorem w_sound (h : zAlj zJq K σ μ) (hK : K ≤ 9000000000000) (hP : (μ.2 4 2).toInt ≤ 268435456) {x1 : Int32} : zp2 (fL_sound o σ x1) (fX12_sound μ x1) zCv := by
  unfold fL_sound
  exact zAns.h (v_sound h.rs)
end ZG5
end ZJN1
section ZJN2
theorem q_fLaw_208 {K n k s h A : Int} {xs : Nat → Int32} {L : Nat} {kn : zSt → (Nat → Int64) → zSt → Int32 → Option Int32} {μ σ : zSt} {o : Nat → Int64} {x4 : Int32} (hM : zRM K n k s μ) (hC : zRC n h s σ) (hR : zAlj zJq A σ μ) (hA : A ≤ 9000000000000) (hb : K + 2100000 ≤ 268435456) (hz : ∀ j : Int32, 0 ≤ j.toInt → j.toInt ≤ 7 → zin (x4 + j) L = true) (hK : ∀ (μ1 : zSt) (o1 : Nat → Int64) (σ1 : zSt) (n s : Int), zRM (K + 2100000) n k s μ1 → zRC n h s σ1 → zAlj zJq (A + 1000000) σ1 μ1 → zok (kn μ1 o1 σ1 (x4 + 8)) (fun r => r = 1)) : zok (fLaw_208 xs L kn μ o σ x4) (fun r => r = 1) := by
  unfold fLaw_208
  refine zok_ck (hz 1 (by decide) (by decide)) ?_
  refine zok_ck (hz 2 (by decide) (by decide)) ?_
  refine zok_ck (hz 3 (by decide) (by decide)) ?_
  refine zok_ck (hz 4 (by decide) (by decide)) ?_
  refine zok_ck (hz 5 (by decide) (by decide)) ?_
  refine zok_ck (hz 6 (by decide) (by decide)) ?_
  refine zok_ck (hz 7 (by decide) (by decide)) ?_
  refine zok_bhE (l_feedx hC) (fun o3 s4 _ e2 p1 => ?_)
  refine zok_ck (hz 1 (by decide) (by decide)) ?_
  refine zok_ck (hz 2 (by decide) (by decide)) ?_
  refine zok_ck (hz 3 (by decide) (by decide)) ?_
  refine zok_ck (hz 4 (by decide) (by decide)) ?_
  refine zok_ck (hz 5 (by decide) (by decide)) ?_
  refine zok_ck (hz 6 (by decide) (by decide)) ?_
  refine zok_ck (hz 7 (by decide) (by decide)) ?_
  refine zok_biE (m_feedx hM) (fun s7 _ e6 p5 => ?_)
  have R6 := r_feed hR hM.len.1 _ _ e2 e6
  obtain ⟨_, ⟨_, c8, m9⟩, _⟩ := zBr.both p1 p5
  refine zok_bv (fun v8 e8 => ?_)
  subst e8
  exact hK _ _ _ _ _ (zRM.mono m9 (by omega) hb) c8 (zAlj.mono R6 (by omega))
theorem q_fLaw_372 {K n k s h A : Int} {xs : Nat → Int32} {L : Nat} {kn : zSt → (Nat → Int64) → zSt → Int32 → Option Int32} {μ σ : zSt} {o : Nat → Int64} {x4 : Int32} (hM : zRM K n k s μ) (hC : zRC n h s σ) (hR : zAlj zJq A σ μ) (hA : A ≤ 9000000000000) (hb : K + 2100000 ≤ 268435456) (hz : ∀ j : Int32, 0 ≤ j.toInt → j.toInt ≤ 7 → zin (x4 + j) L = true) (hK : ∀ (μ1 : zSt) (o1 : Nat → Int64) (σ1 : zSt) (n s : Int), zRM (K + 2100000) n k s μ1 → zRC n h s σ1 → zAlj zJq (A + 1000000) σ1 μ1 → zok (kn μ1 o1 σ1 (x4 + 8)) (fun r => r = 1)) : zok (fLaw_372 xs L kn μ o σ x4) (fun r => r = 1) := by
  unfold fLaw_372
  refine zok_ck (hz 1 (by decide) (by decide)) ?_
  refine zok_bhE (l_growx hC) (fun o3 s4 _ e2 p1 => ?_)
  refine zok_ck (hz 1 (by decide) (by decide)) ?_
  refine zok_biE (m_growx hM) (fun s7 _ e6 p5 => ?_)
  have R6 := r_grow hR hM.len.1 _ _ e2 e6
  obtain ⟨_, ⟨_, c8, m9⟩, _⟩ := zBr.both p1 p5
  refine zok_bv (fun v8 e8 => ?_)
  subst e8
  exact hK _ _ _ _ _ (zRM.mono m9 (by omega) hb) c8 (zAlj.mono R6 (by omega))
theorem q_fLaw_400 {K n k s h A : Int} {xs : Nat → Int32} {L : Nat} {kn : zSt → (Nat → Int64) → zSt → Int32 → Option Int32} {μ σ : zSt} {o : Nat → Int64} {x4 : Int32} (hM : zRM K n k s μ) (hC : zRC n h s σ) (hR : zAlj zJq A σ μ) (hA : A ≤ 9000000000000) (hb : K + 2100000 ≤ 268435456) (hz : ∀ j : Int32, 0 ≤ j.toInt → j.toInt ≤ 7 → zin (x4 + j) L = true) (hK : ∀ (μ1 : zSt) (o1 : Nat → Int64) (σ1 : zSt) (n s : Int), zRM (K + 2100000) n k s μ1 → zRC n h s σ1 → zAlj zJq (A + 1000000) σ1 μ1 → zok (kn μ1 o1 σ1 (x4 + 8)) (fun r => r = 1)) : zok (fLaw_400 xs L kn μ o σ x4) (fun r => r = 1) := by
  unfold fLaw_400
  refine zok_ck (hz 1 (by decide) (by decide)) ?_
  refine zok_ck (hz 2 (by decide) (by decide)) ?_
  refine zok_ck (hz 3 (by decide) (by decide)) ?_
  refine zok_biE (l_patchx hC) (fun s3 _ e2 p1 => ?_)
  refine zok_ck (hz 1 (by decide) (by decide)) ?_
  refine zok_ck (hz 2 (by decide) (by decide)) ?_
  refine zok_ck (hz 3 (by decide) (by decide)) ?_
  refine zok_buE (m_patchx hM) (fun s6 e5 p4 => ?_)
  have R6 := r_patch hR hM.len.1 _ _ e2 e5
  refine zok_bv (fun v8 e8 => ?_)
  subst e8
  exact hK _ _ _ _ _ (zRM.mono p4.1 (by omega) hb) p1.1 (zAlj.mono R6 (by omega))
theorem q_fLaw_469 {K n k s h A : Int} {xs : Nat → Int32} {L : Nat} {kn : zSt → (Nat → Int64) → zSt → Int32 → Option Int32} {μ σ : zSt} {o : Nat → Int64} {x4 : Int32} (hM : zRM K n k s μ) (hC : zRC n h s σ) (hR : zAlj zJq A σ μ) (hA : A ≤ 9000000000000) (hb : K + 2100000 ≤ 268435456) (hz : ∀ j : Int32, 0 ≤ j.toInt → j.toInt ≤ 7 → zin (x4 + j) L = true) (hK : ∀ (μ1 : zSt) (o1 : Nat → Int64) (σ1 : zSt) (n s : Int), zRM (K + 2100000) n k s μ1 → zRC n h s σ1 → zAlj zJq (A + 1000000) σ1 μ1 → zok (kn μ1 o1 σ1 (x4 + 8)) (fun r => r = 1)) : zok (fLaw_469 xs L kn μ o σ x4) (fun r => r = 1) := by
  unfold fLaw_469
  refine zok_biE (c_loadx hC) (fun s3 _ e2 p1 => ?_)
  refine zok_biE (m_loadx hM) (fun s6 _ e5 p4 => ?_)
  have l10 := z2_load hR.1.2.1 hM.len.1 _ _ e2 e5
  have R5 := gj_load hR hM.len.1 _ _ e2 e5
  obtain ⟨e9, _, c7, m8⟩ := zLo.both p1 p4
  have R6 := R5 e9 c7.len.2.1 c7.len.2.2 (zR6.ofL m8 c7 (l10 e9))
  refine zok_bv (fun v8 e8 => ?_)
  subst e8
  exact hK _ _ _ _ _ (zRM.mono m8 (by omega) hb) c7 (zAlj.mono R6 (by omega))
theorem q_fLaw_482 {K n k s h A : Int} {xs : Nat → Int32} {L : Nat} {kn : zSt → (Nat → Int64) → zSt → Int32 → Option Int32} {μ σ : zSt} {o : Nat → Int64} {x4 : Int32} (hM : zRM K n k s μ) (hC : zRC n h s σ) (hR : zAlj zJq A σ μ) (hA : A ≤ 9000000000000) (hb : K + 2100000 ≤ 268435456) (hz : ∀ j : Int32, 0 ≤ j.toInt → j.toInt ≤ 7 → zin (x4 + j) L = true) (hK : ∀ (μ1 : zSt) (o1 : Nat → Int64) (σ1 : zSt) (n s : Int), zRM (K + 2100000) n k s μ1 → zRC n h s σ1 → zAlj zJq (A + 1000000) σ1 μ1 → zok (kn μ1 o1 σ1 (x4 + 8)) (fun r => r = 1)) : zok (fLaw_482 xs L kn μ o σ x4) (fun r => r = 1) := by
  unfold fLaw_482
  refine zok_ck (hz 1 (by decide) (by decide)) ?_
  refine zok_bhE (l_card hC) (fun o3 s4 _ e2 p1 => ?_)
  refine zok_ck (hz 1 (by decide) (by decide)) ?_
  refine zok_biE (m_card hM) (fun s7 _ e6 p5 => ?_)
  have R6 := r_card hR _ _ e2 e6
  refine zok_bv (fun v8 e8 => ?_)
  subst e8
  exact hK _ _ _ _ _ (zRM.mono p5 (by omega) hb) p1 (zAlj.mono R6 (by omega))
theorem q_fLaw_510 {K n k s h A : Int} {xs : Nat → Int32} {L : Nat} {kn : zSt → (Nat → Int64) → zSt → Int32 → Option Int32} {μ σ : zSt} {o : Nat → Int64} {x4 : Int32} (hM : zRM K n k s μ) (hC : zRC n h s σ) (hR : zAlj zJq A σ μ) (hA : A ≤ 9000000000000) (hb : K + 2100000 ≤ 268435456) (hz : ∀ j : Int32, 0 ≤ j.toInt → j.toInt ≤ 7 → zin (x4 + j) L = true) (hK : ∀ (μ1 : zSt) (o1 : Nat → Int64) (σ1 : zSt) (n s : Int), zRM (K + 2100000) n k s μ1 → zRC n h s σ1 → zAlj zJq (A + 1000000) σ1 μ1 → zok (kn μ1 o1 σ1 (x4 + 8)) (fun r => r = 1)) : zok (fLaw_510 xs L kn μ o σ x4) (fun r => r = 1) := by
  unfold fLaw_510
  refine zok_ck (hz 1 (by decide) (by decide)) ?_
  refine zok_bhE (l_step hC) (fun o3 s4 _ e2 p1 => ?_)
  refine zok_ck (hz 1 (by decide) (by decide)) ?_
  refine zok_biE (m_step hM hb) (fun s7 _ e6 p5 => ?_)
  have R6 := r_step hR hA hM.pic _ _ e2 e6
  refine zok_bv (fun v8 e8 => ?_)
  subst e8
  exact hK _ _ _ _ _ p5 p1 R6
theorem q_fLaw_538 {K n k s h A : Int} {xs : Nat → Int32} {L : Nat} {kn : zSt → (Nat → Int64) → zSt → Int32 → Option Int32} {μ σ : zSt} {o : Nat → Int64} {x4 : Int32} (hM : zRM K n k s μ) (hC : zRC n h s σ) (hR : zAlj zJq A σ μ) (hA : A ≤ 9000000000000) (hb : K + 2100000 ≤ 268435456) (hz : ∀ j : Int32, 0 ≤ j.toInt → j.toInt ≤ 7 → zin (x4 + j) L = true) (hK : ∀ (μ1 : zSt) (o1 : Nat → Int64) (σ1 : zSt) (n s : Int), zRM (K + 2100000) n k s μ1 → zRC n h s σ1 → zAlj zJq (A + 1000000) σ1 μ1 → zok (kn μ1 o1 σ1 (x4 + 8)) (fun r => r = 1)) : zok (fLaw_538 xs L kn μ o σ x4) (fun r => r = 1) := by
  unfold fLaw_538
  refine zok_ck (hz 1 (by decide) (by decide)) ?_
  refine zok_bhE (l_picture hC) (fun o3 s4 _ e2 p1 => ?_)
  refine zok_ck (hz 1 (by decide) (by decide)) ?_
  refine zok_biE (m_picture hM hb) (fun s7 _ e6 p5 => ?_)
  have R6 := r_picture hR hA hM.pic _ _ e2 e6
  refine zok_bv (fun v8 e8 => ?_)
  subst e8
  exact hK _ _ _ _ _ p5 p1 R6
theorem q_fLaw_566 {K n k s h A : Int} {xs : Nat → Int32} {L : Nat} {kn : zSt → (Nat → Int64) → zSt → Int32 → Option Int32} {μ σ : zSt} {o : Nat → Int64} {x4 : Int32} (hM : zRM K n k s μ) (hC : zRC n h s σ) (hR : zAlj zJq A σ μ) (hA : A ≤ 9000000000000) (hb : K + 2100000 ≤ 268435456) (hz : ∀ j : Int32, 0 ≤ j.toInt → j.toInt ≤ 7 → zin (x4 + j) L = true) (hK : ∀ (μ1 : zSt) (o1 : Nat → Int64) (σ1 : zSt) (n s : Int), zRM (K + 2100000) n k s μ1 → zRC n h s σ1 → zAlj zJq (A + 1000000) σ1 μ1 → zok (kn μ1 o1 σ1 (x4 + 8)) (fun r => r = 1)) : zok (fLaw_566 xs L kn μ o σ x4) (fun r => r = 1) := by
  unfold fLaw_566
  refine zok_buE (c_reset hC) (fun s3 e2 p1 => ?_)
  refine zok_buE (m_reset hM) (fun s6 e5 p4 => ?_)
  have R6 := gj_reset hR _ _ e2 e5
  refine zok_bv (fun v8 e8 => ?_)
  subst e8
  exact hK _ _ _ _ _ (zRM.mono p4 (by omega) hb) p1 (zAlj.mono R6 (by omega))
theorem q_fLaw_577 {K n k s h A : Int} {xs : Nat → Int32} {L : Nat} {kn : zSt → (Nat → Int64) → zSt → Int32 → Option Int32} {μ σ : zSt} {o : Nat → Int64} {x4 : Int32} (hM : zRM K n k s μ) (hC : zRC n h s σ) (hR : zAlj zJq A σ μ) (hA : A ≤ 9000000000000) (hb : K + 2100000 ≤ 268435456) (hz : ∀ j : Int32, 0 ≤ j.toInt → j.toInt ≤ 7 → zin (x4 + j) L = true) (hK : ∀ (μ1 : zSt) (o1 : Nat → Int64) (σ1 : zSt) (n s : Int), zRM (K + 2100000) n k s μ1 → zRC n h s σ1 → zAlj zJq (A + 1000000) σ1 μ1 → zok (kn μ1 o1 σ1 (x4 + 8)) (fun r => r = 1)) : zok (fLaw_577 xs L kn μ o σ x4) (fun r => r = 1) := by
  unfold fLaw_577
  refine zok_biE (c_pause hC) (fun s3 _ e2 p1 => ?_)
  refine zok_biE (m_pause hM) (fun s6 _ e5 p4 => ?_)
  have R6 := gj_pause hR _ _ e2 e5
  refine zok_bv (fun v8 e8 => ?_)
  subst e8
  exact hK _ _ _ _ _ (zRM.mono p4 (by omega) hb) p1 (zAlj.mono R6 (by omega))
theorem q_fLaw_590 {K n k s h A : Int} {xs : Nat → Int32} {L : Nat} {kn : zSt → (Nat → Int64) → zSt → Int32 → Option Int32} {μ σ : zSt} {o : Nat → Int64} {x4 : Int32} (hM : zRM K n k s μ) (hC : zRC n h s σ) (hR : zAlj zJq A σ μ) (hA : A ≤ 9000000000000) (hb : K + 2100000 ≤ 268435456) (hz : ∀ j : Int32, 0 ≤ j.toInt → j.toInt ≤ 7 → zin (x4 + j) L = true) (hK : ∀ (μ1 : zSt) (o1 : Nat → Int64) (σ1 : zSt) (n s : Int), zRM (K + 2100000) n k s μ1 → zRC n h s σ1 → zAlj zJq (A + 1000000) σ1 μ1 → zok (kn μ1 o1 σ1 (x4 + 8)) (fun r => r = 1)) : zok (fLaw_590 xs L kn μ o σ x4) (fun r => r = 1) := by
  unfold fLaw_590
  refine zok_ck (hz 1 (by decide) (by decide)) ?_
  refine zok_ck (hz 2 (by decide) (by decide)) ?_
  refine zok_biE (l_press hC) (fun s3 _ e2 p1 => ?_)
  refine zok_ck (hz 1 (by decide) (by decide)) ?_
  refine zok_ck (hz 2 (by decide) (by decide)) ?_
  refine zok_buE (m_press hM) (fun s6 e5 p4 => ?_)
  have R6 := r_press hR _ _ e2 e5
  refine zok_bv (fun v8 e8 => ?_)
  subst e8
  exact hK _ _ _ _ _ (zRM.mono p4 (by omega) hb) p1 (zAlj.mono R6 (by omega))
theorem q_fLaw_627 {K n k s h A : Int} {xs : Nat → Int32} {L : Nat} {kn : zSt → (Nat → Int64) → zSt → Int32 → Option Int32} {μ σ : zSt} {o : Nat → Int64} {x4 : Int32} (hM : zRM K n k s μ) (hC : zRC n h s σ) (hR : zAlj zJq A σ μ) (hA : A ≤ 9000000000000) (hb : K + 2100000 ≤ 268435456) (hz : ∀ j : Int32, 0 ≤ j.toInt → j.toInt ≤ 7 → zin (x4 + j) L = true) (hK : ∀ (μ1 : zSt) (o1 : Nat → Int64) (σ1 : zSt) (n s : Int), zRM (K + 2100000) n k s μ1 → zRC n h s σ1 → zAlj zJq (A + 1000000) σ1 μ1 → zok (kn μ1 o1 σ1 (x4 + 8)) (fun r => r = 1)) : zok (fLaw_627 xs L kn μ o σ x4) (fun r => r = 1) := by
  unfold fLaw_627
  refine zok_ck (hz 1 (by decide) (by decide)) ?_
  refine zok_if (fun q1 => ?_) (fun q1 => ?_)
  · refine zok_buE (c_start hC (zr_c (by decide))) (fun s4 e3 p2 => ?_)
    refine zok_ck (hz 1 (by decide) (by decide)) ?_
    refine zok_if (fun _ => ?_) (fun z => absurd q1 z)
    refine zok_buE (m_start hM (zr_c (by decide))) (fun s7 e6 p5 => ?_)
    have R6 := gj_start hR _ _ e3 e6
    refine zok_bv (fun v8 e8 => ?_)
    subst e8
    exact hK _ _ _ _ _ (zRM.mono p5 (by omega) hb) p2 (zAlj.mono R6 (by omega))
  · refine zok_buE (c_start hC (zr_c (by decide))) (fun s10 e9 p8 => ?_)
    refine zok_ck (hz 1 (by decide) (by decide)) ?_
    refine zok_if (fun z => absurd z q1) (fun _ => ?_)
    refine zok_buE (m_start hM (zr_c (by decide))) (fun s13 e12 p11 => ?_)
    have R6 := gj_start hR _ _ e9 e12
    refine zok_bv (fun v8 e8 => ?_)
    subst e8
    exact hK _ _ _ _ _ (zRM.mono p11 (by omega) hb) p8 (zAlj.mono R6 (by omega))
theorem q_fLaw_666 {K n k s h A : Int} {xs : Nat → Int32} {L : Nat} {kn : zSt → (Nat → Int64) → zSt → Int32 → Option Int32} {μ σ : zSt} {o : Nat → Int64} {x4 : Int32} (hM : zRM K n k s μ) (hC : zRC n h s σ) (hR : zAlj zJq A σ μ) (hA : A ≤ 9000000000000) (hb : K + 2100000 ≤ 268435456) (hz : ∀ j : Int32, 0 ≤ j.toInt → j.toInt ≤ 7 → zin (x4 + j) L = true) (hK : ∀ (μ1 : zSt) (o1 : Nat → Int64) (σ1 : zSt) (n s : Int), zRM (K + 2100000) n k s μ1 → zRC n h s σ1 → zAlj zJq (A + 1000000) σ1 μ1 → zok (kn μ1 o1 σ1 (x4 + 8)) (fun r => r = 1)) : zok (fLaw_666 xs L kn μ o σ x4) (fun r => r = 1) := by
  unfold fLaw_666
  refine zok_ck (hz 1 (by decide) (by decide)) ?_
  refine zok_ck (hz 2 (by decide) (by decide)) ?_
  refine zok_if (fun q1 => ?_) (fun q1 => ?_)
  · refine zok_biE (l_line hC (zr_c (by decide))) (fun s4 _ e3 p2 => ?_)
    refine zok_ck (hz 1 (by decide) (by decide)) ?_
    refine zok_ck (hz 2 (by decide) (by decide)) ?_
    refine zok_if (fun _ => ?_) (fun z => absurd q1 z)
    refine zok_buE (m_line hM (zr_c (by decide))) (fun s7 e6 p5 => ?_)
    have R6 := r_line hR _ _ e3 e6
    refine zok_bv (fun v8 e8 => ?_)
    subst e8
    exact hK _ _ _ _ _ (zRM.mono p5 (by omega) hb) p2 (zAlj.mono R6 (by omega))
  · refine zok_biE (l_line hC (zr_c (by decide))) (fun s10 _ e9 p8 => ?_)
    refine zok_ck (hz 1 (by decide) (by decide)) ?_
    refine zok_ck (hz 2 (by decide) (by decide)) ?_
    refine zok_if (fun z => absurd z q1) (fun _ => ?_)
    refine zok_buE (m_line hM (zr_c (by decide))) (fun s13 e12 p11 => ?_)
    have R6 := r_line hR _ _ e9 e12
    refine zok_bv (fun v8 e8 => ?_)
    subst e8
    exact hK _ _ _ _ _ (zRM.mono p11 (by omega) hb) p8 (zAlj.mono R6 (by omega))
theorem q_fLaw_719 {K n k s h A : Int} {xs : Nat → Int32} {L : Nat} {kn : zSt → (Nat → Int64) → zSt → Int32 → Option Int32} {μ σ : zSt} {o : Nat → Int64} {x4 : Int32} (hM : zRM K n k s μ) (hC : zRC n h s σ) (hR : zAlj zJq A σ μ) (hA : A ≤ 9000000000000) (hb : K + 2100000 ≤ 268435456) (hz : ∀ j : Int32, 0 ≤ j.toInt → j.toInt ≤ 7 → zin (x4 + j) L = true) (hK : ∀ (μ1 : zSt) (o1 : Nat → Int64) (σ1 : zSt) (n s : Int), zRM (K + 2100000) n k s μ1 → zRC n h s σ1 → zAlj zJq (A + 1000000) σ1 μ1 → zok (kn μ1 o1 σ1 (x4 + 8)) (fun r => r = 1)) : zok (fLaw_719 xs L kn μ o σ x4) (fun r => r = 1) := by
  unfold fLaw_719
  refine zok_ck (hz 1 (by decide) (by decide)) ?_
  refine zok_ck (hz 2 (by decide) (by decide)) ?_
  refine zok_ck (hz 3 (by decide) (by decide)) ?_
  refine zok_bhE (l_plan hC) (fun o3 s4 _ e2 p1 => ?_)
  refine zok_ck (hz 1 (by decide) (by decide)) ?_
  refine zok_ck (hz 2 (by decide) (by decide)) ?_
  refine zok_ck (hz 3 (by decide) (by decide)) ?_
  refine zok_biE (m_plan hM) (fun s7 _ e6 p5 => ?_)
  have R6 := r_plan hR _ _ e2 e6
  refine zok_bv (fun v8 e8 => ?_)
  subst e8
  exact hK _ _ _ _ _ (zRM.mono p5 (by omega) hb) p1 (zAlj.mono R6 (by omega))
theorem q_fLaw_771 {K n k s h A : Int} {xs : Nat → Int32} {L : Nat} {kn : zSt → (Nat → Int64) → zSt → Int32 → Option Int32} {μ σ : zSt} {o : Nat → Int64} {x4 : Int32} (hM : zRM K n k s μ) (hC : zRC n h s σ) (hR : zAlj zJq A σ μ) (hA : A ≤ 9000000000000) (hb : K + 2100000 ≤ 268435456) (hz : ∀ j : Int32, 0 ≤ j.toInt → j.toInt ≤ 7 → zin (x4 + j) L = true) (hK : ∀ (μ1 : zSt) (o1 : Nat → Int64) (σ1 : zSt) (n s : Int), zRM (K + 2100000) n k s μ1 → zRC n h s σ1 → zAlj zJq (A + 1000000) σ1 μ1 → zok (kn μ1 o1 σ1 (x4 + 8)) (fun r => r = 1)) : zok (fLaw_771 xs L kn μ o σ x4) (fun r => r = 1) := by
  unfold fLaw_771
  refine zok_ck (hz 1 (by decide) (by decide)) ?_
  refine zok_biE (c_tell hC) (fun s3 _ e2 p1 => ?_)
  refine zok_ck (hz 1 (by decide) (by decide)) ?_
  refine zok_biE (m_tell hM) (fun s6 _ e5 p4 => ?_)
  have R6 := gj_tell hR _ _ e2 e5
  refine zok_bv (fun v8 e8 => ?_)
  subst e8
  exact hK _ _ _ _ _ (zRM.mono p4 (by omega) hb) p1 (zAlj.mono R6 (by omega))
theorem q_fLaw_796 {K n k s h A : Int} {xs : Nat → Int32} {L : Nat} {kn : zSt → (Nat → Int64) → zSt → Int32 → Option Int32} {μ σ : zSt} {o : Nat → Int64} {x4 : Int32} (hM : zRM K n k s μ) (hC : zRC n h s σ) (hR : zAlj zJq A σ μ) (hA : A ≤ 9000000000000) (hb : K + 2100000 ≤ 268435456) (hz : ∀ j : Int32, 0 ≤ j.toInt → j.toInt ≤ 7 → zin (x4 + j) L = true) (hK : ∀ (μ1 : zSt) (o1 : Nat → Int64) (σ1 : zSt) (n s : Int), zRM (K + 2100000) n k s μ1 → zRC n h s σ1 → zAlj zJq (A + 1000000) σ1 μ1 → zok (kn μ1 o1 σ1 (x4 + 8)) (fun r => r = 1)) : zok (fLaw_796 xs L kn μ o σ x4) (fun r => r = 1) := by
  unfold fLaw_796
  refine zok_ck (hz 1 (by decide) (by decide)) ?_
  refine zok_bhE (l_text hC) (fun o3 s4 _ e2 p1 => ?_)
  refine zok_ck (hz 1 (by decide) (by decide)) ?_
  refine zok_bllE (m_text hM) (fun s7 _ e6 p5 => ?_)
  have R6 := r_text hR _ _ e2 e6
  refine zok_bv (fun v8 e8 => ?_)
  subst e8
  exact hK _ _ _ _ _ (zRM.mono p5 (by omega) hb) p1 (zAlj.mono R6 (by omega))
theorem q_fLaw_824 {K n k s h A : Int} {xs : Nat → Int32} {L : Nat} {kn : zSt → (Nat → Int64) → zSt → Int32 → Option Int32} {μ σ : zSt} {o : Nat → Int64} {x4 : Int32} (hM : zRM K n k s μ) (hC : zRC n h s σ) (hR : zAlj zJq A σ μ) (hA : A ≤ 9000000000000) (hb : K + 2100000 ≤ 268435456) (hz : ∀ j : Int32, 0 ≤ j.toInt → j.toInt ≤ 7 → zin (x4 + j) L = true) (hK : ∀ (μ1 : zSt) (o1 : Nat → Int64) (σ1 : zSt) (n s : Int), zRM (K + 2100000) n k s μ1 → zRC n h s σ1 → zAlj zJq (A + 1000000) σ1 μ1 → zok (kn μ1 o1 σ1 (x4 + 8)) (fun r => r = 1)) : zok (fLaw_824 xs L kn μ o σ x4) (fun r => r = 1) := by
  unfold fLaw_824
  refine zok_ck (hz 1 (by decide) (by decide)) ?_
  refine zok_ck (hz 2 (by decide) (by decide)) ?_
  refine zok_if (fun q1 => ?_) (fun q1 => ?_)
  · refine zok_bhE (l_stop hC (zr_c (by decide))) (fun o4 s5 _ e3 p2 => ?_)
    refine zok_ck (hz 1 (by decide) (by decide)) ?_
    refine zok_ck (hz 2 (by decide) (by decide)) ?_
    refine zok_if (fun _ => ?_) (fun z => absurd q1 z)
    refine zok_biE (m_stop hM (zr_c (by decide))) (fun s8 _ e7 p6 => ?_)
    have R6 := r_stop hR _ _ e3 e7
    refine zok_bv (fun v8 e8 => ?_)
    subst e8
    exact hK _ _ _ _ _ (zRM.mono p6 (by omega) hb) p2 (zAlj.mono R6 (by omega))
  · refine zok_bhE (l_stop hC (zr_c (by decide))) (fun o11 s12 _ e10 p9 => ?_)
    refine zok_ck (hz 1 (by decide) (by decide)) ?_
    refine zok_ck (hz 2 (by decide) (by decide)) ?_
    refine zok_if (fun z => absurd z q1) (fun _ => ?_)
    refine zok_biE (m_stop hM (zr_c (by decide))) (fun s15 _ e14 p13 => ?_)
    have R6 := r_stop hR _ _ e10 e14
    refine zok_bv (fun v8 e8 => ?_)
    subst e8
    exact hK _ _ _ _ _ (zRM.mono p13 (by omega) hb) p9 (zAlj.mono R6 (by omega))
theorem q_fLaw_880 {K n k s h A : Int} {xs : Nat → Int32} {L : Nat} {kn : zSt → (Nat → Int64) → zSt → Int32 → Option Int32} {μ σ : zSt} {o : Nat → Int64} {x4 : Int32} (hM : zRM K n k s μ) (hC : zRC n h s σ) (hR : zAlj zJq A σ μ) (hA : A ≤ 9000000000000) (hb : K + 2100000 ≤ 268435456) (hz : ∀ j : Int32, 0 ≤ j.toInt → j.toInt ≤ 7 → zin (x4 + j) L = true) (hK : ∀ (μ1 : zSt) (o1 : Nat → Int64) (σ1 : zSt) (n s : Int), zRM (K + 2100000) n k s μ1 → zRC n h s σ1 → zAlj zJq (A + 1000000) σ1 μ1 → zok (kn μ1 o1 σ1 (x4 + 8)) (fun r => r = 1)) : zok (fLaw_880 xs L kn μ o σ x4) (fun r => r = 1) := by
  unfold fLaw_880
  refine zok_buE (c_savex hC) (fun s3 e2 p1 => ?_)
  refine zok_buE (m_save hM) (fun s6 e5 p4 => ?_)
  have R6 := gj_save hR _ _ e2 e5
  refine zok_bv (fun v8 e8 => ?_)
  subst e8
  exact hK _ _ _ _ _ (zRM.mono p4 (by omega) hb) p1 (zAlj.mono R6 (by omega))
theorem q_fLaw_891 {K n k s h A : Int} {xs : Nat → Int32} {L : Nat} {kn : zSt → (Nat → Int64) → zSt → Int32 → Option Int32} {μ σ : zSt} {o : Nat → Int64} {x4 : Int32} (hM : zRM K n k s μ) (hC : zRC n h s σ) (hR : zAlj zJq A σ μ) (hA : A ≤ 9000000000000) (hb : K + 2100000 ≤ 268435456) (hz : ∀ j : Int32, 0 ≤ j.toInt → j.toInt ≤ 7 → zin (x4 + j) L = true) (hK : ∀ (μ1 : zSt) (o1 : Nat → Int64) (σ1 : zSt) (n s : Int), zRM (K + 2100000) n k s μ1 → zRC n h s σ1 → zAlj zJq (A + 1000000) σ1 μ1 → zok (kn μ1 o1 σ1 (x4 + 8)) (fun r => r = 1)) : zok (fLaw_891 xs L kn μ o σ x4) (fun r => r = 1) := by
  unfold fLaw_891
  refine zok_biE (l_restorex hC) (fun s3 _ e2 p1 => ?_)
  refine zok_buE (m_restorex hM) (fun s6 e5 p4 => ?_)
  have R6 := r_restore hR (z_flag hM hC) _ _ e2 e5
  refine zok_bv (fun v8 e8 => ?_)
  subst e8
  exact hK _ _ _ _ _ (zRM.mono p4.1 (by omega) hb) p1.1 (zAlj.mono R6 (by omega))
theorem q_fLaw_904 {K n k s h A : Int} {xs : Nat → Int32} {L : Nat} {kn : zSt → (Nat → Int64) → zSt → Int32 → Option Int32} {μ σ : zSt} {o : Nat → Int64} {x4 : Int32} (hM : zRM K n k s μ) (hC : zRC n h s σ) (hR : zAlj zJq A σ μ) (hA : A ≤ 9000000000000) (hb : K + 2100000 ≤ 268435456) (hz : ∀ j : Int32, 0 ≤ j.toInt → j.toInt ≤ 7 → zin (x4 + j) L = true) (hK : ∀ (μ1 : zSt) (o1 : Nat → Int64) (σ1 : zSt) (n s : Int), zRM (K + 2100000) n k s μ1 → zRC n h s σ1 → zAlj zJq (A + 1000000) σ1 μ1 → zok (kn μ1 o1 σ1 (x4 + 8)) (fun r => r = 1)) : zok (fLaw_904 xs L kn μ o σ x4) (fun r => r = 1) := by
  unfold fLaw_904
  refine zok_ck (hz 1 (by decide) (by decide)) ?_
  refine zok_bhE (l_register hC) (fun o3 s4 _ e2 p1 => ?_)
  refine zok_ck (hz 1 (by decide) (by decide)) ?_
  refine zok_biE (m_register hM) (fun s7 _ e6 p5 => ?_)
  have R6 := r_register hR _ _ e2 e6
  refine zok_bv (fun v8 e8 => ?_)
  subst e8
  exact hK _ _ _ _ _ (zRM.mono p5 (by omega) hb) p1 (zAlj.mono R6 (by omega))
theorem q_fLaw_932 {K n k s h A : Int} {xs : Nat → Int32} {L : Nat} {kn : zSt → (Nat → Int64) → zSt → Int32 → Option Int32} {μ σ : zSt} {o : Nat → Int64} {x4 : Int32} (hM : zRM K n k s μ) (hC : zRC n h s σ) (hR : zAlj zJq A σ μ) (hA : A ≤ 9000000000000) (hb : K + 2100000 ≤ 268435456) (hz : ∀ j : Int32, 0 ≤ j.toInt → j.toInt ≤ 7 → zin (x4 + j) L = true) (hK : ∀ (μ1 : zSt) (o1 : Nat → Int64) (σ1 : zSt) (n s : Int), zRM (K + 2100000) n k s μ1 → zRC n h s σ1 → zAlj zJq (A + 1000000) σ1 μ1 → zok (kn μ1 o1 σ1 (x4 + 8)) (fun r => r = 1)) : zok (fLaw_932 xs L kn μ o σ x4) (fun r => r = 1) := by
  unfold fLaw_932
  refine zok_ck (hz 1 (by decide) (by decide)) ?_
  refine zok_ck (hz 2 (by decide) (by decide)) ?_
  refine zok_biE (l_set hC) (fun s3 _ e2 p1 => ?_)
  refine zok_ck (hz 1 (by decide) (by decide)) ?_
  refine zok_ck (hz 2 (by decide) (by decide)) ?_
  refine zok_buE (m_set hM) (fun s6 e5 p4 => ?_)
  have R6 := r_set hR _ _ e2 e5
  refine zok_bv (fun v8 e8 => ?_)
  subst e8
  exact hK _ _ _ _ _ (zRM.mono p4 (by omega) hb) p1 (zAlj.mono R6 (by omega))
theorem q_fLaw_969 {K n k s h A : Int} {xs : Nat → Int32} {L : Nat} {kn : zSt → (Nat → Int64) → zSt → Int32 → Option Int32} {μ σ : zSt} {o : Nat → Int64} {x4 : Int32} (hM : zRM K n k s μ) (hC : zRC n h s σ) (hR : zAlj zJq A σ μ) (hA : A ≤ 9000000000000) (hb : K + 2100000 ≤ 268435456) (hz : ∀ j : Int32, 0 ≤ j.toInt → j.toInt ≤ 7 → zin (x4 + j) L = true) (hK : ∀ (μ1 : zSt) (o1 : Nat → Int64) (σ1 : zSt) (n s : Int), zRM (K + 2100000) n k s μ1 → zRC n h s σ1 → zAlj zJq (A + 1000000) σ1 μ1 → zok (kn μ1 o1 σ1 (x4 + 8)) (fun r => r = 1)) : zok (fLaw_969 xs L kn μ o σ x4) (fun r => r = 1) := by
  unfold fLaw_969
  refine zok_ck (hz 1 (by decide) (by decide)) ?_
  refine zok_biE (c_peek hC) (fun s3 _ e2 p1 => ?_)
  refine zok_ck (hz 1 (by decide) (by decide)) ?_
  refine zok_biE (m_peek hM) (fun s6 _ e5 p4 => ?_)
  have R6 := gj_peek hR _ _ e2 e5
  refine zok_bv (fun v8 e8 => ?_)
  subst e8
  exact hK _ _ _ _ _ (zRM.mono p4 (by omega) hb) p1 (zAlj.mono R6 (by omega))
theorem q_fLaw_994 {K n k s h A : Int} {xs : Nat → Int32} {L : Nat} {kn : zSt → (Nat → Int64) → zSt → Int32 → Option Int32} {μ σ : zSt} {o : Nat → Int64} {x4 : Int32} (hM : zRM K n k s μ) (hC : zRC n h s σ) (hR : zAlj zJq A σ μ) (hA : A ≤ 9000000000000) (hb : K + 2100000 ≤ 268435456) (hz : ∀ j : Int32, 0 ≤ j.toInt → j.toInt ≤ 7 → zin (x4 + j) L = true) (hK : ∀ (μ1 : zSt) (o1 : Nat → Int64) (σ1 : zSt) (n s : Int), zRM (K + 2100000) n k s μ1 → zRC n h s σ1 → zAlj zJq (A + 1000000) σ1 μ1 → zok (kn μ1 o1 σ1 (x4 + 8)) (fun r => r = 1)) : zok (fLaw_994 xs L kn μ o σ x4) (fun r => r = 1) := by
  unfold fLaw_994
  refine zok_ck (hz 1 (by decide) (by decide)) ?_
  refine zok_ck (hz 2 (by decide) (by decide)) ?_
  refine zok_buE (c_poke hC) (fun s3 e2 p1 => ?_)
  refine zok_ck (hz 1 (by decide) (by decide)) ?_
  refine zok_ck (hz 2 (by decide) (by decide)) ?_
  refine zok_buE (m_poke hM) (fun s6 e5 p4 => ?_)
  have R6 := gj_poke hR _ _ e2 e5
  refine zok_bv (fun v8 e8 => ?_)
  subst e8
  exact hK _ _ _ _ _ (zRM.mono p4 (by omega) hb) p1 (zAlj.mono R6 (by omega))
theorem q_fLaw_1029 {K n k s h A : Int} {xs : Nat → Int32} {L : Nat} {kn : zSt → (Nat → Int64) → zSt → Int32 → Option Int32} {μ σ : zSt} {o : Nat → Int64} {x4 : Int32} (hM : zRM K n k s μ) (hC : zRC n h s σ) (hR : zAlj zJq A σ μ) (hA : A ≤ 9000000000000) (hb : K + 2100000 ≤ 268435456) (hz : ∀ j : Int32, 0 ≤ j.toInt → j.toInt ≤ 7 → zin (x4 + j) L = true) (hK : ∀ (μ1 : zSt) (o1 : Nat → Int64) (σ1 : zSt) (n s : Int), zRM (K + 2100000) n k s μ1 → zRC n h s σ1 → zAlj zJq (A + 1000000) σ1 μ1 → zok (kn μ1 o1 σ1 (x4 + 8)) (fun r => r = 1)) : zok (fLaw_1029 xs L kn μ o σ x4) (fun r => r = 1) := by
  unfold fLaw_1029
  refine zok_ck (hz 1 (by decide) (by decide)) ?_
  refine zok_biE (c_in hC) (fun s3 _ e2 p1 => ?_)
  refine zok_ck (hz 1 (by decide) (by decide)) ?_
  refine zok_biE (m_in hM) (fun s6 _ e5 p4 => ?_)
  have R6 := gj_in hR _ _ e2 e5
  refine zok_bv (fun v8 e8 => ?_)
  subst e8
  exact hK _ _ _ _ _ (zRM.mono p4 (by omega) hb) p1 (zAlj.mono R6 (by omega))
theorem q_fLaw_1054 {K n k s h A : Int} {xs : Nat → Int32} {L : Nat} {kn : zSt → (Nat → Int64) → zSt → Int32 → Option Int32} {μ σ : zSt} {o : Nat → Int64} {x4 : Int32} (hM : zRM K n k s μ) (hC : zRC n h s σ) (hR : zAlj zJq A σ μ) (hA : A ≤ 9000000000000) (hb : K + 2100000 ≤ 268435456) (hz : ∀ j : Int32, 0 ≤ j.toInt → j.toInt ≤ 7 → zin (x4 + j) L = true) (hK : ∀ (μ1 : zSt) (o1 : Nat → Int64) (σ1 : zSt) (n s : Int), zRM (K + 2100000) n k s μ1 → zRC n h s σ1 → zAlj zJq (A + 1000000) σ1 μ1 → zok (kn μ1 o1 σ1 (x4 + 8)) (fun r => r = 1)) : zok (fLaw_1054 xs L kn μ o σ x4) (fun r => r = 1) := by
  unfold fLaw_1054
  refine zok_ck (hz 1 (by decide) (by decide)) ?_
  refine zok_ck (hz 2 (by decide) (by decide)) ?_
  refine zok_buE (c_out hC) (fun s3 e2 p1 => ?_)
  refine zok_ck (hz 1 (by decide) (by decide)) ?_
  refine zok_ck (hz 2 (by decide) (by decide)) ?_
  refine zok_buE (m_out hM) (fun s6 e5 p4 => ?_)
  have R6 := gj_out hR _ _ e2 e5
  refine zok_bv (fun v8 e8 => ?_)
  subst e8
  exact hK _ _ _ _ _ (zRM.mono p4 (by omega) hb) p1 (zAlj.mono R6 (by omega))
theorem q_fLaw_1089 {K n k s h A : Int} {xs : Nat → Int32} {L : Nat} {kn : zSt → (Nat → Int64) → zSt → Int32 → Option Int32} {μ σ : zSt} {o : Nat → Int64} {x4 : Int32} (hM : zRM K n k s μ) (hC : zRC n h s σ) (hR : zAlj zJq A σ μ) (hA : A ≤ 9000000000000) (hb : K + 2100000 ≤ 268435456) (hz : ∀ j : Int32, 0 ≤ j.toInt → j.toInt ≤ 7 → zin (x4 + j) L = true) (hK : ∀ (μ1 : zSt) (o1 : Nat → Int64) (σ1 : zSt) (n s : Int), zRM (K + 2100000) n k s μ1 → zRC n h s σ1 → zAlj zJq (A + 1000000) σ1 μ1 → zok (kn μ1 o1 σ1 (x4 + 8)) (fun r => r = 1)) : zok (fLaw_1089 xs L kn μ o σ x4) (fun r => r = 1) := by
  unfold fLaw_1089
  refine zok_ck (hz 1 (by decide) (by decide)) ?_
  refine zok_bhE (l_battery hC) (fun o3 s4 _ e2 p1 => ?_)
  refine zok_ck (hz 1 (by decide) (by decide)) ?_
  refine zok_biE (m_battery hM) (fun s7 _ e6 p5 => ?_)
  have R6 := r_battery hR _ _ e2 e6
  refine zok_bv (fun v8 e8 => ?_)
  subst e8
  exact hK _ _ _ _ _ (zRM.mono p5 (by omega) hb) p1 (zAlj.mono R6 (by omega))
theorem q_fLaw_1117 {K n k s h A : Int} {xs : Nat → Int32} {L : Nat} {kn : zSt → (Nat → Int64) → zSt → Int32 → Option Int32} {μ σ : zSt} {o : Nat → Int64} {x4 : Int32} (hM : zRM K n k s μ) (hC : zRC n h s σ) (hR : zAlj zJq A σ μ) (hA : A ≤ 9000000000000) (hb : K + 2100000 ≤ 268435456) (hz : ∀ j : Int32, 0 ≤ j.toInt → j.toInt ≤ 7 → zin (x4 + j) L = true) (hK : ∀ (μ1 : zSt) (o1 : Nat → Int64) (σ1 : zSt) (n s : Int), zRM (K + 2100000) n k s μ1 → zRC n h s σ1 → zAlj zJq (A + 1000000) σ1 μ1 → zok (kn μ1 o1 σ1 (x4 + 8)) (fun r => r = 1)) : zok (fLaw_1117 xs L kn μ o σ x4) (fun r => r = 1) := by
  unfold fLaw_1117
  refine zok_buE (c_wipe hC) (fun s3 e2 p1 => ?_)
  refine zok_buE (m_wipe hM) (fun s6 e5 p4 => ?_)
  have R6 := gj_wipe hR _ _ e2 e5
  refine zok_bv (fun v8 e8 => ?_)
  subst e8
  exact hK _ _ _ _ _ (zRM.mono p4 (by omega) hb) p1 (zAlj.mono R6 (by omega))
theorem q_fLaw_1128 {K n k s h A : Int} {xs : Nat → Int32} {L : Nat} {kn : zSt → (Nat → Int64) → zSt → Int32 → Option Int32} {μ σ : zSt} {o : Nat → Int64} {x4 : Int32} (hM : zRM K n k s μ) (hC : zRC n h s σ) (hR : zAlj zJq A σ μ) (hA : A ≤ 9000000000000) (hb : K + 2100000 ≤ 268435456) (hz : ∀ j : Int32, 0 ≤ j.toInt → j.toInt ≤ 7 → zin (x4 + j) L = true) (hK : ∀ (μ1 : zSt) (o1 : Nat → Int64) (σ1 : zSt) (n s : Int), zRM (K + 2100000) n k s μ1 → zRC n h s σ1 → zAlj zJq (A + 1000000) σ1 μ1 → zok (kn μ1 o1 σ1 (x4 + 8)) (fun r => r = 1)) : zok (fLaw_1128 xs L kn μ o σ x4) (fun r => r = 1) := by
  unfold fLaw_1128
  refine zok_ck (hz 1 (by decide) (by decide)) ?_
  refine zok_bllE (c_video hC) (fun s3 _ e2 p1 => ?_)
  refine zok_ck (hz 1 (by decide) (by decide)) ?_
  refine zok_bllE (m_video hM) (fun s6 _ e5 p4 => ?_)
  have R6 := gj_video hR _ _ e2 e5
  refine zok_bv (fun v8 e8 => ?_)
  subst e8
  exact hK _ _ _ _ _ (zRM.mono p4 (by omega) hb) p1 (zAlj.mono R6 (by omega))
theorem q_fLaw_1153 {K n k s h A : Int} {xs : Nat → Int32} {L : Nat} {kn : zSt → (Nat → Int64) → zSt → Int32 → Option Int32} {μ σ : zSt} {o : Nat → Int64} {x4 : Int32} (hM : zRM K n k s μ) (hC : zRC n h s σ) (hR : zAlj zJq A σ μ) (hA : A ≤ 9000000000000) (hb : K + 2100000 ≤ 268435456) (hz : ∀ j : Int32, 0 ≤ j.toInt → j.toInt ≤ 7 → zin (x4 + j) L = true) (hK : ∀ (μ1 : zSt) (o1 : Nat → Int64) (σ1 : zSt) (n s : Int), zRM (K + 2100000) n k s μ1 → zRC n h s σ1 → zAlj zJq (A + 1000000) σ1 μ1 → zok (kn μ1 o1 σ1 (x4 + 8)) (fun r => r = 1)) : zok (fLaw_1153 xs L kn μ o σ x4) (fun r => r = 1) := by
  unfold fLaw_1153
  refine zok_ck (hz 1 (by decide) (by decide)) ?_
  refine zok_bhE (l_chip hC) (fun o3 s4 _ e2 p1 => ?_)
  refine zok_ck (hz 1 (by decide) (by decide)) ?_
  refine zok_biE (m_chip hM) (fun s7 _ e6 p5 => ?_)
  have R6 := r_chip hR _ _ e2 e6
  refine zok_bv (fun v8 e8 => ?_)
  subst e8
  exact hK _ _ _ _ _ (zRM.mono p5 (by omega) hb) p1 (zAlj.mono R6 (by omega))
theorem q_fLaw_1181 {K n k s h A : Int} {xs : Nat → Int32} {L : Nat} {kn : zSt → (Nat → Int64) → zSt → Int32 → Option Int32} {μ σ : zSt} {o : Nat → Int64} {x4 : Int32} (hM : zRM K n k s μ) (hC : zRC n h s σ) (hR : zAlj zJq A σ μ) (hA : A ≤ 9000000000000) (hb : K + 2100000 ≤ 268435456) (hz : ∀ j : Int32, 0 ≤ j.toInt → j.toInt ≤ 7 → zin (x4 + j) L = true) (hK : ∀ (μ1 : zSt) (o1 : Nat → Int64) (σ1 : zSt) (n s : Int), zRM (K + 2100000) n k s μ1 → zRC n h s σ1 → zAlj zJq (A + 1000000) σ1 μ1 → zok (kn μ1 o1 σ1 (x4 + 8)) (fun r => r = 1)) : zok (fLaw_1181 xs L kn μ o σ x4) (fun r => r = 1) := by
  unfold fLaw_1181
  refine zok_ck (hz 1 (by decide) (by decide)) ?_
  refine zok_ck (hz 2 (by decide) (by decide)) ?_
  refine zok_bhE (l_dot hC) (fun o3 s4 _ e2 p1 => ?_)
  refine zok_ck (hz 1 (by decide) (by decide)) ?_
  refine zok_ck (hz 2 (by decide) (by decide)) ?_
  refine zok_biE (m_dot hM) (fun s7 _ e6 p5 => ?_)
  have R6 := r_dot hR _ _ e2 e6
  refine zok_bv (fun v8 e8 => ?_)
  subst e8
  exact hK _ _ _ _ _ (zRM.mono p5 (by omega) hb) p1 (zAlj.mono R6 (by omega))
theorem q_fLaw_1221 {K n k s h A : Int} {xs : Nat → Int32} {L : Nat} {kn : zSt → (Nat → Int64) → zSt → Int32 → Option Int32} {μ σ : zSt} {o : Nat → Int64} {x4 : Int32} (hM : zRM K n k s μ) (hC : zRC n h s σ) (hR : zAlj zJq A σ μ) (hA : A ≤ 9000000000000) (hb : K + 2100000 ≤ 268435456) (hz : ∀ j : Int32, 0 ≤ j.toInt → j.toInt ≤ 7 → zin (x4 + j) L = true) (hK : ∀ (μ1 : zSt) (o1 : Nat → Int64) (σ1 : zSt) (n s : Int), zRM (K + 2100000) n k s μ1 → zRC n h s σ1 → zAlj zJq (A + 1000000) σ1 μ1 → zok (kn μ1 o1 σ1 (x4 + 8)) (fun r => r = 1)) : zok (fLaw_1221 xs L kn μ o σ x4) (fun r => r = 1) := by
  unfold fLaw_1221
  refine zok_ck (hz 1 (by decide) (by decide)) ?_
  refine zok_bhE (l_row hC) (fun o3 s4 _ e2 p1 => ?_)
  refine zok_ck (hz 1 (by decide) (by decide)) ?_
  refine zok_biE (m_row hM) (fun s7 _ e6 p5 => ?_)
  have R6 := r_row hR _ _ e2 e6
  refine zok_bv (fun v8 e8 => ?_)
  subst e8
  exact hK _ _ _ _ _ (zRM.mono p5 (by omega) hb) p1 (zAlj.mono R6 (by omega))
theorem q_fLaw_1249 {K n k s h A : Int} {xs : Nat → Int32} {L : Nat} {kn : zSt → (Nat → Int64) → zSt → Int32 → Option Int32} {μ σ : zSt} {o : Nat → Int64} {x4 : Int32} (hM : zRM K n k s μ) (hC : zRC n h s σ) (hR : zAlj zJq A σ μ) (hA : A ≤ 9000000000000) (hb : K + 2100000 ≤ 268435456) (hz : ∀ j : Int32, 0 ≤ j.toInt → j.toInt ≤ 7 → zin (x4 + j) L = true) (hK : ∀ (μ1 : zSt) (o1 : Nat → Int64) (σ1 : zSt) (n s : Int), zRM (K + 2100000) n k s μ1 → zRC n h s σ1 → zAlj zJq (A + 1000000) σ1 μ1 → zok (kn μ1 o1 σ1 (x4 + 8)) (fun r => r = 1)) : zok (fLaw_1249 xs L kn μ o σ x4) (fun r => r = 1) := by
  unfold fLaw_1249
  refine zok_bhE (l_hear hC) (fun o3 s4 _ e2 p1 => ?_)
  refine zok_bllE (m_hear hM) (fun s7 _ e6 p5 => ?_)
  have R6 := r_hear hR _ _ e2 e6
  refine zok_bv (fun v8 e8 => ?_)
  subst e8
  exact hK _ _ _ _ _ (zRM.mono p5 (by omega) hb) p1 (zAlj.mono R6 (by omega))
theorem q_fLaw_1265 {K n k s h A : Int} {xs : Nat → Int32} {L : Nat} {kn : zSt → (Nat → Int64) → zSt → Int32 → Option Int32} {μ σ : zSt} {o : Nat → Int64} {x4 : Int32} (hM : zRM K n k s μ) (hC : zRC n h s σ) (hR : zAlj zJq A σ μ) (hA : A ≤ 9000000000000) (hb : K + 2100000 ≤ 268435456) (hz : ∀ j : Int32, 0 ≤ j.toInt → j.toInt ≤ 7 → zin (x4 + j) L = true) (hK : ∀ (μ1 : zSt) (o1 : Nat → Int64) (σ1 : zSt) (n s : Int), zRM (K + 2100000) n k s μ1 → zRC n h s σ1 → zAlj zJq (A + 1000000) σ1 μ1 → zok (kn μ1 o1 σ1 (x4 + 8)) (fun r => r = 1)) : zok (fLaw_1265 xs L kn μ o σ x4) (fun r => r = 1) := by
  unfold fLaw_1265
  refine zok_bhE (l_mix hC) (fun o3 s4 _ e2 p1 => ?_)
  refine zok_bllE (m_mix hM) (fun s7 _ e6 p5 => ?_)
  have R6 := r_mix hR _ _ e2 e6
  refine zok_bv (fun v8 e8 => ?_)
  subst e8
  exact hK _ _ _ _ _ (zRM.mono p5 (by omega) hb) p1 (zAlj.mono R6 (by omega))
theorem q_fLaw_1281 {K n k s h A : Int} {xs : Nat → Int32} {L : Nat} {kn : zSt → (Nat → Int64) → zSt → Int32 → Option Int32} {μ σ : zSt} {o : Nat → Int64} {x4 : Int32} (hM : zRM K n k s μ) (hC : zRC n h s σ) (hR : zAlj zJq A σ μ) (hA : A ≤ 9000000000000) (hb : K + 2100000 ≤ 268435456) (hz : ∀ j : Int32, 0 ≤ j.toInt → j.toInt ≤ 7 → zin (x4 + j) L = true) (hK : ∀ (μ1 : zSt) (o1 : Nat → Int64) (σ1 : zSt) (n s : Int), zRM (K + 2100000) n k s μ1 → zRC n h s σ1 → zAlj zJq (A + 1000000) σ1 μ1 → zok (kn μ1 o1 σ1 (x4 + 8)) (fun r => r = 1)) : zok (fLaw_1281 xs L kn μ o σ x4) (fun r => r = 1) := by
  unfold fLaw_1281
  refine zok_ck (hz 1 (by decide) (by decide)) ?_
  refine zok_bhE (l_wave hC) (fun o3 s4 _ e2 p1 => ?_)
  refine zok_ck (hz 1 (by decide) (by decide)) ?_
  refine zok_biE (m_wave hM) (fun s7 _ e6 p5 => ?_)
  have R6 := r_wave hR _ _ e2 e6
  refine zok_bv (fun v8 e8 => ?_)
  subst e8
  exact hK _ _ _ _ _ (zRM.mono p5 (by omega) hb) p1 (zAlj.mono R6 (by omega))
theorem q_fLaw_1309 {K n k s h A : Int} {xs : Nat → Int32} {L : Nat} {kn : zSt → (Nat → Int64) → zSt → Int32 → Option Int32} {μ σ : zSt} {o : Nat → Int64} {x4 : Int32} (hM : zRM K n k s μ) (hC : zRC n h s σ) (hR : zAlj zJq A σ μ) (hA : A ≤ 9000000000000) (hb : K + 2100000 ≤ 268435456) (hz : ∀ j : Int32, 0 ≤ j.toInt → j.toInt ≤ 7 → zin (x4 + j) L = true) (hK : ∀ (μ1 : zSt) (o1 : Nat → Int64) (σ1 : zSt) (n s : Int), zRM (K + 2100000) n k s μ1 → zRC n h s σ1 → zAlj zJq (A + 1000000) σ1 μ1 → zok (kn μ1 o1 σ1 (x4 + 8)) (fun r => r = 1)) : zok (fLaw_1309 xs L kn μ o σ x4) (fun r => r = 1) := by
  unfold fLaw_1309
  refine zok_ck (hz 1 (by decide) (by decide)) ?_
  refine zok_bhE (l_sound hC) (fun o3 s4 _ e2 p1 => ?_)
  refine zok_ck (hz 1 (by decide) (by decide)) ?_
  refine zok_biE (m_sound hM) (fun s7 _ e6 p5 => ?_)
  have d8 := w_sound hR hA hM.pic _ _ e2 e6
  have R6 := r_sound hR _ _ e2 e6
  refine zok_thrown ?_
  refine zok_if (fun _ => ?_) (fun q => absurd d8.1 q)
  refine zok_if (fun q9 => ?_) (fun q9 => ?_)
  · refine zok_if (fun _ => ?_) (fun q => absurd (z_lgc (by rw [Int32.toInt_toInt64]; exact d8.2 q9)) q)
    refine zok_bv (fun v8 e8 => ?_)
    subst e8
    exact hK _ _ _ _ _ (zRM.mono p5 (by omega) hb) p1 (zAlj.mono R6 (by omega))
  · refine zok_bv (fun v8 e8 => ?_)
    subst e8
    exact hK _ _ _ _ _ (zRM.mono p5 (by omega) hb) p1 (zAlj.mono R6 (by omega))
theorem q_fLaw_1365 {K n k s h A : Int} {xs : Nat → Int32} {L : Nat} {kn : zSt → (Nat → Int64) → zSt → Int32 → Option Int32} {μ σ : zSt} {o : Nat → Int64} {x4 : Int32} (hM : zRM K n k s μ) (hC : zRC n h s σ) (hR : zAlj zJq A σ μ) (hA : A ≤ 9000000000000) (hb : K + 2100000 ≤ 268435456) (hz : ∀ j : Int32, 0 ≤ j.toInt → j.toInt ≤ 7 → zin (x4 + j) L = true) (hK : ∀ (μ1 : zSt) (o1 : Nat → Int64) (σ1 : zSt) (n s : Int), zRM (K + 2100000) n k s μ1 → zRC n h s σ1 → zAlj zJq (A + 1000000) σ1 μ1 → zok (kn μ1 o1 σ1 (x4 + 8)) (fun r => r = 1)) : zok (fLaw_1365 xs L kn μ o σ x4) (fun r => r = 1) := by
  unfold fLaw_1365
  refine zok_ck (hz 1 (by decide) (by decide)) ?_
  refine zok_biE (c_trace hC) (fun s3 _ e2 p1 => ?_)
  refine zok_ck (hz 1 (by decide) (by decide)) ?_
  refine zok_biE (m_trace hM) (fun s6 _ e5 p4 => ?_)
  have R6 := gj_trace hR _ _ e2 e5
  refine zok_bv (fun v8 e8 => ?_)
  subst e8
  exact hK _ _ _ _ _ (zRM.mono p4 (by omega) hb) p1 (zAlj.mono R6 (by omega))
theorem q_fLaw_1390 {K n k s h A : Int} {xs : Nat → Int32} {L : Nat} {kn : zSt → (Nat → Int64) → zSt → Int32 → Option Int32} {μ σ : zSt} {o : Nat → Int64} {x4 : Int32} (hM : zRM K n k s μ) (hC : zRC n h s σ) (hR : zAlj zJq A σ μ) (hA : A ≤ 9000000000000) (hb : K + 2100000 ≤ 268435456) (hz : ∀ j : Int32, 0 ≤ j.toInt → j.toInt ≤ 7 → zin (x4 + j) L = true) (hK : ∀ (μ1 : zSt) (o1 : Nat → Int64) (σ1 : zSt) (n s : Int), zRM (K + 2100000) n k s μ1 → zRC n h s σ1 → zAlj zJq (A + 1000000) σ1 μ1 → zok (kn μ1 o1 σ1 (x4 + 8)) (fun r => r = 1)) : zok (fLaw_1390 xs L kn μ o σ x4) (fun r => r = 1) := by
  unfold fLaw_1390
  refine zok_ck (hz 1 (by decide) (by decide)) ?_
  refine zok_bhE (l_look hC) (fun o3 s4 _ e2 p1 => ?_)
  refine zok_ck (hz 1 (by decide) (by decide)) ?_
  refine zok_bllE (m_look hM) (fun s7 _ e6 p5 => ?_)
  have R6 := r_look hR _ _ e2 e6
  refine zok_bv (fun v8 e8 => ?_)
  subst e8
  exact hK _ _ _ _ _ (zRM.mono p5 (by omega) hb) p1 (zAlj.mono R6 (by omega))
theorem q_fLaw_1418 {K n k s h A : Int} {xs : Nat → Int32} {L : Nat} {kn : zSt → (Nat → Int64) → zSt → Int32 → Option Int32} {μ σ : zSt} {o : Nat → Int64} {x4 : Int32} (hM : zRM K n k s μ) (hC : zRC n h s σ) (hR : zAlj zJq A σ μ) (hA : A ≤ 9000000000000) (hb : K + 2100000 ≤ 268435456) (hz : ∀ j : Int32, 0 ≤ j.toInt → j.toInt ≤ 7 → zin (x4 + j) L = true) (hK : ∀ (μ1 : zSt) (o1 : Nat → Int64) (σ1 : zSt) (n s : Int), zRM (K + 2100000) n k s μ1 → zRC n h s σ1 → zAlj zJq (A + 1000000) σ1 μ1 → zok (kn μ1 o1 σ1 (x4 + 8)) (fun r => r = 1)) : zok (fLaw_1418 xs L kn μ o σ x4) (fun r => r = 1) := by
  unfold fLaw_1418
  refine zok_bv (fun v8 e8 => ?_)
  subst e8
  exact hK _ _ _ _ _ (zRM.mono hM (by omega) hb) hC (zAlj.mono hR (by omega))
end ZJN2
section ZJN3
theorem z_at8 {L : Nat} (hL : L ≤ 513) {x4 : Int32} {c : Nat} (e : x4.toInt = 1 + 8 * (c : Int)) (hc : c ≤ 64) (q : ¬ Int32.ofNat L - 8 < x4) : c ≤ 63 ∧ (∀ j : Int32, 0 ≤ j.toInt → j.toInt ≤ 7 → zin (x4 + j) L = true) ∧ zin x4 L = true ∧ (x4 + 8).toInt = 1 + 8 * ((c + 1 : Nat) : Int) := by
  have eL : (Int32.ofNat L).toInt = L := Int32.toInt_ofNat_of_lt (by omega)
  have c8 : (8 : Int32).toInt = 8 := rfl
  have r8 : zr 8 8 (8 : Int32) := zr_c (by decide)
  have rL : zr 0 513 (Int32.ofNat L) := ⟨by omega, by omega⟩
  have r4 : zr 1 513 x4 := ⟨by omega, by omega⟩
  have t := z_tsub rL r8 (by decide)
  have q1 := Int32.le_iff_toInt_le.mp (z_nlt q)
  rw [t, eL, c8, e] at q1
  have t8 := z_tadd r4 r8 (by decide)
  refine ⟨by omega, fun j j1 j2 => ?_, zin_ok (lo := x4.toInt) (hi := x4.toInt) ⟨Int.le_refl _, Int.le_refl _⟩ (by omega), by rw [t8, e, c8]; omega⟩
  have rj : zr 0 7 j := ⟨j1, j2⟩
  have tj := z_tadd r4 rj (by decide)
  exact zin_ok (lo := (x4 + j).toInt) (hi := (x4 + j).toInt) ⟨Int.le_refl _, Int.le_refl _⟩ (by omega)
theorem z_loop {L : Nat} (hL : L ≤ 513) {xs : Nat → Int32} {k h : Int} : ∀ (n c : Nat) (μ : zSt) (o : Nat → Int64) (σ : zSt) (x4 : Int32) (a d : Int), x4.toInt = 1 + 8 * (c : Int) → c + n = 66 → c ≤ 64 → zRM (2100000 * (c : Int)) a k d μ → zRC a h d σ → zAlj zJq (1000000 * (c : Int)) σ μ → zok (fLaw xs L n μ o σ x4) (fun r => r = 1) := by
  intro n
  induction n with
  | zero => intro c μ o σ x4 a d e hn hc; exfalso; omega
  | succ n ih =>
    intro c μ o σ x4 a d e hn hc hM hC hR
    show zok (fLaw_body xs L (fLaw xs L n) μ o σ x4) _
    unfold fLaw_body
    refine zok_if (fun _ => zok_some rfl) (fun q => ?_)
    obtain ⟨c1, hz, h0, e8⟩ := z_at8 hL e hc q
    have hb : 2100000 * (c : Int) + 2100000 ≤ 268435456 := by omega
    have hA : 1000000 * (c : Int) ≤ 9000000000000 := by omega
    have hK : ∀ (μ1 : zSt) (o1 : Nat → Int64) (σ1 : zSt) (a d : Int), zRM (2100000 * (c : Int) + 2100000) a k d μ1 → zRC a h d σ1 → zAlj zJq (1000000 * (c : Int) + 1000000) σ1 μ1 → zok (fLaw xs L n μ1 o1 σ1 (x4 + 8)) (fun r => r = 1) := fun μ1 o1 σ1 a d h1 h2 h3 => by
      refine ih (c + 1) μ1 o1 σ1 (x4 + 8) a d e8 (by omega) (by omega) ?_ h2 ?_
      · rw [show 2100000 * ((c + 1 : Nat) : Int) = 2100000 * (c : Int) + 2100000 by omega]
        exact h1
      · rw [show 1000000 * ((c + 1 : Nat) : Int) = 1000000 * (c : Int) + 1000000 by omega]
        exact h3
    refine zok_ck h0 (zok_bv (fun t _ => ?_))
    refine zok_if (fun _ => q_fLaw_208 hM hC hR hA hb hz hK) (fun _ => ?_)
    refine zok_if (fun _ => q_fLaw_372 hM hC hR hA hb hz hK) (fun _ => ?_)
    refine zok_if (fun _ => q_fLaw_400 hM hC hR hA hb hz hK) (fun _ => ?_)
    refine zok_if (fun _ => q_fLaw_469 hM hC hR hA hb hz hK) (fun _ => ?_)
    refine zok_if (fun _ => q_fLaw_482 hM hC hR hA hb hz hK) (fun _ => ?_)
    refine zok_if (fun _ => q_fLaw_510 hM hC hR hA hb hz hK) (fun _ => ?_)
    refine zok_if (fun _ => q_fLaw_538 hM hC hR hA hb hz hK) (fun _ => ?_)
    refine zok_if (fun _ => q_fLaw_566 hM hC hR hA hb hz hK) (fun _ => ?_)
    refine zok_if (fun _ => q_fLaw_577 hM hC hR hA hb hz hK) (fun _ => ?_)
    refine zok_if (fun _ => q_fLaw_590 hM hC hR hA hb hz hK) (fun _ => ?_)
    refine zok_if (fun _ => q_fLaw_627 hM hC hR hA hb hz hK) (fun _ => ?_)
    refine zok_if (fun _ => q_fLaw_666 hM hC hR hA hb hz hK) (fun _ => ?_)
    refine zok_if (fun _ => q_fLaw_719 hM hC hR hA hb hz hK) (fun _ => ?_)
    refine zok_if (fun _ => q_fLaw_771 hM hC hR hA hb hz hK) (fun _ => ?_)
    refine zok_if (fun _ => q_fLaw_796 hM hC hR hA hb hz hK) (fun _ => ?_)
    refine zok_if (fun _ => q_fLaw_824 hM hC hR hA hb hz hK) (fun _ => ?_)
    refine zok_if (fun _ => q_fLaw_880 hM hC hR hA hb hz hK) (fun _ => ?_)
    refine zok_if (fun _ => q_fLaw_891 hM hC hR hA hb hz hK) (fun _ => ?_)
    refine zok_if (fun _ => q_fLaw_904 hM hC hR hA hb hz hK) (fun _ => ?_)
    refine zok_if (fun _ => q_fLaw_932 hM hC hR hA hb hz hK) (fun _ => ?_)
    refine zok_if (fun _ => q_fLaw_969 hM hC hR hA hb hz hK) (fun _ => ?_)
    refine zok_if (fun _ => q_fLaw_994 hM hC hR hA hb hz hK) (fun _ => ?_)
    refine zok_if (fun _ => q_fLaw_1029 hM hC hR hA hb hz hK) (fun _ => ?_)
    refine zok_if (fun _ => q_fLaw_1054 hM hC hR hA hb hz hK) (fun _ => ?_)
    refine zok_if (fun _ => q_fLaw_1089 hM hC hR hA hb hz hK) (fun _ => ?_)
    refine zok_if (fun _ => q_fLaw_1117 hM hC hR hA hb hz hK) (fun _ => ?_)
    refine zok_if (fun _ => q_fLaw_1128 hM hC hR hA hb hz hK) (fun _ => ?_)
    refine zok_if (fun _ => q_fLaw_1153 hM hC hR hA hb hz hK) (fun _ => ?_)
    refine zok_if (fun _ => q_fLaw_1181 hM hC hR hA hb hz hK) (fun _ => ?_)
    refine zok_if (fun _ => q_fLaw_1221 hM hC hR hA hb hz hK) (fun _ => ?_)
    refine zok_if (fun _ => q_fLaw_1249 hM hC hR hA hb hz hK) (fun _ => ?_)
    refine zok_if (fun _ => q_fLaw_1265 hM hC hR hA hb hz hK) (fun _ => ?_)
    refine zok_if (fun _ => q_fLaw_1281 hM hC hR hA hb hz hK) (fun _ => ?_)
    refine zok_if (fun _ => q_fLaw_1309 hM hC hR hA hb hz hK) (fun _ => ?_)
    refine zok_if (fun _ => q_fLaw_1365 hM hC hR hA hb hz hK) (fun _ => ?_)
    refine zok_if (fun _ => q_fLaw_1390 hM hC hR hA hb hz hK) (fun _ => ?_)
    exact q_fLaw_1418 hM hC hR hA hb hz hK
theorem zKS_fresh {k : Int32} : zKS 0 (zG0 k) := by
  have v : ∀ i, ¬ i = 1 → zG0 k i = 0 := fun i h1 => by
    unfold zG0 zset
    split
    · rfl
    · split
      · rfl
      · first | rfl | rw [if_neg h1]
  have lb := zln_b (zG0 k)
  unfold zKS zJ
  rw [v 102 (by decide), v 105 (by decide), v 106 (by decide), v 6 (by decide), v 7 (by decide), v 8 (by decide)]
  omega
theorem z_owed {L : Nat} {xs : Nat → Int32} (hL : L ≤ 513) : zOwed L xs := by
  obtain ⟨σ4, e4, i4⟩ := z_c4
  obtain ⟨σ5, e5, i5⟩ := z_c5
  obtain ⟨σ9, e9, i9⟩ := z_c9
  obtain ⟨σ1, e1, i1⟩ := s_freshM (zKd_r (zCell L xs))
  have hC := s_freshC i4 i5 (fun v => (Classical.choose_spec (z_c6 v)).2) i9 (k := zCell L xs)
  have z0 : zG0 (zKd (zCell L xs)) 0 = 0 := by unfold zG0; rw [zset_ne (by decide), zset_ne (by decide), zset_ne (by decide)]
  have z2 : zG0 (zKd (zCell L xs)) 2 = 0 := by unfold zG0; rw [zset_ne (by decide), zset_ne (by decide), zset_ne (by decide)]
  have h0 : zRM (2100000 * ((0 : Nat) : Int)) 0 (zG0 (zKd (zCell L xs)) 1) 0 σ1 := by
    rw [show (2100000 * ((0 : Nat) : Int)) = 0 by decide]
    exact ⟨by decide, _, i1, zG0_J (zKd_r _), zKS_fresh, z0, rfl, z2⟩
  have h1 : zRC 0 (zH0 (zCell L xs) 2) 0 (zC1 (zCell L xs) σ4 σ5 (fun v => Classical.choose (z_c6 v)) σ9) := ⟨_, hC, rfl, rfl, rfl⟩
  obtain ⟨r, e, h⟩ := z_loop hL (xs := xs) 66 0 σ1 (fun _ => 0) _ 1 _ _ (by decide) rfl (by decide) h0 h1 (by rw [show (1000000 * ((0 : Nat) : Int)) = 0 by decide]; exact z_freshJ rfl e4 e5 (fun v => (Classical.choose_spec (z_c6 v)).1) e9 e1)
  refine ⟨σ4, e4, σ5, e5, _, fun v => (Classical.choose_spec (z_c6 v)).1, σ9, e9, σ1, e1, 66, by decide, ?_⟩
  rw [e, h]
end ZJN3
