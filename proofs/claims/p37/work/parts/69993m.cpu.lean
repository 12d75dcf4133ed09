section ZJN0
/-! SOUNDS OVER CALLS -/
section ZSV
variable {σ μ s t : zSt} {B : Int × Int × Int} {K N : Int} {J : { J : Int → zSt → zSt → Prop // zJw J }}
noncomputable def zJo (J : { J : Int → zSt → zSt → Prop // zJw J }) : { J : Int → zSt → zSt → Prop // zJok J } := ⟨J.1, J.2.1⟩
/-- both machines, what was kept, and sounds -/
noncomputable def zAlj (J : { J : Int → zSt → zSt → Prop // zJw J }) (K : Int) (σ μ : zSt) : Prop := zAll K σ μ ∧ J.1 (64 * K) σ μ ∧ (¬ σ.1 0 11 = 0 → J.1 (64 * K) (zKsn σ) (zKtn μ))
theorem zAlj.go (h : zAlj J K σ μ) {K' : Int} (hK : K ≤ K') (x : zAll K' s t) (y : J.1 (64 * K') s t) (f : ¬ s.1 0 11 = 0 → ¬ σ.1 0 11 = 0 ∧ zSc (zKsn σ) (zKsn s) ∧ zSrm (zKtn μ) (zKtn t)) : zAlj J K' s t := by
  refine ⟨x, y, fun q => ?_⟩
  obtain ⟨f1, f2, f3⟩ := f q
  exact J.2.2.1 _ _ _ _ _ (J.2.1.2.2.1 _ _ _ _ (by omega) (h.2.2 f1)) f2 f3
theorem bj_reset (hj : J.1 N s t) : zp2 (fX11_reset s ) (fX12_reset t ) (fun r r' => J.1 N r r') := by
  unfold fX11_reset fX12_reset
  refine zp2_bvr (fun t1 e1 => ?_)
  have h1 : J.1 N s t1 := by rw [e1]; exact J.2.1.th hj
  exact zp2_buu (P := fun r r' => zCw s r ∧ zAw t1 r') (zp2_of c_clr m_anewx (fun _ _ p q => ⟨p, q⟩)) (fun r r' q => zp2_some (J.2.2.2.1 _ _ _ _ _ h1 q.1.x q.2.x))
/-! kept by the class -/
theorem zWf_ne {k p q k' : Nat} (h : ¬ k' = k) : (zWf s k p q).1 k' = s.1 k' := zsi_ne h
theorem zWf_ej {k p q : Nat} : (zWf s k p q).1 k p = s.1 k q := zsi_ej
theorem zWf_nj {k p q j : Nat} (h : ¬ j = p) : (zWf s k p q).1 k j = s.1 k j := zsi_nj h
theorem zWf_2 {k p q : Nat} : (zWf s k p q).2 = s.2 := rfl
theorem zcpl_1 {a b c d e : Nat} : (zcpl s a b c d e).1 = s.1 := rfl
theorem zcpi_2 {a b c d e : Nat} : (zcpi s a b c d e).2 = s.2 := rfl
theorem zKept_11_2 : (zKept σ).1 11 2 = σ.1 11 2 := by
  unfold zKept
  rw [zcpi_ne (by decide), zcpi_ne (by decide), zWf_ne (by decide), zWf_ne (by decide), zcpl_1, zWf_nj (by decide), zWf_nj (by decide), zcpl_1, zcpl_1, zcpi_ne (by decide), zcpi_ne (by decide), zcpi_ne (by decide), zcpi_ne (by decide), zcpi_ne (by decide), zcpi_ne (by decide), zcpi_ne (by decide), zcpi_ne (by decide), zcpi_ne (by decide), zcpi_ne (by decide)]
theorem zKept_11_3 : (zKept σ).1 11 3 = σ.1 11 3 := by
  unfold zKept
  rw [zcpi_ne (by decide), zcpi_ne (by decide), zWf_ne (by decide), zWf_ne (by decide), zcpl_1, zWf_nj (by decide), zWf_nj (by decide), zcpl_1, zcpl_1, zcpi_ne (by decide), zcpi_ne (by decide), zcpi_ne (by decide), zcpi_ne (by decide), zcpi_ne (by decide), zcpi_ne (by decide), zcpi_ne (by decide), zcpi_ne (by decide), zcpi_ne (by decide), zcpi_ne (by decide)]
theorem zKept_11_4 : (zKept σ).1 11 4 = σ.1 11 2 := by
  unfold zKept
  rw [zcpi_ne (by decide), zcpi_ne (by decide), zWf_ne (by decide), zWf_ne (by decide), zcpl_1, zWf_nj (by decide), zWf_ej, zcpl_1, zcpl_1, zcpi_ne (by decide), zcpi_ne (by decide), zcpi_ne (by decide), zcpi_ne (by decide), zcpi_ne (by decide), zcpi_ne (by decide), zcpi_ne (by decide), zcpi_ne (by decide), zcpi_ne (by decide), zcpi_ne (by decide)]
theorem zKept_11_5 : (zKept σ).1 11 5 = σ.1 11 3 := by
  unfold zKept
  rw [zcpi_ne (by decide), zcpi_ne (by decide), zWf_ne (by decide), zWf_ne (by decide), zcpl_1, zWf_ej, zWf_nj (by decide), zcpl_1, zcpl_1, zcpi_ne (by decide), zcpi_ne (by decide), zcpi_ne (by decide), zcpi_ne (by decide), zcpi_ne (by decide), zcpi_ne (by decide), zcpi_ne (by decide), zcpi_ne (by decide), zcpi_ne (by decide), zcpi_ne (by decide)]
theorem zKept_12_2 : (zKept σ).1 12 2 = σ.1 12 2 := by
  unfold zKept
  rw [zcpi_ne (by decide), zcpi_ne (by decide), zWf_nj (by decide), zWf_nj (by decide), zcpl_1, zWf_ne (by decide), zWf_ne (by decide), zcpl_1, zcpl_1, zcpi_ne (by decide), zcpi_ne (by decide), zcpi_ne (by decide), zcpi_ne (by decide), zcpi_ne (by decide), zcpi_ne (by decide), zcpi_ne (by decide), zcpi_ne (by decide), zcpi_ne (by decide), zcpi_ne (by decide)]
theorem zKept_12_3 : (zKept σ).1 12 3 = σ.1 12 3 := by
  unfold zKept
  rw [zcpi_ne (by decide), zcpi_ne (by decide), zWf_nj (by decide), zWf_nj (by decide), zcpl_1, zWf_ne (by decide), zWf_ne (by decide), zcpl_1, zcpl_1, zcpi_ne (by decide), zcpi_ne (by decide), zcpi_ne (by decide), zcpi_ne (by decide), zcpi_ne (by decide), zcpi_ne (by decide), zcpi_ne (by decide), zcpi_ne (by decide), zcpi_ne (by decide), zcpi_ne (by decide)]
theorem zKept_12_4 : (zKept σ).1 12 4 = σ.1 12 2 := by
  unfold zKept
  rw [zcpi_ne (by decide), zcpi_ne (by decide), zWf_nj (by decide), zWf_ej, zcpl_1, zWf_ne (by decide), zWf_ne (by decide), zcpl_1, zcpl_1, zcpi_ne (by decide), zcpi_ne (by decide), zcpi_ne (by decide), zcpi_ne (by decide), zcpi_ne (by decide), zcpi_ne (by decide), zcpi_ne (by decide), zcpi_ne (by decide), zcpi_ne (by decide), zcpi_ne (by decide)]
theorem zKept_12_5 : (zKept σ).1 12 5 = σ.1 12 3 := by
  unfold zKept
  rw [zcpi_ne (by decide), zcpi_ne (by decide), zWf_ej, zWf_nj (by decide), zcpl_1, zWf_ne (by decide), zWf_ne (by decide), zcpl_1, zcpl_1, zcpi_ne (by decide), zcpi_ne (by decide), zcpi_ne (by decide), zcpi_ne (by decide), zcpi_ne (by decide), zcpi_ne (by decide), zcpi_ne (by decide), zcpi_ne (by decide), zcpi_ne (by decide), zcpi_ne (by decide)]
theorem zKept_47 {j : Nat} (h : j < 4096) : (zKept σ).2 47 j = σ.2 46 j := by
  unfold zKept
  rw [zcpi_2, zcpi_2, zWf_2, zWf_2, zcpl_ne (by decide), zWf_2, zWf_2, zcpl_eq, if_pos h, zcpl_ne (by decide), zcpi_2, zcpi_2, zcpi_2, zcpi_2, zcpi_2, zcpi_2, zcpi_2, zcpi_2, zcpi_2, zcpi_2]
theorem zKept_49 {j : Nat} (h : j < 4096) : (zKept σ).2 49 j = σ.2 48 j := by
  unfold zKept
  rw [zcpi_2, zcpi_2, zWf_2, zWf_2, zcpl_eq, if_pos h, zWf_2, zWf_2, zcpl_ne (by decide), zcpl_ne (by decide), zcpi_2, zcpi_2, zcpi_2, zcpi_2, zcpi_2, zcpi_2, zcpi_2, zcpi_2, zcpi_2, zcpi_2]
theorem zBack_11_2 : (zBack σ).1 11 2 = σ.1 11 4 := by
  unfold zBack
  rw [zcpi_ne (by decide), zcpi_ne (by decide), zWf_ne (by decide), zWf_ne (by decide), zcpl_1, zWf_nj (by decide), zWf_ej, zcpl_1, zcpl_1, zcpi_ne (by decide), zcpi_ne (by decide), zcpi_ne (by decide), zcpi_ne (by decide), zcpi_ne (by decide), zcpi_ne (by decide), zcpi_ne (by decide), zcpi_ne (by decide), zcpi_ne (by decide), zcpi_ne (by decide)]
theorem zBack_11_3 : (zBack σ).1 11 3 = σ.1 11 5 := by
  unfold zBack
  rw [zcpi_ne (by decide), zcpi_ne (by decide), zWf_ne (by decide), zWf_ne (by decide), zcpl_1, zWf_ej, zWf_nj (by decide), zcpl_1, zcpl_1, zcpi_ne (by decide), zcpi_ne (by decide), zcpi_ne (by decide), zcpi_ne (by decide), zcpi_ne (by decide), zcpi_ne (by decide), zcpi_ne (by decide), zcpi_ne (by decide), zcpi_ne (by decide), zcpi_ne (by decide)]
theorem zBack_11_4 : (zBack σ).1 11 4 = σ.1 11 4 := by
  unfold zBack
  rw [zcpi_ne (by decide), zcpi_ne (by decide), zWf_ne (by decide), zWf_ne (by decide), zcpl_1, zWf_nj (by decide), zWf_nj (by decide), zcpl_1, zcpl_1, zcpi_ne (by decide), zcpi_ne (by decide), zcpi_ne (by decide), zcpi_ne (by decide), zcpi_ne (by decide), zcpi_ne (by decide), zcpi_ne (by decide), zcpi_ne (by decide), zcpi_ne (by decide), zcpi_ne (by decide)]
theorem zBack_11_5 : (zBack σ).1 11 5 = σ.1 11 5 := by
  unfold zBack
  rw [zcpi_ne (by decide), zcpi_ne (by decide), zWf_ne (by decide), zWf_ne (by decide), zcpl_1, zWf_nj (by decide), zWf_nj (by decide), zcpl_1, zcpl_1, zcpi_ne (by decide), zcpi_ne (by decide), zcpi_ne (by decide), zcpi_ne (by decide), zcpi_ne (by decide), zcpi_ne (by decide), zcpi_ne (by decide), zcpi_ne (by decide), zcpi_ne (by decide), zcpi_ne (by decide)]
theorem zBack_12_2 : (zBack σ).1 12 2 = σ.1 12 4 := by
  unfold zBack
  rw [zcpi_ne (by decide), zcpi_ne (by decide), zWf_nj (by decide), zWf_ej, zcpl_1, zWf_ne (by decide), zWf_ne (by decide), zcpl_1, zcpl_1, zcpi_ne (by decide), zcpi_ne (by decide), zcpi_ne (by decide), zcpi_ne (by decide), zcpi_ne (by decide), zcpi_ne (by decide), zcpi_ne (by decide), zcpi_ne (by decide), zcpi_ne (by decide), zcpi_ne (by decide)]
theorem zBack_12_3 : (zBack σ).1 12 3 = σ.1 12 5 := by
  unfold zBack
  rw [zcpi_ne (by decide), zcpi_ne (by decide), zWf_ej, zWf_nj (by decide), zcpl_1, zWf_ne (by decide), zWf_ne (by decide), zcpl_1, zcpl_1, zcpi_ne (by decide), zcpi_ne (by decide), zcpi_ne (by decide), zcpi_ne (by decide), zcpi_ne (by decide), zcpi_ne (by decide), zcpi_ne (by decide), zcpi_ne (by decide), zcpi_ne (by decide), zcpi_ne (by decide)]
theorem zBack_12_4 : (zBack σ).1 12 4 = σ.1 12 4 := by
  unfold zBack
  rw [zcpi_ne (by decide), zcpi_ne (by decide), zWf_nj (by decide), zWf_nj (by decide), zcpl_1, zWf_ne (by decide), zWf_ne (by decide), zcpl_1, zcpl_1, zcpi_ne (by decide), zcpi_ne (by decide), zcpi_ne (by decide), zcpi_ne (by decide), zcpi_ne (by decide), zcpi_ne (by decide), zcpi_ne (by decide), zcpi_ne (by decide), zcpi_ne (by decide), zcpi_ne (by decide)]
theorem zBack_12_5 : (zBack σ).1 12 5 = σ.1 12 5 := by
  unfold zBack
  rw [zcpi_ne (by decide), zcpi_ne (by decide), zWf_nj (by decide), zWf_nj (by decide), zcpl_1, zWf_ne (by decide), zWf_ne (by decide), zcpl_1, zcpl_1, zcpi_ne (by decide), zcpi_ne (by decide), zcpi_ne (by decide), zcpi_ne (by decide), zcpi_ne (by decide), zcpi_ne (by decide), zcpi_ne (by decide), zcpi_ne (by decide), zcpi_ne (by decide), zcpi_ne (by decide)]
theorem zBack_46 {j : Nat} (h : j < 4096) : (zBack σ).2 46 j = σ.2 47 j := by
  unfold zBack
  rw [zcpi_2, zcpi_2, zWf_2, zWf_2, zcpl_ne (by decide), zWf_2, zWf_2, zcpl_eq, if_pos h, zcpl_ne (by decide), zcpi_2, zcpi_2, zcpi_2, zcpi_2, zcpi_2, zcpi_2, zcpi_2, zcpi_2, zcpi_2, zcpi_2]
theorem zBack_48 {j : Nat} (h : j < 4096) : (zBack σ).2 48 j = σ.2 49 j := by
  unfold zBack
  rw [zcpi_2, zcpi_2, zWf_2, zWf_2, zcpl_eq, if_pos h, zWf_2, zWf_2, zcpl_ne (by decide), zcpl_ne (by decide), zcpi_2, zcpi_2, zcpi_2, zcpi_2, zcpi_2, zcpi_2, zcpi_2, zcpi_2, zcpi_2, zcpi_2]
theorem zsi_ne0 {k j : Nat} {v w : Int32} (hk : ¬ k = 0) (h : s.1 k j = w) : (zsi s 0 11 v).1 k j = w := (congrFun (zsi_ne hk) j).trans h
theorem zKsn_30 {j : Nat} : (zKsn s).1 30 j = s.1 31 j := rfl
theorem zKsn_32 {j : Nat} : (zKsn s).1 32 j = s.1 33 j := rfl
theorem zKsn_11 {j : Nat} : (zKsn s).1 11 j = s.1 11 (j + 2) := rfl
theorem zKsn_12 {j : Nat} : (zKsn s).1 12 j = s.1 12 (j + 2) := rfl
theorem zKsn_38 {j : Nat} : (zKsn s).2 38 j = s.2 39 j := rfl
theorem zKsn_46 {j : Nat} : (zKsn s).2 46 j = s.2 47 j := rfl
theorem zKsn_48 {j : Nat} : (zKsn s).2 48 j = s.2 49 j := rfl
theorem zsi_20 {k j : Nat} {v : Int32} : (zsi s k j v).2 = s.2 := rfl
theorem zKept_sc {v : Int32} : zSc σ (zsi (zKept σ) 0 11 v) := by
  obtain ⟨q1, q2⟩ := zKept_q (σ := σ)
  have q : zQ [16, 18, 20, 22, 24, 26, 31, 33, 35, 37, 41, 43, 11, 12] [(0, 11, 11)] [39, 47, 49] [] σ (zsi (zKept σ) 0 11 v) := zQ.wi q1 rfl
  have e0 := q.ro (k := 30) rfl
  have e2 := q.ro (k := 32) rfl
  have e8 := q.rlo (k := 38) rfl
  have e6 := q.rlo (k := 46) rfl
  have e9 := q.rlo (k := 48) rfl
  refine ⟨fun j _ _ => by rw [e0], fun j _ _ => by rw [e0], fun j _ _ => by rw [e2], fun j _ _ => by rw [e2], fun j x y => ?_, fun j x y => ?_, fun j _ _ => by rw [e8], fun j _ _ => by rw [e8], fun j _ => by rw [e6], fun j _ => by rw [e9]⟩
  · rcases (show j = 2 ∨ j = 3 by omega) with rfl | rfl
    · exact zsi_ne0 (by decide) zKept_11_2
    · exact zsi_ne0 (by decide) zKept_11_3
  · rcases (show j = 2 ∨ j = 3 by omega) with rfl | rfl
    · exact zsi_ne0 (by decide) zKept_12_2
    · exact zsi_ne0 (by decide) zKept_12_3
theorem zKept_kv {v : Int32} : zSc σ (zKsn (zsi (zKept σ) 0 11 v)) := by
  obtain ⟨q1, q2⟩ := zKept_q (σ := σ)
  have z31 : ∀ j : Nat, j < 19 → (zsi (zKept σ) 0 11 v).1 31 j = σ.1 30 j := fun j hj => by
    rw [zsi_ne (by decide)]
    exact q2 (31, 30, 19) (by decide +kernel) j hj
  have z33 : ∀ j : Nat, j < 272 → (zsi (zKept σ) 0 11 v).1 33 j = σ.1 32 j := fun j hj => by
    rw [zsi_ne (by decide)]
    exact q2 (33, 32, 272) (by decide +kernel) j hj
  refine ⟨fun j x y => ?_, fun j x y => ?_, fun j x y => ?_, fun j x y => ?_, fun j x y => ?_, fun j x y => ?_, fun j x y => ?_, fun j x y => ?_, fun j h => ?_, fun j h => ?_⟩
  · rw [zKsn_30]; exact z31 j (by omega)
  · rw [zKsn_30]; exact z31 j (by omega)
  · rw [zKsn_32]; exact z33 j (by omega)
  · rw [zKsn_32]; exact z33 j (by omega)
  · rcases (show j = 2 ∨ j = 3 by omega) with rfl | rfl
    · rw [zKsn_11]; exact zsi_ne0 (by decide) zKept_11_4
    · rw [zKsn_11]; exact zsi_ne0 (by decide) zKept_11_5
  · rcases (show j = 2 ∨ j = 3 by omega) with rfl | rfl
    · rw [zKsn_12]; exact zsi_ne0 (by decide) zKept_12_4
    · rw [zKsn_12]; exact zsi_ne0 (by decide) zKept_12_5
  · rw [zKsn_38, zsi_20]; exact zKept_l (by omega)
  · rw [zKsn_38, zsi_20]; exact zKept_l (by omega)
  · rw [zKsn_46, zsi_20]; exact zKept_47 h
  · rw [zKsn_48, zsi_20]; exact zKept_49 h
theorem zBack_sc : zSc (zKsn σ) (zBack σ) := by
  obtain ⟨q1, q2⟩ := zBack_q (σ := σ)
  have z30 : ∀ j : Nat, j < 19 → (zBack σ).1 30 j = σ.1 31 j := fun j hj => q2 (30, 31, 19) (by decide +kernel) j hj
  have z32 : ∀ j : Nat, j < 272 → (zBack σ).1 32 j = σ.1 33 j := fun j hj => q2 (32, 33, 272) (by decide +kernel) j hj
  refine ⟨fun j x y => ?_, fun j x y => ?_, fun j x y => ?_, fun j x y => ?_, fun j x y => ?_, fun j x y => ?_, fun j x y => ?_, fun j x y => ?_, fun j h => ?_, fun j h => ?_⟩
  · rw [zKsn_30]; exact z30 j (by omega)
  · rw [zKsn_30]; exact z30 j (by omega)
  · rw [zKsn_32]; exact z32 j (by omega)
  · rw [zKsn_32]; exact z32 j (by omega)
  · rcases (show j = 2 ∨ j = 3 by omega) with rfl | rfl
    · rw [zKsn_11]; exact zBack_11_2
    · rw [zKsn_11]; exact zBack_11_3
  · rcases (show j = 2 ∨ j = 3 by omega) with rfl | rfl
    · rw [zKsn_12]; exact zBack_12_2
    · rw [zKsn_12]; exact zBack_12_3
  · rw [zKsn_38]; exact zBack_l (by omega)
  · rw [zKsn_38]; exact zBack_l (by omega)
  · rw [zKsn_46]; exact zBack_46 h
  · rw [zKsn_48]; exact zBack_48 h
theorem zBack_kv : zSc (zKsn σ) (zKsn (zBack σ)) := by
  obtain ⟨q1, q2⟩ := zBack_q (σ := σ)
  have e0 := q1.ro (k := 31) rfl
  have e2 := q1.ro (k := 33) rfl
  have e8 := q1.rlo (k := 39) rfl
  have e6 := q1.rlo (k := 47) rfl
  have e9 := q1.rlo (k := 49) rfl
  refine ⟨fun j _ _ => ?_, fun j _ _ => ?_, fun j _ _ => ?_, fun j _ _ => ?_, fun j x y => ?_, fun j x y => ?_, fun j _ _ => ?_, fun j _ _ => ?_, fun j _ => ?_, fun j _ => ?_⟩
  · rw [zKsn_30, zKsn_30, e0]
  · rw [zKsn_30, zKsn_30, e0]
  · rw [zKsn_32, zKsn_32, e2]
  · rw [zKsn_32, zKsn_32, e2]
  · rcases (show j = 2 ∨ j = 3 by omega) with rfl | rfl
    · rw [zKsn_11, zKsn_11]; exact zBack_11_4
    · rw [zKsn_11, zKsn_11]; exact zBack_11_5
  · rcases (show j = 2 ∨ j = 3 by omega) with rfl | rfl
    · rw [zKsn_12, zKsn_12]; exact zBack_12_4
    · rw [zKsn_12, zKsn_12]; exact zBack_12_5
  · rw [zKsn_38, zKsn_38, e8]
  · rw [zKsn_38, zKsn_38, e8]
  · rw [zKsn_46, zKsn_46, e6]
  · rw [zKsn_48, zKsn_48, e9]
/-! kept by the reference -/
theorem m_sv196v : ∀ (n i : Nat) (t : zSt), i ≤ 4096 → zQ [] [] [19, 20] [] μ t → (∀ j : Nat, j < i → t.2 19 j = μ.2 10 j ∧ t.2 20 j = μ.2 11 j) → zpc (fX12_save_196 n t (Int32.ofNat i)) (fun r => ∀ j : Nat, j < 4096 → r.2 19 j = μ.2 10 j ∧ r.2 20 j = μ.2 11 j) := by
  intro n
  induction n with
  | zero => intro i t _ _ _; exact zpc_none
  | succ n ih =>
    intro i t hi hd hin
    show zpc (fX12_save_196_body (fX12_save_196 n) t (Int32.ofNat i)) _
    unfold fX12_save_196_body
    refine zpc_if (fun q => zpc_some (fun j hj => hin j (by have := (z_ofL (k := 4096) (by omega) rfl).mp q; omega))) (fun q => ?_)
    have hi2 : i < 4096 := by
      have : ¬ 4096 ≤ i := fun z => q ((z_ofL (c := 4096) (k := 4096) (i := i) (by omega) rfl).mpr z)
      omega
    rw [z_ofC (by omega), z_ofS (by omega)]
    refine zpc_ck (zpc_ck (zpc_bv (fun t1 g1 => zpc_ck (zpc_ck (zpc_bv (fun t2 g2 => zpc_bv (fun x ex => ?_)))))))
    subst ex
    have a1 : ∀ j : Nat, t2.2 19 j = t1.2 19 j := fun j => by rw [g2]; exact zsl_off (fun q => absurd q.1 (by decide))
    have a2 : ∀ j : Nat, t1.2 20 j = t.2 20 j := fun j => by rw [g1]; exact zsl_off (fun q => absurd q.1 (by decide))
    refine ih (i + 1) t2 (by omega) (by rw [g2, g1]; exact zQ.wl (zQ.wl hd rfl) rfl) (fun j hj => ?_)
    by_cases z : j = i
    · rw [z]
      refine ⟨?_, ?_⟩
      · rw [a1, g1, zsl_ej]
        show t.2 10 i = μ.2 10 i
        rw [hd.rlo (k := 10) rfl]
      · rw [g2, zsl_ej]
        show t1.2 11 i = μ.2 11 i
        rw [g1, zsl_off (fun q => absurd q.1 (by decide)), hd.rlo (k := 11) rfl]
    · have y := hin j (by omega)
      refine ⟨?_, ?_⟩
      · rw [a1, g1, zsl_nj z]; exact y.1
      · rw [g2, zsl_nj z, a2]; exact y.2
theorem m_rs207v : ∀ (n i : Nat) (t : zSt), i ≤ 4096 → zQ [] [] [10, 11] [] μ t → (∀ j : Nat, j < i → t.2 10 j = μ.2 19 j ∧ t.2 11 j = μ.2 20 j) → zpc (fX12_restore_207 n t (Int32.ofNat i)) (fun r => ∀ j : Nat, j < 4096 → r.2 10 j = μ.2 19 j ∧ r.2 11 j = μ.2 20 j) := by
  intro n
  induction n with
  | zero => intro i t _ _ _; exact zpc_none
  | succ n ih =>
    intro i t hi hd hin
    show zpc (fX12_restore_207_body (fX12_restore_207 n) t (Int32.ofNat i)) _
    unfold fX12_restore_207_body
    refine zpc_if (fun q => zpc_some (fun j hj => hin j (by have := (z_ofL (k := 4096) (by omega) rfl).mp q; omega))) (fun q => ?_)
    have hi2 : i < 4096 := by
      have : ¬ 4096 ≤ i := fun z => q ((z_ofL (c := 4096) (k := 4096) (i := i) (by omega) rfl).mpr z)
      omega
    rw [z_ofC (by omega), z_ofS (by omega)]
    refine zpc_ck (zpc_ck (zpc_bv (fun t1 g1 => zpc_ck (zpc_ck (zpc_bv (fun t2 g2 => zpc_bv (fun x ex => ?_)))))))
    subst ex
    have a1 : ∀ j : Nat, t2.2 10 j = t1.2 10 j := fun j => by rw [g2]; exact zsl_off (fun q => absurd q.1 (by decide))
    have a2 : ∀ j : Nat, t1.2 11 j = t.2 11 j := fun j => by rw [g1]; exact zsl_off (fun q => absurd q.1 (by decide))
    refine ih (i + 1) t2 (by omega) (by rw [g2, g1]; exact zQ.wl (zQ.wl hd rfl) rfl) (fun j hj => ?_)
    by_cases z : j = i
    · rw [z]
      refine ⟨?_, ?_⟩
      · rw [a1, g1, zsl_ej]
        show t.2 19 i = μ.2 19 i
        rw [hd.rlo (k := 19) rfl]
      · rw [g2, zsl_ej]
        show t1.2 20 i = μ.2 20 i
        rw [g1, zsl_off (fun q => absurd q.1 (by decide)), hd.rlo (k := 20) rfl]
    · have y := hin j (by omega)
      refine ⟨?_, ?_⟩
      · rw [a1, g1, zsl_nj z]; exact y.1
      · rw [g2, zsl_nj z, a2]; exact y.2
theorem m_saveJ : zpc (fX12_save_12 zfuel μ 0) (fun r => ∀ j : Nat, j < 4096 → r.2 19 j = μ.2 10 j ∧ r.2 20 j = μ.2 11 j) := by
  refine m_sv12 (μ := μ) zfuel 0 μ (by decide) zQ.rf (fun j hj => absurd hj (by omega)) (fun u0 d0 v0 => ?_)
  refine m_sv39 (μ := u0) zfuel 0 u0 (by decide) zQ.rf (fun j hj => absurd hj (by omega)) (fun u1 d1 v1 => ?_)
  refine m_sv64 (μ := u1) zfuel 0 u1 (by decide) zQ.rf (fun j hj => absurd hj (by omega)) (fun u2 d2 v2 => ?_)
  refine m_sv91 (μ := u2) zfuel 0 u2 (by decide) zQ.rf (fun j hj => absurd hj (by omega)) (fun u3 d3 v3 => ?_)
  refine m_sv117 (μ := u3) zfuel 0 u3 (by decide) zQ.rf (fun j hj => absurd hj (by omega)) (fun u4 d4 v4 => ?_)
  refine m_sv144 (μ := u4) zfuel 0 u4 (by decide) zQ.rf (fun j hj => absurd hj (by omega)) (fun u5 d5 v5 => ?_)
  refine m_sv170 (μ := u5) zfuel 0 u5 (by decide) zQ.rf (fun j hj => absurd hj (by omega)) (fun u6 d6 v6 => ?_)
  refine zpc_mono (m_sv196v (μ := u6) zfuel 0 u6 (by decide) zQ.rf (fun j hj => absurd hj (by omega))) (fun r d7 j hj => ?_)
  refine ⟨?_, ?_⟩
  · rw [(d7 j hj).1, d6.rlo (k := 10) rfl, d5.rlo (k := 10) rfl, d4.rlo (k := 10) rfl, d3.rlo (k := 10) rfl, d2.rlo (k := 10) rfl, d1.rlo (k := 10) rfl, d0.rlo (k := 10) rfl]
  · rw [(d7 j hj).2, d6.rlo (k := 11) rfl, d5.rlo (k := 11) rfl, d4.rlo (k := 11) rfl, d3.rlo (k := 11) rfl, d2.rlo (k := 11) rfl, d1.rlo (k := 11) rfl, d0.rlo (k := 11) rfl]
theorem m_backJ : zpc (fX12_restore_23 zfuel μ 0) (fun r => ∀ j : Nat, j < 4096 → r.2 10 j = μ.2 19 j ∧ r.2 11 j = μ.2 20 j) := by
  refine m_rs23 (μ := μ) zfuel 0 μ (by decide) zQ.rf (fun j hj => absurd hj (by omega)) (fun u0 d0 v0 => ?_)
  refine m_rs50 (μ := u0) zfuel 0 u0 (by decide) zQ.rf (fun j hj => absurd hj (by omega)) (fun u1 d1 v1 => ?_)
  refine m_rs75 (μ := u1) zfuel 0 u1 (by decide) zQ.rf (fun j hj => absurd hj (by omega)) (fun u2 d2 v2 => ?_)
  refine m_rs102 (μ := u2) zfuel 0 u2 (by decide) zQ.rf (fun j hj => absurd hj (by omega)) (fun u3 d3 v3 => ?_)
  refine m_rs128 (μ := u3) zfuel 0 u3 (by decide) zQ.rf (fun j hj => absurd hj (by omega)) (fun u4 d4 v4 => ?_)
  refine m_rs155 (μ := u4) zfuel 0 u4 (by decide) zQ.rf (fun j hj => absurd hj (by omega)) (fun u5 d5 v5 => ?_)
  refine m_rs181 (μ := u5) zfuel 0 u5 (by decide) zQ.rf (fun j hj => absurd hj (by omega)) (fun u6 d6 v6 => ?_)
  refine zpc_mono (m_rs207v (μ := u6) zfuel 0 u6 (by decide) zQ.rf (fun j hj => absurd hj (by omega))) (fun r d7 j hj => ?_)
  refine ⟨?_, ?_⟩
  · rw [(d7 j hj).1, d6.rlo (k := 19) rfl, d5.rlo (k := 19) rfl, d4.rlo (k := 19) rfl, d3.rlo (k := 19) rfl, d2.rlo (k := 19) rfl, d1.rlo (k := 19) rfl, d0.rlo (k := 19) rfl]
  · rw [(d7 j hj).2, d6.rlo (k := 20) rfl, d5.rlo (k := 20) rfl, d4.rlo (k := 20) rfl, d3.rlo (k := 20) rfl, d2.rlo (k := 20) rfl, d1.rlo (k := 20) rfl, d0.rlo (k := 20) rfl]
theorem m_saveK : zpc (fX12_save μ ) (fun r => zQ [12, 14, 15, 16, 17, 18] [(0, 0, 0), (0, 19, 19)] [13, 19, 20] [] μ r ∧ zSrm μ (zKtn r)) := by
  unfold fX12_save
  refine zpc_bv (fun t1 e1 => zpc_ck (zpc_bv (fun t2 e2 => ?_)))
  have f1 : zQ [12, 14, 15, 16, 17, 18] [(0, 0, 0), (0, 19, 19)] [13, 19, 20] [] μ t2 := by rw [e2, e1]; exact zQ.wi (zQ.wi zQ.rf rfl) rfl
  refine zpc_mono (zpc_and (m_save' (μ := t2)) (m_saveJ (μ := t2))) (fun r p => ?_)
  obtain ⟨⟨b0, w3, w4, _⟩, w10⟩ := p
  have g3 : t2.1 3 = μ.1 3 := f1.ro (k := 3) rfl
  have g4 : t2.2 = μ.2 := by rw [e2, e1]; rfl
  refine ⟨f1.tr b0, ⟨fun j x y => ?_, fun j x y => ?_, fun j x y => ?_, fun j x y => ?_, fun j x y => ?_, fun j x y => ?_, fun j hj => ?_, fun j hj => ?_⟩⟩
  · show r.1 12 j = μ.1 3 j
    rw [w3 j (by omega), g3]
  · show r.1 12 j = μ.1 3 j
    rw [w3 j (by omega), g3]
  · show r.1 12 j = μ.1 3 j
    rw [w3 j (by omega), g3]
  · show r.1 12 j = μ.1 3 j
    rw [w3 j (by omega), g3]
  · show r.1 12 j = μ.1 3 j
    rw [w3 j (by omega), g3]
  · show r.2 13 j = μ.2 4 j
    rw [w4 j (by omega), g4]
  · show r.2 19 j = μ.2 10 j
    rw [(w10 j hj).1, g4]
  · show r.2 20 j = μ.2 11 j
    rw [(w10 j hj).2, g4]
theorem m_restK (nq : ¬ μ.1 0 19 = 0) : zpc (fX12_restore μ ) (fun r => zQ [3, 5, 6, 7, 8, 9] [(0, 0, 0)] [4, 10, 11] [] μ r ∧ zSrm (zKtn μ) r) := by
  unfold fX12_restore fX12_restore_13
  refine zpc_if (fun z => absurd z nq) (fun _ => zpc_fails0' (fun t1 e1 => zpc_if (fun _ => ?_) (fun z => absurd rfl z)))
  have f1 : zQ [3, 5, 6, 7, 8, 9] [(0, 0, 0)] [4, 10, 11] [] μ t1 := by rw [e1]; exact zQ.wi zQ.rf rfl
  refine zpc_mono (zpc_and (m_back (μ := t1)) (zpc_and (m_backf (μ := t1)) (m_backJ (μ := t1)))) (fun r p => ?_)
  obtain ⟨p1, p2, p10⟩ := p
  have g12 : t1.1 12 = μ.1 12 := f1.ro (k := 12) rfl
  have g2 : t1.2 = μ.2 := by rw [e1]; rfl
  have r3 := p1.ro (k := 3) rfl
  have r4 := p1.rlo (k := 4) rfl
  refine ⟨f1.tr (p2.mono rfl rfl), ⟨fun j x y => ?_, fun j x y => ?_, fun j x y => ?_, fun j x y => ?_, fun j x y => ?_, fun j x y => ?_, fun j hj => ?_, fun j hj => ?_⟩⟩
  · show r.1 3 j = μ.1 12 j
    rw [r3, zKm_3 (by omega), g12]
  · show r.1 3 j = μ.1 12 j
    rw [r3, zKm_3 (by omega), g12]
  · show r.1 3 j = μ.1 12 j
    rw [r3, zKm_3 (by omega), g12]
  · show r.1 3 j = μ.1 12 j
    rw [r3, zKm_3 (by omega), g12]
  · show r.1 3 j = μ.1 12 j
    rw [r3, zKm_3 (by omega), g12]
  · show r.2 4 j = μ.2 13 j
    rw [r4, zKm_l (by omega), g2]
  · show r.2 10 j = μ.2 19 j
    rw [(p10 j hj).1, g2]
  · show r.2 11 j = μ.2 20 j
    rw [(p10 j hj).2, g2]
theorem gj_save (h : zAlj J K σ μ) : zp2 (fX11_save σ ) (fX12_save μ ) (zAlj J K) := fun a b ea eb => by
  have x := g_save h.1 a b ea eb
  have ha := k_save a ea
  have hm := m_saveK b eb
  rw [ha] at x ⊢
  exact ⟨x, J.2.2.1 _ _ _ _ _ h.2.1 zKept_sc (zSrm.of hm.1 rfl), fun _ => J.2.2.1 _ _ _ _ _ h.2.1 zKept_kv hm.2⟩
theorem gj_restore (h : zAlj J K σ μ) (hf : σ.1 0 11 = 0 ↔ μ.1 0 19 = 0) : zp2 (fX11_restore σ ) (fX12_restore μ ) (fun r r' => zAlj J K (zRus r) r') := fun a b ea eb => by
  have x : zAll K (zRus a) b := g_restore h.1 hf a b ea eb
  show zAlj J K (zRus a) b
  by_cases q : σ.1 0 11 = 0
  · have ha : zpc (fX11_restore σ ) (fun r => zRus r = σ) := by
      unfold fX11_restore
      exact zpc_if (fun _ => zpc_some rfl) (fun z => absurd q z)
    have hb : zpc (fX12_restore μ ) (fun r => ∃ v, r = zsi μ 0 0 v) := by
      unfold fX12_restore fX12_restore_13
      exact zpc_if (fun _ => zpc_fails1 (fun t1 e1 => zpc_if (fun z => absurd z (by decide)) (fun _ => zpc_some ⟨_, e1⟩))) (fun z => absurd (hf.mp q) z)
    obtain ⟨v, eb'⟩ := hb b eb
    have ea' : zRus a = σ := ha a ea
    rw [ea', eb'] at x ⊢
    exact ⟨x, J.2.1.th h.2.1, fun z => absurd q z⟩
  · have nq : ¬ μ.1 0 19 = 0 := fun z => q (hf.mpr z)
    have ha := c_restore q a ea
    have hb := m_restK nq b eb
    rw [ha] at x ⊢
    exact ⟨x, J.2.2.1 _ _ _ _ _ (h.2.2 q) zBack_sc hb.2, fun _ => J.2.2.1 _ _ _ _ _ (h.2.2 q) zBack_kv (zKtn.of hb.1 rfl)⟩
theorem z_freshJ {k c : Int32} {σ4 σ5 σ9 σ1 : zSt} {σ6 : Int32 → zSt} (ec : c = zKd k) (e4 : fX7_clear zS0 = some σ4) (e5 : fX10_clear zS0 = some σ5) (e6 : ∀ v, fX4_clear (zsi (zsi (zsi zS0 6 0 v) 34 10 1) 34 11 1) = some (σ6 v)) (e9 : fJ7_fill_53178_k44 zS0 (-1) = some σ9) (e : fX12_anew (zsi (zsi (zsi (zsi (zsi zS0 0 8 (-1)) 0 3 c) 3 44 0) 3 45 1) 3 46 1) = some σ1) : zAlj ⟨zJ1, zJ1_jw⟩ 0 (zC1 k σ4 σ5 σ6 σ9) σ1 := by
  refine ⟨z_freshA ec e4 e5 e6 e9 e, ?_, fun q => absurd rfl q⟩
  have a4 := c_clr7 σ4 e4
  have b := m_anewx σ1 e
  have c38 : ∀ j, (zC1 k σ4 σ5 σ6 σ9).2 38 j = 0 := fun j => rfl
  have l4 : σ1.2 4 = zS0.2 4 := b.1.rlo (k := 4) rfl
  have l10 : σ1.2 10 = zS0.2 10 := b.1.rlo (k := 10) rfl
  have m8 : ∀ j : Nat, 87 ≤ j → j ≤ 88 → σ1.1 3 j = 0 := fun j x y => by
    rw [b.1.o (k := 3) (a := 87) (b := 88) rfl x y, zsi_nj (by omega), zsi_nj (by omega), zsi_nj (by omega), zsi_ne (by decide), zsi_ne (by decide)]
    rfl
  have m6 : ∀ j : Nat, 166 ≤ j → j ≤ 168 → σ1.1 3 j = 0 := fun j x y => by
    rw [b.1.o (k := 3) (a := 166) (b := 168) rfl x y, zsi_nj (by omega), zsi_nj (by omega), zsi_nj (by omega), zsi_ne (by decide), zsi_ne (by decide)]
    rfl
  show zJ1 (64 * 0) (zC1 k σ4 σ5 σ6 σ9) σ1
  refine ⟨⟨zTo_new (fun j hj => (show (zC1 k σ4 σ5 σ6 σ9).1 30 j = σ4.1 30 j from rfl).trans (a4.2 j hj)) b.2.2.1, ⟨?_, ?_, fun j hj => ?_, ?_, ?_⟩, ?_, ?_⟩, ?_, ?_⟩
  · rw [m8 88 (by decide) (by decide)]; rfl
  · rw [m8 87 (by decide) (by decide)]; rfl
  · rw [l10]; rfl
  · rw [m8 88 (by decide) (by decide)]; exact zr_c (by decide)
  · rw [m8 87 (by decide) (by decide)]; exact zr_c (by decide)
  · rw [c38, l4]; rfl
  · unfold zSmn
    rw [c38 6, c38 4, c38 5, c38 0, m6 168 (by decide) (by decide), m6 166 (by decide) (by decide), m6 167 (by decide) (by decide)]
    decide
  · rw [c38]; decide
  · rw [c38]; decide
/-- what sound() tells -/
theorem zAlj.rs (h : zAlj ⟨zJ1, zJ1_jw⟩ K σ μ) : zRs σ μ := by
  obtain ⟨C, hC, n⟩ := h.1.1
  have hE : zE σ μ := n.ve.1
  have hT : zTo σ μ := h.2.1.1.1
  have g0 : ∀ d : Nat, d < 3 → σ.1 30 (0 + d) = μ.1 3 (69 + d) := fun d hd => by rw [← hE.at (z_pn30_0 hd), z_an1]
  have g9 : ∀ d : Nat, d < 5 → σ.1 30 (9 + d) = μ.1 3 (78 + d) := fun d hd => by rw [← hE.at (z_pn30_9 hd), z_an1]
  have g17 : σ.1 30 17 = μ.1 3 86 := (hE.at (z_pn30_17 (d := 0) (by decide))).symm.trans (z_an1 _)
  have g18 : σ.1 30 18 = μ.1 3 34 := (hE.at (z_pn30_18 (d := 0) (by decide))).symm.trans (z_an1 _)
  refine ⟨fun j hj => ?_, g18⟩
  by_cases q1 : j < 3
  · have z := g0 j q1
    rw [Nat.zero_add] at z
    exact z
  by_cases q2 : j ≤ 8
  · exact (hT.1 j (by omega) q2).symm
  by_cases q3 : j ≤ 13
  · have z := g9 (j - 9) (by omega)
    rw [show 9 + (j - 9) = j by omega, show 78 + (j - 9) = 69 + j by omega] at z
    exact z
  by_cases q4 : j ≤ 16
  · exact (hT.2.1 j (by omega) q4).symm
  obtain rfl : j = 17 := by omega
  exact g17
end ZSV
end ZJN0
section ZJN1
theorem fi_fX2_batteryIsIn_25 {σ0 : zSt} {σ : zSt} {s0 : Int32} (h : (zQ [] [] [] []) σ0 σ) : zpc (fX2_batteryIsIn_25 σ s0) (fun r => (zQ [] [] [] []) σ0 (r.1)) := by
  unfold fX2_batteryIsIn_25
  exact zpc_ck (zpc_some h)
theorem fi_fX2_batteryIsIn_24 {σ0 : zSt} {σ : zSt} (h : (zQ [] [] [] []) σ0 σ) : zpc (fX2_batteryIsIn_24 σ) (fun r => (zQ [] [] [] []) σ0 (r.1)) := by
  unfold fX2_batteryIsIn_24
  exact fi_fX2_batteryIsIn_25 h
theorem fi_fX2_batteryIsIn {σ0 : zSt} {σ : zSt} (h : (zQ [] [] [] []) σ0 σ) : zpc (fX2_batteryIsIn σ) (fun r => (zQ [] [] [] []) σ0 (r.1)) := by
  unfold fX2_batteryIsIn
  exact zpc_if (fun _ => zpc_ck (zpc_if (fun _ => fi_fX2_batteryIsIn_24 h) (fun _ => fi_fX2_batteryIsIn_25 h))) (fun _ => fi_fX2_batteryIsIn_24 h)
theorem fi_fX2_batteryPlace {σ0 : zSt} {σ : zSt} {x1 : Int32} (h : (zQ [] [] [] []) σ0 σ) : zpc (fX2_batteryPlace σ x1) (fun r => (zQ [] [] [] []) σ0 (r.1)) := by
  unfold fX2_batteryPlace
  exact zpc_ck (zpc_some h)
theorem fi_fX2_read_169 {σ0 : zSt} {σ : zSt} {s0 : Int32} (h : (zQ [] [] [] []) σ0 σ) : zpc (fX2_read_169 σ s0) (fun r => (zQ [] [] [] []) σ0 (r.1)) := by
  unfold fX2_read_169
  exact zpc_some h
theorem fi_fX2_read_144 {σ0 : zSt} {σ : zSt} {x3 : Int32} (h : (zQ [] [] [] []) σ0 σ) : zpc (fX2_read_144 σ x3) (fun r => (zQ [] [] [] []) σ0 (r.1)) := by
  unfold fX2_read_144
  exact zpc_if (fun _ => fi_fX2_read_169 h) (fun _ => zpc_ck (fi_fX2_read_169 h))
theorem fi_fX2_read_126 {σ0 : zSt} {σ : zSt} {x2 : Int32} {x6 : Int32} (h : (zQ [] [] [] []) σ0 σ) : zpc (fX2_read_126 σ x2 x6) (fun r => (zQ [] [] [] []) σ0 (r.1)) := by
  unfold fX2_read_126
  exact zpc_ck (zpc_bv (fun v1 _ => fi_fX2_read_144 h))
theorem fi_fX2_read_106 {σ0 : zSt} {σ : zSt} {x2 : Int32} {s0 : Int32} (h : (zQ [] [] [] []) σ0 σ) : zpc (fX2_read_106 σ x2 s0) (fun r => (zQ [] [] [] []) σ0 (r.1)) := by
  unfold fX2_read_106
  exact zpc_if (fun _ => zpc_if (fun _ => fi_fX2_read_126 h) (fun _ => fi_fX2_read_126 h)) (fun _ => fi_fX2_read_126 h)
theorem fi_fX2_read_87 {σ0 : zSt} {σ : zSt} {x2 : Int32} {x4 : Int32} {s0 : Int32} (h : (zQ [] [] [] []) σ0 σ) : zpc (fX2_read_87 σ x2 x4 s0) (fun r => (zQ [] [] [] []) σ0 (r.1)) := by
  unfold fX2_read_87
  exact zpc_if (fun _ => zpc_ck (fi_fX2_read_106 h)) (fun _ => fi_fX2_read_106 h)
theorem fi_fX2_read_86 {σ0 : zSt} {σ : zSt} {x2 : Int32} {x4 : Int32} (h : (zQ [] [] [] []) σ0 σ) : zpc (fX2_read_86 σ x2 x4) (fun r => (zQ [] [] [] []) σ0 (r.1)) := by
  unfold fX2_read_86
  exact fi_fX2_read_87 h
theorem fi_fX2_read_62 {σ0 : zSt} {σ : zSt} {x2 : Int32} (h : (zQ [] [] [] []) σ0 σ) : zpc (fX2_read_62 σ x2) (fun r => (zQ [] [] [] []) σ0 (r.1)) := by
  unfold fX2_read_62
  exact zpc_bv (fun v2 _ => zpc_if (fun _ => zpc_if (fun _ => fi_fX2_read_86 h) (fun _ => fi_fX2_read_87 h)) (fun _ => fi_fX2_read_86 h))
theorem fi_fX2_read {σ0 : zSt} {σ : zSt} {x1 : Int32} (h : (zQ [] [] [] []) σ0 σ) : zpc (fX2_read σ x1) (fun r => (zQ [] [] [] []) σ0 (r.1)) := by
  unfold fX2_read
  exact zpc_bv (fun v3 _ => zpc_if (fun _ => zpc_if (fun _ => fi_fX2_read_144 h) (fun _ => zpc_if (fun _ => fi_fX2_read_144 h) (fun _ => zpc_if (fun _ => fi_fX2_read_62 h) (fun _ => zpc_bi (fi_fX2_batteryIsIn h) (fun σ4 v5 hσ4 => zpc_if (fun _ => fi_fX2_read_62 hσ4) (fun _ => zpc_bi (fi_fX2_batteryPlace hσ4) (fun σ6 v7 hσ6 => zpc_ck (zpc_some hσ6)))))))) (fun _ => zpc_ck (zpc_some h)))
theorem fI_fX12_ofBank {σ0 : zSt} {σ : zSt} {x1 : Int32} {x2 : Int32} (h : (zQ [] [] [] []) σ0 σ) : zpc (fX12_ofBank σ x1 x2) (fun r => (zQ [] [] [] []) σ0 (r.1)) := by
  unfold fX12_ofBank
  exact zpc_ck (zpc_ck (zpc_ck (zpc_some h)))
theorem fI_fX12_isBattery_38 {σ0 : zSt} {σ : zSt} {s0 : Int32} (h : (zQ [] [] [] []) σ0 σ) : zpc (fX12_isBattery_38 σ s0) (fun r => (zQ [] [] [] []) σ0 (r.1)) := by
  unfold fX12_isBattery_38
  exact zpc_ck (zpc_some h)
theorem fI_fX12_isBattery_37 {σ0 : zSt} {σ : zSt} (h : (zQ [] [] [] []) σ0 σ) : zpc (fX12_isBattery_37 σ) (fun r => (zQ [] [] [] []) σ0 (r.1)) := by
  unfold fX12_isBattery_37
  exact fI_fX12_isBattery_38 h
theorem fI_fX12_isBattery {σ0 : zSt} {σ : zSt} {x1 : Int32} (h : (zQ [] [] [] []) σ0 σ) : zpc (fX12_isBattery σ x1) (fun r => (zQ [] [] [] []) σ0 (r.1)) := by
  unfold fX12_isBattery
  exact zpc_if (fun _ => zpc_ck (zpc_if (fun _ => fI_fX12_isBattery_37 h) (fun _ => zpc_if (fun _ => fI_fX12_isBattery_37 h) (fun _ => zpc_if (fun _ => fI_fX12_isBattery_37 h) (fun _ => fI_fX12_isBattery_38 h))))) (fun _ => fI_fX12_isBattery_37 h)
theorem fI_fX12_batteryAt_23 {σ0 : zSt} {σ : zSt} {s0 : Int32} {s1 : Int32} (h : (zQ [] [] [] []) σ0 σ) : zpc (fX12_batteryAt_23 σ s0 s1) (fun r => (zQ [] [] [] []) σ0 (r.1)) := by
  unfold fX12_batteryAt_23
  exact zpc_some h
theorem fI_fX12_batteryAt {σ0 : zSt} {σ : zSt} {x1 : Int32} (h : (zQ [] [] [] []) σ0 σ) : zpc (fX12_batteryAt σ x1) (fun r => (zQ [] [] [] []) σ0 (r.1)) := by
  unfold fX12_batteryAt
  exact zpc_ck (zpc_if (fun _ => fI_fX12_batteryAt_23 h) (fun _ => fI_fX12_batteryAt_23 h))
theorem fI_fX12_read_80 {σ0 : zSt} {σ : zSt} {s0 : Int32} (h : (zQ [] [] [] []) σ0 σ) : zpc (fX12_read_80 σ s0) (fun r => (zQ [] [] [] []) σ0 (r.1)) := by
  unfold fX12_read_80
  exact zpc_some h
theorem fI_fX12_read_111 {σ0 : zSt} {σ : zSt} {x2 : Int32} {s0 : Int32} (h : (zQ [] [] [] []) σ0 σ) : zpc (fX12_read_111 σ x2 s0) (fun r => (zQ [] [] [] []) σ0 (r.1)) := by
  unfold fX12_read_111
  exact zpc_bi (fI_fX12_ofBank h) (fun σ1 v2 hσ1 => zpc_some hσ1)
theorem fI_fX12_read_138 {σ0 : zSt} {σ : zSt} {x2 : Int32} (h : (zQ [] [] [] []) σ0 σ) : zpc (fX12_read_138 σ x2) (fun r => (zQ [] [] [] []) σ0 (r.1)) := by
  unfold fX12_read_138
  exact zpc_ck (zpc_ck (zpc_bi (fI_fX12_ofBank h) (fun σ3 v4 hσ3 => zpc_some hσ3)))
theorem fI_fX12_read {σ0 : zSt} {σ : zSt} {x1 : Int32} (h : (zQ [] [] [] []) σ0 σ) : zpc (fX12_read σ x1) (fun r => (zQ [] [] [] []) σ0 (r.1)) := by
  unfold fX12_read
  exact zpc_bv (fun v5 _ => zpc_if (fun _ => zpc_bi (fI_fX12_isBattery h) (fun σ6 v7 hσ6 => zpc_if (fun _ => zpc_if (fun _ => zpc_if (fun _ => fI_fX12_read_80 hσ6) (fun _ => zpc_ck (fI_fX12_read_80 hσ6))) (fun _ => zpc_if (fun _ => zpc_if (fun _ => zpc_ck (fI_fX12_read_111 hσ6)) (fun _ => zpc_ck (fI_fX12_read_111 hσ6))) (fun _ => zpc_if (fun _ => zpc_if (fun _ => fI_fX12_read_138 hσ6) (fun _ => zpc_bi (fI_fX12_ofBank hσ6) (fun σ8 v9 hσ8 => zpc_some hσ8))) (fun _ => fI_fX12_read_138 hσ6)))) (fun _ => zpc_bi (fI_fX12_batteryAt hσ6) (fun σ10 v11 hσ10 => zpc_ck (zpc_some hσ10))))) (fun _ => zpc_ck (zpc_ck (zpc_some h))))
end ZJN1
section ZJN2
/-! THE TELLER: HOW MANY SIGNS, HOW MANY BYTES -/
theorem zpc_ckh {α : Type} {b : Bool} {x : Option α} {Q : α → Prop} (h : b = true → zpc x Q) : zpc (zck b x) Q := by
  cases b with
  | true => exact h rfl
  | false => exact zpc_none
theorem zkL_all : ∀ n : Fin 179, zkL n.val ≤ 1000 := by decide +kernel
theorem zkL_le {n : Nat} (h : decide (n < zNK) = true) : zkL n ≤ 1000 := zkL_all ⟨n, of_decide_eq_true h⟩
theorem zkN_i {n : Nat} (h : zkL n ≤ 1000) : (zkN n).toInt = (zkL n : Nat) := z_ofI (by omega)
section ZTE
variable {σ μ s t : zSt} {x y z p b i l : Int32}
noncomputable def zTln (k : Nat) (a b : Int) : Prop := b ≤ 32 ∧ (b = a + (k : Int) ∨ (b = 32 ∧ 32 ≤ a + (k : Int)))
noncomputable def zTs (k c : Nat) (σ s : zSt) : Prop := zQ [45] [(10, 2, 2), (10, 4, 4)] [] [] σ s ∧ (zr 0 32 (σ.1 10 2) → 0 ≤ (σ.1 10 4).toInt → (σ.1 10 4).toInt + (c : Int) ≤ 1000 → zTln k (σ.1 10 2).toInt (s.1 10 2).toInt ∧ (s.1 10 4).toInt = (σ.1 10 4).toInt + (c : Int))
theorem zTs.rf : zTs 0 0 σ σ := ⟨zQ.rf, fun x y z => ⟨⟨x.2, Or.inl (by omega)⟩, by omega⟩⟩
theorem zTs.tr {a b c d : Nat} (h : zTs a b σ s) (g : zTs c d s t) : zTs (a + c) (b + d) σ t := by
  obtain ⟨h1, h2⟩ := h
  obtain ⟨g1, g2⟩ := g
  refine ⟨h1.tr g1, fun x y z => ?_⟩
  obtain ⟨⟨u1, u2⟩, u3⟩ := h2 x y (by omega)
  have x0 := x.1
  have x1 := x.2
  obtain ⟨⟨v1, v2⟩, v3⟩ := g2 ⟨by omega, u1⟩ (by omega) (by omega)
  exact ⟨⟨v1, by omega⟩, by omega⟩
theorem zTsb {o : Option zSt} {f : zSt → Option zSt} {a b c d : Nat} (h : zpc o (zTs a b σ)) (k : ∀ s, zTs a b σ s → zpc (f s) (zTs c d s)) : zpc (zbu o f) (zTs (a + c) (b + d) σ) := zpc_bu h (fun s hs => zpc_mono (k s hs) (fun r q => zTs.tr hs q))
theorem zTsi {o : Option (zSt × Int32)} {f : zSt → Int32 → Option zSt} {a b c d : Nat} (h : zpc o (fun r => zTs a b σ r.1)) (k : ∀ s v, zTs a b σ s → zpc (f s v) (zTs c d s)) : zpc (zbi o f) (zTs (a + c) (b + d) σ) := zpc_bi h (fun s v hs => zpc_mono (k s v hs) (fun r q => zTs.tr hs q))
theorem zTsif {q : Prop} {d1 d2 d3 : Decidable q} {A B : Option zSt} {a b c d : Nat} (h1 : q → zpc A (zTs a b σ)) (h2 : ¬ q → zpc B (zTs c d σ)) : zpc (@ite _ q d1 A B) (zTs (@ite _ q d2 a c) (@ite _ q d3 b d) σ) := by
  by_cases z : q
  · rw [if_pos z, if_pos z, if_pos z]; exact h1 z
  · rw [if_neg z, if_neg z, if_neg z]; exact h2 z
noncomputable def zEc (x y z p b : Int32) (σ : zSt) : Prop := σ.1 10 5 = x ∧ σ.1 10 6 = y ∧ σ.1 10 7 = z ∧ σ.1 10 8 = p ∧ σ.1 10 9 = b
theorem zEc.kp {k c : Nat} (e : zEc x y z p b σ) (h : zTs k c σ s) : zEc x y z p b s := by
  have g : ∀ j : Nat, 5 ≤ j → j ≤ 9 → s.1 10 j = σ.1 10 j := fun j h1 h2 => h.1.o (k := 10) (a := 5) (b := 9) rfl h1 h2
  unfold zEc
  rw [g 5 (by decide) (by decide), g 6 (by decide) (by decide), g 7 (by decide) (by decide), g 8 (by decide) (by decide), g 9 (by decide) (by decide)]
  exact e
theorem tc_sign {v : Int32} : zpc (fX8_putSign σ v) (zTs 1 0 σ) := by
  unfold fX8_putSign fX8_putSign_29
  have c1 : (1 : Int32).toInt = 1 := rfl
  refine zpc_if (fun q => zpc_some ⟨zQ.rf, fun x y z => ?_⟩) (fun q => zpc_ck (zpc_bv (fun s1 e1 => zpc_bv (fun s2 e2 => zpc_some ?_))))
  · have q1 : 32 ≤ (σ.1 10 2).toInt := Int32.le_iff_toInt_le.mp q
    have x2 := x.2
    exact ⟨⟨by omega, by omega⟩, by omega⟩
  · have g1 : zgi s1 10 2 = σ.1 10 2 := by rw [e1]; rfl
    rw [g1] at e2
    have l2 : s2.1 10 2 = σ.1 10 2 + 1 := by rw [e2, zsi_ej]
    have l4 : s2.1 10 4 = σ.1 10 4 := by rw [e2, zsi_nj (by decide), e1, zsi_ne (by decide)]
    refine ⟨by rw [e2, e1]; exact zQ.wi (zQ.wi zQ.rf rfl) rfl, fun x y z => ?_⟩
    have q1 : (σ.1 10 2).toInt < 32 := Int32.lt_iff_toInt_lt.mp (z_nle q)
    have t1 := z_tadd x (zr_c (lo := 1) (hi := 1) (x := 1) (by decide)) (by decide)
    have x0 := x.1
    rw [l2, l4, t1, c1]
    exact ⟨⟨by omega, by omega⟩, by omega⟩
theorem tc_take : zpc (fX8_take σ ) (fun r => zTs 0 1 σ r.1) := by
  unfold fX8_take
  have c1 : (1 : Int32).toInt = 1 := rfl
  refine zpc_bi (fi_fX2_read (σ0 := σ) zQ.rf) (fun s1 v e => zpc_bv (fun s2 e2 => zpc_some ?_))
  have e1 : s1 = σ := zQ_eq e
  rw [e1] at e2
  have e2 : s2 = zsi σ 10 4 (σ.1 10 4 + 1) := e2
  have l2 : s2.1 10 2 = σ.1 10 2 := by rw [e2, zsi_nj (by decide)]
  have l4 : s2.1 10 4 = σ.1 10 4 + 1 := by rw [e2, zsi_ej]
  show zTs 0 1 σ s2
  refine ⟨by rw [e2]; exact zQ.wi zQ.rf rfl, fun x y z => ?_⟩
  have t1 := z_tadd (x := σ.1 10 4) (y := 1) (a := 0) (b := 1000) ⟨y, by omega⟩ (zr_c (lo := 1) (hi := 1) (x := 1) (by decide)) (by decide)
  have x2 := x.2
  rw [l2, l4, t1, c1]
  exact ⟨⟨by omega, by omega⟩, by omega⟩
/-- the signs of the k-th name -/
noncomputable def zNmq (n : Nat) (k : Int32) : Nat → Nat → Int32 → Nat
  | 0, _, _ => 0
  | m + 1, i, q => if zkC n i = 59 then zNmq n k m (i + 1) (q + 1) else (if q = k then 1 else 0) + zNmq n k m (i + 1) q
theorem tc_name5 {n : Nat} {k : Int32} : ∀ (f m i : Nat) (q : Int32) (σ : zSt), m + i = zkL n → zpc (fX8_putName_5 f σ n k q (Int32.ofNat i)) (zTs (zNmq n k m i q) 0 σ) := by
  intro f
  induction f with
  | zero => intro m i q σ _; exact zpc_none
  | succ f ih =>
    intro m i q σ hm
    show zpc (fX8_putName_5_body (fX8_putName_5 f) σ n k q (Int32.ofNat i)) _
    unfold fX8_putName_5_body fX8_putName_46
    refine zpc_ckh (fun hb => ?_)
    have hl := zkL_le hb
    have hN := zkN_i hl
    refine zpc_if (fun c => ?_) (fun c => ?_)
    · have c1 := (z_ofL (i := i) (by omega) hN).mp c
      obtain rfl : m = 0 := by omega
      exact zpc_some zTs.rf
    · have c1 : ¬ zkL n ≤ i := fun u => c ((z_ofL (i := i) (by omega) hN).mpr u)
      obtain ⟨m, rfl⟩ : ∃ m', m = m' + 1 := ⟨m - 1, by omega⟩
      have e : zNmq n k (m + 1) i q = if zkC n i = 59 then zNmq n k m (i + 1) (q + 1) else (if q = k then 1 else 0) + zNmq n k m (i + 1) q := rfl
      rw [e, z_ofC (by omega), z_ofS (by omega)]
      refine zpc_ck (zpc_ck (zpc_if (fun d => ?_) (fun d => zpc_if (fun u => ?_) (fun u => ?_))))
      · rw [if_pos d]
        refine zpc_bv (fun v ev => zpc_bv (fun w ew => ?_))
        subst ev
        subst ew
        exact ih m (i + 1) (q + 1) σ (by omega)
      · rw [if_neg d, if_pos u]
        refine zpc_ck (zpc_ck (zpc_bu tc_sign (fun s1 h1 => zpc_bv (fun w ew => ?_))))
        subst ew
        exact zpc_mono (ih m (i + 1) q s1 (by omega)) (fun r g => zTs.tr h1 g)
      · rw [if_neg d, if_neg u, Nat.zero_add]
        refine zpc_bv (fun w ew => ?_)
        subst ew
        exact ih m (i + 1) q σ (by omega)
theorem tc_name {n : Nat} {k : Int32} : zpc (fX8_putName σ n k) (zTs (zNmq n k (zkL n) 0 0) 0 σ) := by
  unfold fX8_putName
  exact tc_name5 zfuel (zkL n) 0 0 σ (by omega)
noncomputable def k_fX8_putByte : Nat := (1 + (1 + 0))
noncomputable def t_fX8_putByte : Nat := (0 + (0 + 0))
theorem tc_fX8_putByte (e : zEc x y z p b σ) {x1 : Int32} : zpc (fX8_putByte σ x1) (zTs k_fX8_putByte t_fX8_putByte σ) := by
  unfold fX8_putByte k_fX8_putByte t_fX8_putByte
  refine zpc_ck ?_
  refine zpc_ck ?_
  refine zTsb (show zpc (fX8_putSign σ (zkC 1 ((x1 >>> ((4 : Int32) &&& 31)) &&& 15).toNatClampNeg)) (zTs 1 0 σ) from tc_sign) (fun σ1 hσ1 => ?_)
  have eσ1 := e.kp hσ1
  refine zpc_ck ?_
  refine zpc_ck ?_
  refine zTsb (show zpc (fX8_putSign σ1 (zkC 1 (x1 &&& 15).toNatClampNeg)) (zTs 1 0 σ1) from tc_sign) (fun σ2 hσ2 => ?_)
  exact zpc_some zTs.rf
noncomputable def k_fX8_putWord : Nat := (k_fX8_putByte + (k_fX8_putByte + 0))
noncomputable def t_fX8_putWord : Nat := (t_fX8_putByte + (t_fX8_putByte + 0))
theorem tc_fX8_putWord (e : zEc x y z p b σ) {x1 : Int32} : zpc (fX8_putWord σ x1) (zTs k_fX8_putWord t_fX8_putWord σ) := by
  unfold fX8_putWord k_fX8_putWord t_fX8_putWord
  refine zTsb (show zpc (fX8_putByte σ ((x1 >>> ((8 : Int32) &&& 31)) &&& 255)) (zTs k_fX8_putByte t_fX8_putByte σ) from tc_fX8_putByte e) (fun σ1 hσ1 => ?_)
  have eσ1 := e.kp hσ1
  refine zTsb (show zpc (fX8_putByte σ1 (x1 &&& 255)) (zTs k_fX8_putByte t_fX8_putByte σ1) from tc_fX8_putByte eσ1) (fun σ2 hσ2 => ?_)
  exact zpc_some zTs.rf
noncomputable def k_fX8_putHl_35 : Nat := (1 + 0)
noncomputable def t_fX8_putHl_35 : Nat := (0 + 0)
theorem tc_fX8_putHl_35 (e : zEc x y z p b σ) {s0 : Int32} : zpc (fX8_putHl_35 σ s0) (zTs k_fX8_putHl_35 t_fX8_putHl_35 σ) := by
  unfold fX8_putHl_35 k_fX8_putHl_35 t_fX8_putHl_35
  refine zTsb (show zpc (fX8_putSign σ s0) (zTs 1 0 σ) from tc_sign) (fun σ1 hσ1 => ?_)
  exact zpc_some zTs.rf
noncomputable def k_fX8_putHl_15 : Nat := (1 + k_fX8_putHl_35)
noncomputable def t_fX8_putHl_15 : Nat := (0 + t_fX8_putHl_35)
theorem tc_fX8_putHl_15 (e : zEc x y z p b σ) {s0 : Int32} : zpc (fX8_putHl_15 σ s0) (zTs k_fX8_putHl_15 t_fX8_putHl_15 σ) := by
  unfold fX8_putHl_15 k_fX8_putHl_15 t_fX8_putHl_15
  refine zTsb (show zpc (fX8_putSign σ s0) (zTs 1 0 σ) from tc_sign) (fun σ2 hσ2 => ?_)
  have eσ2 := e.kp hσ2
  rw [show zgi σ2 10 8 = p from eσ2.2.2.2.1]
  refine zpc_if (fun _ => ?_) (fun _ => ?_)
  · skip
    exact (show zpc (fX8_putHl_35 σ2 108) (zTs k_fX8_putHl_35 t_fX8_putHl_35 σ2) from tc_fX8_putHl_35 eσ2)
  · skip
    exact (show zpc (fX8_putHl_35 σ2 p) (zTs k_fX8_putHl_35 t_fX8_putHl_35 σ2) from tc_fX8_putHl_35 eσ2)
noncomputable def k_fX8_putHl : Nat := k_fX8_putHl_15
noncomputable def t_fX8_putHl : Nat := t_fX8_putHl_15
theorem tc_fX8_putHl (e : zEc x y z p b σ) : zpc (fX8_putHl σ ) (zTs k_fX8_putHl t_fX8_putHl σ) := by
  unfold fX8_putHl k_fX8_putHl t_fX8_putHl
  rw [show zgi σ 10 8 = p from e.2.2.2.1]
  refine zpc_if (fun _ => ?_) (fun _ => ?_)
  · skip
    exact (show zpc (fX8_putHl_15 σ 104) (zTs k_fX8_putHl_15 t_fX8_putHl_15 σ) from tc_fX8_putHl_15 e)
  · skip
    exact (show zpc (fX8_putHl_15 σ 105) (zTs k_fX8_putHl_15 t_fX8_putHl_15 σ) from tc_fX8_putHl_15 e)
noncomputable def k_fX8_putPlace_45 : Nat := (k_fX8_putByte + (1 + 0))
noncomputable def t_fX8_putPlace_45 : Nat := (t_fX8_putByte + (0 + 0))
theorem tc_fX8_putPlace_45 (e : zEc x y z p b σ) {s0 : Int32} : zpc (fX8_putPlace_45 σ s0) (zTs k_fX8_putPlace_45 t_fX8_putPlace_45 σ) := by
  unfold fX8_putPlace_45 k_fX8_putPlace_45 t_fX8_putPlace_45
  refine zTsb (show zpc (fX8_putByte σ s0) (zTs k_fX8_putByte t_fX8_putByte σ) from tc_fX8_putByte e) (fun σ1 hσ1 => ?_)
  have eσ1 := e.kp hσ1
  refine zTsb (show zpc (fX8_putSign σ1 41) (zTs 1 0 σ1) from tc_sign) (fun σ2 hσ2 => ?_)
  exact zpc_some zTs.rf
noncomputable def k_fX8_putPlace_25 : Nat := (1 + k_fX8_putPlace_45)
noncomputable def t_fX8_putPlace_25 : Nat := (0 + t_fX8_putPlace_45)
theorem tc_fX8_putPlace_25 (e : zEc x y z p b σ) {x1 : Int32} {s0 : Int32} : zpc (fX8_putPlace_25 σ x1 s0) (zTs k_fX8_putPlace_25 t_fX8_putPlace_25 σ) := by
  unfold fX8_putPlace_25 k_fX8_putPlace_25 t_fX8_putPlace_25
  refine zTsb (show zpc (fX8_putSign σ s0) (zTs 1 0 σ) from tc_sign) (fun σ3 hσ3 => ?_)
  have eσ3 := e.kp hσ3
  refine zpc_if (fun _ => ?_) (fun _ => ?_)
  · skip
    exact (show zpc (fX8_putPlace_45 σ3 (256 - x1)) (zTs k_fX8_putPlace_45 t_fX8_putPlace_45 σ3) from tc_fX8_putPlace_45 eσ3)
  · skip
    exact (show zpc (fX8_putPlace_45 σ3 x1) (zTs k_fX8_putPlace_45 t_fX8_putPlace_45 σ3) from tc_fX8_putPlace_45 eσ3)
noncomputable def k_fX8_putPlace : Nat := (1 + (k_fX8_putHl + k_fX8_putPlace_25))
noncomputable def t_fX8_putPlace : Nat := (0 + (t_fX8_putHl + t_fX8_putPlace_25))
theorem tc_fX8_putPlace (e : zEc x y z p b σ) {x1 : Int32} : zpc (fX8_putPlace σ x1) (zTs k_fX8_putPlace t_fX8_putPlace σ) := by
  unfold fX8_putPlace k_fX8_putPlace t_fX8_putPlace
  refine zTsb (show zpc (fX8_putSign σ 40) (zTs 1 0 σ) from tc_sign) (fun σ4 hσ4 => ?_)
  have eσ4 := e.kp hσ4
  refine zTsb (show zpc (fX8_putHl σ4) (zTs k_fX8_putHl t_fX8_putHl σ4) from tc_fX8_putHl eσ4) (fun σ5 hσ5 => ?_)
  have eσ5 := eσ4.kp hσ5
  refine zpc_if (fun _ => ?_) (fun _ => ?_)
  · skip
    exact (show zpc (fX8_putPlace_25 σ5 x1 45) (zTs k_fX8_putPlace_25 t_fX8_putPlace_25 σ5) from tc_fX8_putPlace_25 eσ5)
  · skip
    exact (show zpc (fX8_putPlace_25 σ5 x1 43) (zTs k_fX8_putPlace_25 t_fX8_putPlace_25 σ5) from tc_fX8_putPlace_25 eσ5)
noncomputable def k_fX8_putOne_78 : Nat := 0
noncomputable def t_fX8_putOne_78 : Nat := 0
theorem tc_fX8_putOne_78 (e : zEc x y z p b σ) : zpc (fX8_putOne_78 σ ) (zTs k_fX8_putOne_78 t_fX8_putOne_78 σ) := by
  unfold fX8_putOne_78 k_fX8_putOne_78 t_fX8_putOne_78
  exact zpc_some zTs.rf
noncomputable def k_fX8_putOne_71 (x1 : Int32) : Nat := ((zNmq 2 x1 (zkL 2) 0 0) + k_fX8_putOne_78)
noncomputable def t_fX8_putOne_71 (x1 : Int32) : Nat := (0 + t_fX8_putOne_78)
theorem tc_fX8_putOne_71 (e : zEc x y z p b σ) {x1 : Int32} : zpc (fX8_putOne_71 σ x1) (zTs (k_fX8_putOne_71 x1) (t_fX8_putOne_71 x1) σ) := by
  unfold fX8_putOne_71 k_fX8_putOne_71 t_fX8_putOne_71
  refine zTsb (show zpc (fX8_putName σ 2 x1) (zTs (zNmq 2 x1 (zkL 2) 0 0) 0 σ) from tc_name) (fun σ1 hσ1 => ?_)
  have eσ1 := e.kp hσ1
  exact (show zpc (fX8_putOne_78 σ1) (zTs k_fX8_putOne_78 t_fX8_putOne_78 σ1) from tc_fX8_putOne_78 eσ1)
noncomputable def k_fX8_putOne_65 : Nat := (1 + k_fX8_putOne_78)
noncomputable def t_fX8_putOne_65 : Nat := (0 + t_fX8_putOne_78)
theorem tc_fX8_putOne_65 (e : zEc x y z p b σ) {s0 : Int32} : zpc (fX8_putOne_65 σ s0) (zTs k_fX8_putOne_65 t_fX8_putOne_65 σ) := by
  unfold fX8_putOne_65 k_fX8_putOne_65 t_fX8_putOne_65
  refine zTsb (show zpc (fX8_putSign σ s0) (zTs 1 0 σ) from tc_sign) (fun σ2 hσ2 => ?_)
  have eσ2 := e.kp hσ2
  exact (show zpc (fX8_putOne_78 σ2) (zTs k_fX8_putOne_78 t_fX8_putOne_78 σ2) from tc_fX8_putOne_78 eσ2)
noncomputable def k_fX8_putOne_34 (p : Int32) (b : Int32) (x1 : Int32) : Nat := (if p = (0 : Int32) then (k_fX8_putOne_71 x1) else (if b = (0 : Int32) then (k_fX8_putHl + k_fX8_putOne_65) else (k_fX8_putOne_71 x1)))
noncomputable def t_fX8_putOne_34 (p : Int32) (b : Int32) (x1 : Int32) : Nat := (if p = (0 : Int32) then (t_fX8_putOne_71 x1) else (if b = (0 : Int32) then (t_fX8_putHl + t_fX8_putOne_65) else (t_fX8_putOne_71 x1)))
theorem tc_fX8_putOne_34 (e : zEc x y z p b σ) {x1 : Int32} : zpc (fX8_putOne_34 σ x1) (zTs (k_fX8_putOne_34 p b x1) (t_fX8_putOne_34 p b x1) σ) := by
  unfold fX8_putOne_34 k_fX8_putOne_34 t_fX8_putOne_34
  rw [show zgi σ 10 8 = p from e.2.2.2.1]
  rw [show zgi σ 10 9 = b from e.2.2.2.2]
  refine zTsif (fun _ => ?_) (fun _ => ?_)
  · skip
    exact (show zpc (fX8_putOne_71 σ x1) (zTs (k_fX8_putOne_71 x1) (t_fX8_putOne_71 x1) σ) from tc_fX8_putOne_71 e)
  · skip
    refine zTsif (fun _ => ?_) (fun _ => ?_)
    · skip
      refine zTsb (show zpc (fX8_putHl σ) (zTs k_fX8_putHl t_fX8_putHl σ) from tc_fX8_putHl e) (fun σ3 hσ3 => ?_)
      have eσ3 := e.kp hσ3
      refine zpc_if (fun _ => ?_) (fun _ => ?_)
      · skip
        exact (show zpc (fX8_putOne_65 σ3 104) (zTs k_fX8_putOne_65 t_fX8_putOne_65 σ3) from tc_fX8_putOne_65 eσ3)
      · skip
        exact (show zpc (fX8_putOne_65 σ3 108) (zTs k_fX8_putOne_65 t_fX8_putOne_65 σ3) from tc_fX8_putOne_65 eσ3)
    · skip
      exact (show zpc (fX8_putOne_71 σ x1) (zTs (k_fX8_putOne_71 x1) (t_fX8_putOne_71 x1) σ) from tc_fX8_putOne_71 e)
noncomputable def k_fX8_putOne_24 (p : Int32) (b : Int32) (x1 : Int32) : Nat := (if x1 = (4 : Int32) then (k_fX8_putOne_34 p b x1) else (if x1 = (5 : Int32) then (k_fX8_putOne_34 p b x1) else (k_fX8_putOne_71 x1)))
noncomputable def t_fX8_putOne_24 (p : Int32) (b : Int32) (x1 : Int32) : Nat := (if x1 = (4 : Int32) then (t_fX8_putOne_34 p b x1) else (if x1 = (5 : Int32) then (t_fX8_putOne_34 p b x1) else (t_fX8_putOne_71 x1)))
theorem tc_fX8_putOne_24 (e : zEc x y z p b σ) {x1 : Int32} : zpc (fX8_putOne_24 σ x1) (zTs (k_fX8_putOne_24 p b x1) (t_fX8_putOne_24 p b x1) σ) := by
  unfold fX8_putOne_24 k_fX8_putOne_24 t_fX8_putOne_24
  refine zTsif (fun _ => ?_) (fun _ => ?_)
  · skip
    exact (show zpc (fX8_putOne_34 σ x1) (zTs (k_fX8_putOne_34 p b x1) (t_fX8_putOne_34 p b x1) σ) from tc_fX8_putOne_34 e)
  · skip
    refine zTsif (fun _ => ?_) (fun _ => ?_)
    · skip
      exact (show zpc (fX8_putOne_34 σ x1) (zTs (k_fX8_putOne_34 p b x1) (t_fX8_putOne_34 p b x1) σ) from tc_fX8_putOne_34 e)
    · skip
      exact (show zpc (fX8_putOne_71 σ x1) (zTs (k_fX8_putOne_71 x1) (t_fX8_putOne_71 x1) σ) from tc_fX8_putOne_71 e)
noncomputable def k_fX8_putOne (p : Int32) (b : Int32) (x1 : Int32) : Nat := (if x1 = (6 : Int32) then (if p = (0 : Int32) then (k_fX8_putOne_24 p b x1) else (0 + (k_fX8_putPlace + k_fX8_putOne_78))) else (k_fX8_putOne_24 p b x1))
noncomputable def t_fX8_putOne (p : Int32) (b : Int32) (x1 : Int32) : Nat := (if x1 = (6 : Int32) then (if p = (0 : Int32) then (t_fX8_putOne_24 p b x1) else (1 + (t_fX8_putPlace + t_fX8_putOne_78))) else (t_fX8_putOne_24 p b x1))
theorem tc_fX8_putOne (e : zEc x y z p b σ) {x1 : Int32} : zpc (fX8_putOne σ x1) (zTs (k_fX8_putOne p b x1) (t_fX8_putOne p b x1) σ) := by
  unfold fX8_putOne k_fX8_putOne t_fX8_putOne
  rw [show zgi σ 10 8 = p from e.2.2.2.1]
  refine zTsif (fun _ => ?_) (fun _ => ?_)
  · skip
    refine zTsif (fun _ => ?_) (fun _ => ?_)
    · skip
      exact (show zpc (fX8_putOne_24 σ x1) (zTs (k_fX8_putOne_24 p b x1) (t_fX8_putOne_24 p b x1) σ) from tc_fX8_putOne_24 e)
    · skip
      refine zTsi (show zpc (fX8_take σ) (fun r => zTs 0 1 σ r.1) from tc_take) (fun σ4 v5 hσ4 => ?_)
      have eσ4 := e.kp hσ4
      refine zTsb (show zpc (fX8_putPlace σ4 v5) (zTs k_fX8_putPlace t_fX8_putPlace σ4) from tc_fX8_putPlace eσ4) (fun σ6 hσ6 => ?_)
      have eσ6 := eσ4.kp hσ6
      exact (show zpc (fX8_putOne_78 σ6) (zTs k_fX8_putOne_78 t_fX8_putOne_78 σ6) from tc_fX8_putOne_78 eσ6)
  · skip
    exact (show zpc (fX8_putOne_24 σ x1) (zTs (k_fX8_putOne_24 p b x1) (t_fX8_putOne_24 p b x1) σ) from tc_fX8_putOne_24 e)
noncomputable def k_fX8_putTurned_59 : Nat := 0
noncomputable def t_fX8_putTurned_59 : Nat := 0
theorem tc_fX8_putTurned_59 (e : zEc x y z p b σ) : zpc (fX8_putTurned_59 σ ) (zTs k_fX8_putTurned_59 t_fX8_putTurned_59 σ) := by
  unfold fX8_putTurned_59 k_fX8_putTurned_59 t_fX8_putTurned_59
  exact zpc_some zTs.rf
noncomputable def k_fX8_putTurned (x : Int32) (z : Int32) (p : Int32) : Nat := (if p = (0 : Int32) then ((zNmq 2 z (zkL 2) 0 0) + 0) else (k_fX8_putPlace + (if x = (1 : Int32) then k_fX8_putTurned_59 else (if z = (6 : Int32) then k_fX8_putTurned_59 else (1 + ((zNmq 2 z (zkL 2) 0 0) + k_fX8_putTurned_59))))))
noncomputable def t_fX8_putTurned (x : Int32) (z : Int32) (p : Int32) : Nat := (if p = (0 : Int32) then (0 + 0) else (t_fX8_putPlace + (if x = (1 : Int32) then t_fX8_putTurned_59 else (if z = (6 : Int32) then t_fX8_putTurned_59 else (0 + (0 + t_fX8_putTurned_59))))))
theorem tc_fX8_putTurned (e : zEc x y z p b σ) : zpc (fX8_putTurned σ ) (zTs (k_fX8_putTurned x z p) (t_fX8_putTurned x z p) σ) := by
  unfold fX8_putTurned k_fX8_putTurned t_fX8_putTurned
  rw [show zgi σ 10 7 = z from e.2.2.1]
  rw [show zgi σ 10 8 = p from e.2.2.2.1]
  refine zTsif (fun _ => ?_) (fun _ => ?_)
  · skip
    refine zTsb (show zpc (fX8_putName σ 2 z) (zTs (zNmq 2 z (zkL 2) 0 0) 0 σ) from tc_name) (fun σ4 hσ4 => ?_)
    exact zpc_some zTs.rf
  · skip
    refine zTsb (show zpc (fX8_putPlace σ (zgi σ 10 10)) (zTs k_fX8_putPlace t_fX8_putPlace σ) from tc_fX8_putPlace e) (fun σ1 hσ1 => ?_)
    have eσ1 := e.kp hσ1
    rw [show zgi σ1 10 5 = x from eσ1.1]
    rw [show zgi σ1 10 7 = z from eσ1.2.2.1]
    refine zTsif (fun _ => ?_) (fun _ => ?_)
    · skip
      exact (show zpc (fX8_putTurned_59 σ1) (zTs k_fX8_putTurned_59 t_fX8_putTurned_59 σ1) from tc_fX8_putTurned_59 eσ1)
    · skip
      refine zTsif (fun _ => ?_) (fun _ => ?_)
      · skip
        exact (show zpc (fX8_putTurned_59 σ1) (zTs k_fX8_putTurned_59 t_fX8_putTurned_59 σ1) from tc_fX8_putTurned_59 eσ1)
      · skip
        refine zTsb (show zpc (fX8_putSign σ1 44) (zTs 1 0 σ1) from tc_sign) (fun σ2 hσ2 => ?_)
        have eσ2 := eσ1.kp hσ2
        rw [show zgi σ2 10 7 = z from eσ2.2.2.1]
        refine zTsb (show zpc (fX8_putName σ2 2 z) (zTs (zNmq 2 z (zkL 2) 0 0) 0 σ2) from tc_name) (fun σ3 hσ3 => ?_)
        have eσ3 := eσ2.kp hσ3
        exact (show zpc (fX8_putTurned_59 σ3) (zTs k_fX8_putTurned_59 t_fX8_putTurned_59 σ3) from tc_fX8_putTurned_59 eσ3)
noncomputable def k_fX8_putPair_28 : Nat := 0
noncomputable def t_fX8_putPair_28 : Nat := 0
theorem tc_fX8_putPair_28 (e : zEc x y z p b σ) : zpc (fX8_putPair_28 σ ) (zTs k_fX8_putPair_28 t_fX8_putPair_28 σ) := by
  unfold fX8_putPair_28 k_fX8_putPair_28 t_fX8_putPair_28
  exact zpc_some zTs.rf
noncomputable def k_fX8_putPair (y : Int32) (n1 : Nat) : Nat := (if (y >>> ((1 : Int32) &&& (31 : Int32))) = (2 : Int32) then (k_fX8_putHl + k_fX8_putPair_28) else ((zNmq n1 (y >>> ((1 : Int32) &&& (31 : Int32))) (zkL n1) 0 0) + k_fX8_putPair_28))
noncomputable def t_fX8_putPair (y : Int32) (n1 : Nat) : Nat := (if (y >>> ((1 : Int32) &&& (31 : Int32))) = (2 : Int32) then (t_fX8_putHl + t_fX8_putPair_28) else (0 + t_fX8_putPair_28))
theorem tc_fX8_putPair (e : zEc x y z p b σ) {n1 : Nat} : zpc (fX8_putPair σ n1) (zTs (k_fX8_putPair y n1) (t_fX8_putPair y n1) σ) := by
  unfold fX8_putPair k_fX8_putPair t_fX8_putPair
  rw [show zgi σ 10 6 = y from e.2.1]
  refine zTsif (fun _ => ?_) (fun _ => ?_)
  · skip
    refine zTsb (show zpc (fX8_putHl σ) (zTs k_fX8_putHl t_fX8_putHl σ) from tc_fX8_putHl e) (fun σ2 hσ2 => ?_)
    have eσ2 := e.kp hσ2
    exact (show zpc (fX8_putPair_28 σ2) (zTs k_fX8_putPair_28 t_fX8_putPair_28 σ2) from tc_fX8_putPair_28 eσ2)
  · skip
    refine zTsb (show zpc (fX8_putName σ n1 (y >>> ((1 : Int32) &&& 31))) (zTs (zNmq n1 (y >>> ((1 : Int32) &&& (31 : Int32))) (zkL n1) 0 0) 0 σ) from tc_name) (fun σ1 hσ1 => ?_)
    have eσ1 := e.kp hσ1
    exact (show zpc (fX8_putPair_28 σ1) (zTs k_fX8_putPair_28 t_fX8_putPair_28 σ1) from tc_fX8_putPair_28 eσ1)
noncomputable def k_fX8_putMeant_275 : Nat := 0
noncomputable def t_fX8_putMeant_275 : Nat := 0
theorem tc_fX8_putMeant_275 (e : zEc x y z p b σ) : zpc (fX8_putMeant_275 σ ) (zTs k_fX8_putMeant_275 t_fX8_putMeant_275 σ) := by
  unfold fX8_putMeant_275 k_fX8_putMeant_275 t_fX8_putMeant_275
  exact zpc_some zTs.rf
noncomputable def k_fX8_putMeant_256 : Nat := (0 + (k_fX8_putWord + k_fX8_putMeant_275))
noncomputable def t_fX8_putMeant_256 : Nat := (1 + (t_fX8_putWord + t_fX8_putMeant_275))
theorem tc_fX8_putMeant_256 (e : zEc x y z p b σ) : zpc (fX8_putMeant_256 σ ) (zTs k_fX8_putMeant_256 t_fX8_putMeant_256 σ) := by
  unfold fX8_putMeant_256 k_fX8_putMeant_256 t_fX8_putMeant_256
  refine zTsi (show zpc (fX8_take σ) (fun r => zTs 0 1 σ r.1) from tc_take) (fun σ1 v2 hσ1 => ?_)
  have eσ1 := e.kp hσ1
  refine zTsb (show zpc (fX8_putWord σ1 ((v2.toInt8.toInt32 + (zgi σ1 10 3)) + (zgi σ1 10 4))) (zTs k_fX8_putWord t_fX8_putWord σ1) from tc_fX8_putWord eσ1) (fun σ3 hσ3 => ?_)
  have eσ3 := eσ1.kp hσ3
  exact (show zpc (fX8_putMeant_275 σ3) (zTs k_fX8_putMeant_275 t_fX8_putMeant_275 σ3) from tc_fX8_putMeant_275 eσ3)
noncomputable def k_fX8_putMeant (x : Int32) (y : Int32) (z : Int32) (p : Int32) (b : Int32) (x1 : Int32) : Nat := (if x1 = (66 : Int32) then (1 + k_fX8_putMeant_275) else (if x1 = (67 : Int32) then ((zNmq 5 y (zkL 5) 0 0) + k_fX8_putMeant_275) else (if x1 = (68 : Int32) then ((zNmq 5 (y - (4 : Int32)) (zkL 5) 0 0) + k_fX8_putMeant_275) else (if x1 = (69 : Int32) then k_fX8_putMeant_256 else (if x1 = (70 : Int32) then k_fX8_putMeant_256 else (if x1 = (71 : Int32) then k_fX8_putMeant_256 else (if x1 = (72 : Int32) then k_fX8_putMeant_256 else (if x1 = (73 : Int32) then k_fX8_putMeant_256 else (if x1 = (74 : Int32) then (k_fX8_putHl + k_fX8_putMeant_275) else (if x1 = (75 : Int32) then k_fX8_putMeant_256 else (if x1 = (76 : Int32) then k_fX8_putMeant_256 else (if x1 = (77 : Int32) then k_fX8_putMeant_256 else (if x1 = (78 : Int32) then (0 + (k_fX8_putByte + k_fX8_putMeant_275)) else (if x1 = (79 : Int32) then k_fX8_putMeant_256 else (if x1 = (80 : Int32) then ((k_fX8_putPair y 3) + k_fX8_putMeant_275) else (if x1 = (81 : Int32) then ((k_fX8_putPair y 4) + k_fX8_putMeant_275) else (if x1 = (82 : Int32) then k_fX8_putMeant_256 else (if x1 = (83 : Int32) then k_fX8_putMeant_256 else (if x1 = (84 : Int32) then ((k_fX8_putTurned x z p) + k_fX8_putMeant_275) else (if x1 = (85 : Int32) then k_fX8_putMeant_256 else (if x1 = (86 : Int32) then (k_fX8_putByte + k_fX8_putMeant_275) else (if x1 = (87 : Int32) then (0 + (0 + (k_fX8_putWord + k_fX8_putMeant_275))) else (if x1 = (88 : Int32) then k_fX8_putMeant_256 else (if x1 = (89 : Int32) then ((k_fX8_putOne p b y) + k_fX8_putMeant_275) else (if x1 = (90 : Int32) then ((k_fX8_putOne p b z) + k_fX8_putMeant_275) else k_fX8_putMeant_256)))))))))))))))))))))))))
noncomputable def t_fX8_putMeant (x : Int32) (y : Int32) (z : Int32) (p : Int32) (b : Int32) (x1 : Int32) : Nat := (if x1 = (66 : Int32) then (0 + t_fX8_putMeant_275) else (if x1 = (67 : Int32) then (0 + t_fX8_putMeant_275) else (if x1 = (68 : Int32) then (0 + t_fX8_putMeant_275) else (if x1 = (69 : Int32) then t_fX8_putMeant_256 else (if x1 = (70 : Int32) then t_fX8_putMeant_256 else (if x1 = (71 : Int32) then t_fX8_putMeant_256 else (if x1 = (72 : Int32) then t_fX8_putMeant_256 else (if x1 = (73 : Int32) then t_fX8_putMeant_256 else (if x1 = (74 : Int32) then (t_fX8_putHl + t_fX8_putMeant_275) else (if x1 = (75 : Int32) then t_fX8_putMeant_256 else (if x1 = (76 : Int32) then t_fX8_putMeant_256 else (if x1 = (77 : Int32) then t_fX8_putMeant_256 else (if x1 = (78 : Int32) then (1 + (t_fX8_putByte + t_fX8_putMeant_275)) else (if x1 = (79 : Int32) then t_fX8_putMeant_256 else (if x1 = (80 : Int32) then ((t_fX8_putPair y 3) + t_fX8_putMeant_275) else (if x1 = (81 : Int32) then ((t_fX8_putPair y 4) + t_fX8_putMeant_275) else (if x1 = (82 : Int32) then t_fX8_putMeant_256 else (if x1 = (83 : Int32) then t_fX8_putMeant_256 else (if x1 = (84 : Int32) then ((t_fX8_putTurned x z p) + t_fX8_putMeant_275) else (if x1 = (85 : Int32) then t_fX8_putMeant_256 else (if x1 = (86 : Int32) then (t_fX8_putByte + t_fX8_putMeant_275) else (if x1 = (87 : Int32) then (1 + (1 + (t_fX8_putWord + t_fX8_putMeant_275))) else (if x1 = (88 : Int32) then t_fX8_putMeant_256 else (if x1 = (89 : Int32) then ((t_fX8_putOne p b y) + t_fX8_putMeant_275) else (if x1 = (90 : Int32) then ((t_fX8_putOne p b z) + t_fX8_putMeant_275) else t_fX8_putMeant_256)))))))))))))))))))))))))
theorem tc_fX8_putMeant (e : zEc x y z p b σ) {x1 : Int32} : zpc (fX8_putMeant σ x1) (zTs (k_fX8_putMeant x y z p b x1) (t_fX8_putMeant x y z p b x1) σ) := by
  unfold fX8_putMeant k_fX8_putMeant t_fX8_putMeant
  rw [show zgi σ 10 6 = y from e.2.1]
  rw [show zgi σ 10 7 = z from e.2.2.1]
  refine zTsif (fun _ => ?_) (fun _ => ?_)
  · skip
    refine zTsb (show zpc (fX8_putSign σ (48 + y)) (zTs 1 0 σ) from tc_sign) (fun σ4 hσ4 => ?_)
    have eσ4 := e.kp hσ4
    exact (show zpc (fX8_putMeant_275 σ4) (zTs k_fX8_putMeant_275 t_fX8_putMeant_275 σ4) from tc_fX8_putMeant_275 eσ4)
  · skip
    refine zTsif (fun _ => ?_) (fun _ => ?_)
    · skip
      refine zTsb (show zpc (fX8_putName σ 5 y) (zTs (zNmq 5 y (zkL 5) 0 0) 0 σ) from tc_name) (fun σ5 hσ5 => ?_)
      have eσ5 := e.kp hσ5
      exact (show zpc (fX8_putMeant_275 σ5) (zTs k_fX8_putMeant_275 t_fX8_putMeant_275 σ5) from tc_fX8_putMeant_275 eσ5)
    · skip
      refine zTsif (fun _ => ?_) (fun _ => ?_)
      · skip
        refine zTsb (show zpc (fX8_putName σ 5 (y - 4)) (zTs (zNmq 5 (y - (4 : Int32)) (zkL 5) 0 0) 0 σ) from tc_name) (fun σ6 hσ6 => ?_)
        have eσ6 := e.kp hσ6
        exact (show zpc (fX8_putMeant_275 σ6) (zTs k_fX8_putMeant_275 t_fX8_putMeant_275 σ6) from tc_fX8_putMeant_275 eσ6)
      · skip
        refine zTsif (fun _ => ?_) (fun _ => ?_)
        · skip
          exact (show zpc (fX8_putMeant_256 σ) (zTs k_fX8_putMeant_256 t_fX8_putMeant_256 σ) from tc_fX8_putMeant_256 e)
        · skip
          refine zTsif (fun _ => ?_) (fun _ => ?_)
          · skip
            exact (show zpc (fX8_putMeant_256 σ) (zTs k_fX8_putMeant_256 t_fX8_putMeant_256 σ) from tc_fX8_putMeant_256 e)
          · skip
            refine zTsif (fun _ => ?_) (fun _ => ?_)
            · skip
              exact (show zpc (fX8_putMeant_256 σ) (zTs k_fX8_putMeant_256 t_fX8_putMeant_256 σ) from tc_fX8_putMeant_256 e)
            · skip
              refine zTsif (fun _ => ?_) (fun _ => ?_)
              · skip
                exact (show zpc (fX8_putMeant_256 σ) (zTs k_fX8_putMeant_256 t_fX8_putMeant_256 σ) from tc_fX8_putMeant_256 e)
              · skip
                refine zTsif (fun _ => ?_) (fun _ => ?_)
                · skip
                  exact (show zpc (fX8_putMeant_256 σ) (zTs k_fX8_putMeant_256 t_fX8_putMeant_256 σ) from tc_fX8_putMeant_256 e)
                · skip
                  refine zTsif (fun _ => ?_) (fun _ => ?_)
                  · skip
                    refine zTsb (show zpc (fX8_putHl σ) (zTs k_fX8_putHl t_fX8_putHl σ) from tc_fX8_putHl e) (fun σ7 hσ7 => ?_)
                    have eσ7 := e.kp hσ7
                    exact (show zpc (fX8_putMeant_275 σ7) (zTs k_fX8_putMeant_275 t_fX8_putMeant_275 σ7) from tc_fX8_putMeant_275 eσ7)
                  · skip
                    refine zTsif (fun _ => ?_) (fun _ => ?_)
                    · skip
                      exact (show zpc (fX8_putMeant_256 σ) (zTs k_fX8_putMeant_256 t_fX8_putMeant_256 σ) from tc_fX8_putMeant_256 e)
                    · skip
                      refine zTsif (fun _ => ?_) (fun _ => ?_)
                      · skip
                        exact (show zpc (fX8_putMeant_256 σ) (zTs k_fX8_putMeant_256 t_fX8_putMeant_256 σ) from tc_fX8_putMeant_256 e)
                      · skip
                        refine zTsif (fun _ => ?_) (fun _ => ?_)
                        · skip
                          exact (show zpc (fX8_putMeant_256 σ) (zTs k_fX8_putMeant_256 t_fX8_putMeant_256 σ) from tc_fX8_putMeant_256 e)
                        · skip
                          refine zTsif (fun _ => ?_) (fun _ => ?_)
                          · skip
                            refine zTsi (show zpc (fX8_take σ) (fun r => zTs 0 1 σ r.1) from tc_take) (fun σ8 v9 hσ8 => ?_)
                            have eσ8 := e.kp hσ8
                            refine zTsb (show zpc (fX8_putByte σ8 v9) (zTs k_fX8_putByte t_fX8_putByte σ8) from tc_fX8_putByte eσ8) (fun σ10 hσ10 => ?_)
                            have eσ10 := eσ8.kp hσ10
                            exact (show zpc (fX8_putMeant_275 σ10) (zTs k_fX8_putMeant_275 t_fX8_putMeant_275 σ10) from tc_fX8_putMeant_275 eσ10)
                          · skip
                            refine zTsif (fun _ => ?_) (fun _ => ?_)
                            · skip
                              exact (show zpc (fX8_putMeant_256 σ) (zTs k_fX8_putMeant_256 t_fX8_putMeant_256 σ) from tc_fX8_putMeant_256 e)
                            · skip
                              refine zTsif (fun _ => ?_) (fun _ => ?_)
                              · skip
                                refine zTsb (show zpc (fX8_putPair σ 3) (zTs (k_fX8_putPair y 3) (t_fX8_putPair y 3) σ) from tc_fX8_putPair e) (fun σ11 hσ11 => ?_)
                                have eσ11 := e.kp hσ11
                                exact (show zpc (fX8_putMeant_275 σ11) (zTs k_fX8_putMeant_275 t_fX8_putMeant_275 σ11) from tc_fX8_putMeant_275 eσ11)
                              · skip
                                refine zTsif (fun _ => ?_) (fun _ => ?_)
                                · skip
                                  refine zTsb (show zpc (fX8_putPair σ 4) (zTs (k_fX8_putPair y 4) (t_fX8_putPair y 4) σ) from tc_fX8_putPair e) (fun σ12 hσ12 => ?_)
                                  have eσ12 := e.kp hσ12
                                  exact (show zpc (fX8_putMeant_275 σ12) (zTs k_fX8_putMeant_275 t_fX8_putMeant_275 σ12) from tc_fX8_putMeant_275 eσ12)
                                · skip
                                  refine zTsif (fun _ => ?_) (fun _ => ?_)
                                  · skip
                                    exact (show zpc (fX8_putMeant_256 σ) (zTs k_fX8_putMeant_256 t_fX8_putMeant_256 σ) from tc_fX8_putMeant_256 e)
                                  · skip
                                    refine zTsif (fun _ => ?_) (fun _ => ?_)
                                    · skip
                                      exact (show zpc (fX8_putMeant_256 σ) (zTs k_fX8_putMeant_256 t_fX8_putMeant_256 σ) from tc_fX8_putMeant_256 e)
                                    · skip
                                      refine zTsif (fun _ => ?_) (fun _ => ?_)
                                      · skip
                                        refine zTsb (show zpc (fX8_putTurned σ) (zTs (k_fX8_putTurned x z p) (t_fX8_putTurned x z p) σ) from tc_fX8_putTurned e) (fun σ13 hσ13 => ?_)
                                        have eσ13 := e.kp hσ13
                                        exact (show zpc (fX8_putMeant_275 σ13) (zTs k_fX8_putMeant_275 t_fX8_putMeant_275 σ13) from tc_fX8_putMeant_275 eσ13)
                                      · skip
                                        refine zTsif (fun _ => ?_) (fun _ => ?_)
                                        · skip
                                          exact (show zpc (fX8_putMeant_256 σ) (zTs k_fX8_putMeant_256 t_fX8_putMeant_256 σ) from tc_fX8_putMeant_256 e)
                                        · skip
                                          refine zTsif (fun _ => ?_) (fun _ => ?_)
                                          · skip
                                            refine zTsb (show zpc (fX8_putByte σ (8 * y)) (zTs k_fX8_putByte t_fX8_putByte σ) from tc_fX8_putByte e) (fun σ14 hσ14 => ?_)
                                            have eσ14 := e.kp hσ14
                                            exact (show zpc (fX8_putMeant_275 σ14) (zTs k_fX8_putMeant_275 t_fX8_putMeant_275 σ14) from tc_fX8_putMeant_275 eσ14)
                                          · skip
                                            refine zTsif (fun _ => ?_) (fun _ => ?_)
                                            · skip
                                              refine zTsi (show zpc (fX8_take σ) (fun r => zTs 0 1 σ r.1) from tc_take) (fun σ15 v16 hσ15 => ?_)
                                              have eσ15 := e.kp hσ15
                                              refine zTsi (show zpc (fX8_take σ15) (fun r => zTs 0 1 σ15 r.1) from tc_take) (fun σ17 v18 hσ17 => ?_)
                                              have eσ17 := eσ15.kp hσ17
                                              refine zTsb (show zpc (fX8_putWord σ17 (v16 ||| (v18 <<< ((8 : Int32) &&& 31)))) (zTs k_fX8_putWord t_fX8_putWord σ17) from tc_fX8_putWord eσ17) (fun σ19 hσ19 => ?_)
                                              have eσ19 := eσ17.kp hσ19
                                              exact (show zpc (fX8_putMeant_275 σ19) (zTs k_fX8_putMeant_275 t_fX8_putMeant_275 σ19) from tc_fX8_putMeant_275 eσ19)
                                            · skip
                                              refine zTsif (fun _ => ?_) (fun _ => ?_)
                                              · skip
                                                exact (show zpc (fX8_putMeant_256 σ) (zTs k_fX8_putMeant_256 t_fX8_putMeant_256 σ) from tc_fX8_putMeant_256 e)
                                              · skip
                                                refine zTsif (fun _ => ?_) (fun _ => ?_)
                                                · skip
                                                  refine zTsb (show zpc (fX8_putOne σ y) (zTs (k_fX8_putOne p b y) (t_fX8_putOne p b y) σ) from tc_fX8_putOne e) (fun σ20 hσ20 => ?_)
                                                  have eσ20 := e.kp hσ20
                                                  exact (show zpc (fX8_putMeant_275 σ20) (zTs k_fX8_putMeant_275 t_fX8_putMeant_275 σ20) from tc_fX8_putMeant_275 eσ20)
                                                · skip
                                                  refine zTsif (fun _ => ?_) (fun _ => ?_)
                                                  · skip
                                                    refine zTsb (show zpc (fX8_putOne σ z) (zTs (k_fX8_putOne p b z) (t_fX8_putOne p b z) σ) from tc_fX8_putOne e) (fun σ21 hσ21 => ?_)
                                                    have eσ21 := e.kp hσ21
                                                    exact (show zpc (fX8_putMeant_275 σ21) (zTs k_fX8_putMeant_275 t_fX8_putMeant_275 σ21) from tc_fX8_putMeant_275 eσ21)
                                                  · skip
                                                    exact (show zpc (fX8_putMeant_256 σ) (zTs k_fX8_putMeant_256 t_fX8_putMeant_256 σ) from tc_fX8_putMeant_256 e)
/-- the signs, the bytes of one pattern -/
noncomputable def zgK (x y z p b c : Int32) : Nat := if c < 65 then 1 else if 90 < c then 1 else k_fX8_putMeant x y z p b c
noncomputable def zgT (x y z p b c : Int32) : Nat := if c < 65 then 0 else if 90 < c then 0 else t_fX8_putMeant x y z p b c
noncomputable def zMq (n : Nat) (g : Int32 → Nat) (r : Int32) : Nat → Nat → Int32 → Nat
  | 0, _, _ => 0
  | m + 1, i, q => if zkC n i = 59 then zMq n g r m (i + 1) (q + 1) else (if q = r then g (zkC n i) else 0) + zMq n g r m (i + 1) q
noncomputable def zPt (n : Nat) : Nat → Nat → Int32 → Int32
  | 0, _, w => w
  | m + 1, i, w => zPt n m (i + 1) (if zkC n i = 59 then w + 1 else w + 0)
theorem tc_put41 {n : Nat} {w : Int32} : ∀ (f m i : Nat) (q : Int32) (σ : zSt), zEc x y z p b σ → m + i = zkL n → zpc (fX8_put_41 f σ n w q (Int32.ofNat i)) (zTs (zMq n (zgK x y z p b) (zrem y w) m i q) (zMq n (zgT x y z p b) (zrem y w) m i q) σ) := by
  intro f
  induction f with
  | zero => intro m i q σ _ _; exact zpc_none
  | succ f ih =>
    intro m i q σ he hm
    show zpc (fX8_put_41_body (fX8_put_41 f) σ n w q (Int32.ofNat i)) _
    unfold fX8_put_41_body fX8_put_104 fX8_put_110
    rw [show zgi σ 10 6 = y from he.2.1]
    refine zpc_ckh (fun hb => ?_)
    have hl := zkL_le hb
    have hN := zkN_i hl
    refine zpc_if (fun c => ?_) (fun c => ?_)
    · have c1 := (z_ofL (i := i) (by omega) hN).mp c
      obtain rfl : m = 0 := by omega
      exact zpc_some zTs.rf
    · have c1 : ¬ zkL n ≤ i := fun u => c ((z_ofL (i := i) (by omega) hN).mpr u)
      obtain ⟨m, rfl⟩ : ∃ m', m = m' + 1 := ⟨m - 1, by omega⟩
      have eg : ∀ g : Int32 → Nat, zMq n g (zrem y w) (m + 1) i q = if zkC n i = 59 then zMq n g (zrem y w) m (i + 1) (q + 1) else (if q = zrem y w then g (zkC n i) else 0) + zMq n g (zrem y w) m (i + 1) q := fun g => rfl
      rw [eg, eg, z_ofC (by omega), z_ofS (by omega)]
      refine zpc_ck (zpc_ck (zpc_bv (fun v5 e5 => ?_)))
      subst e5
      refine zpc_if (fun d => ?_) (fun d => zpc_ck (zpc_if (fun u => ?_) (fun u => ?_)))
      · rw [if_pos d, if_pos d]
        refine zpc_bv (fun v ev => zpc_bv (fun v2 ew => ?_))
        subst ev
        subst ew
        exact ih m (i + 1) (q + 1) σ he (by omega)
      · rw [if_neg d, if_neg d, if_pos u, if_pos u]
        unfold zgK zgT
        refine zpc_if (fun r1 => ?_) (fun r1 => zpc_if (fun r2 => ?_) (fun r2 => ?_))
        · rw [if_pos r1, if_pos r1]
          refine zpc_bu tc_sign (fun s1 h1 => zpc_bv (fun v2 ew => ?_))
          subst ew
          exact zpc_mono (ih m (i + 1) q s1 (he.kp h1) (by omega)) (fun r g => zTs.tr h1 g)
        · rw [if_neg r1, if_neg r1, if_pos r2, if_pos r2]
          refine zpc_bu tc_sign (fun s1 h1 => zpc_bv (fun v2 ew => ?_))
          subst ew
          exact zpc_mono (ih m (i + 1) q s1 (he.kp h1) (by omega)) (fun r g => zTs.tr h1 g)
        · rw [if_neg r1, if_neg r1, if_neg r2, if_neg r2]
          refine zpc_bu (tc_fX8_putMeant he) (fun s1 h1 => zpc_bv (fun v2 ew => ?_))
          subst ew
          exact zpc_mono (ih m (i + 1) q s1 (he.kp h1) (by omega)) (fun r g => zTs.tr h1 g)
      · rw [if_neg d, if_neg d, if_neg u, if_neg u, Nat.zero_add, Nat.zero_add]
        refine zpc_bv (fun v2 ew => ?_)
        subst ew
        exact ih m (i + 1) q σ he (by omega)
noncomputable def zPkq (n : Nat) (x y z p b : Int32) : Nat := zMq n (zgK x y z p b) (zrem y (zPt n (zkL n) 0 1)) (zkL n) 0 0
noncomputable def zPc (n : Nat) (x y z p b : Int32) : Nat := zMq n (zgT x y z p b) (zrem y (zPt n (zkL n) 0 1)) (zkL n) 0 0
theorem tc_put4 {n : Nat} : ∀ (f m i : Nat) (w : Int32) (σ : zSt), zEc x y z p b σ → m + i = zkL n → zpc (fX8_put_4 f σ n w (Int32.ofNat i)) (zTs (zMq n (zgK x y z p b) (zrem y (zPt n m i w)) (zkL n) 0 0) (zMq n (zgT x y z p b) (zrem y (zPt n m i w)) (zkL n) 0 0) σ) := by
  intro f
  induction f with
  | zero => intro m i w σ _ _; exact zpc_none
  | succ f ih =>
    intro m i w σ he hm
    show zpc (fX8_put_4_body (fX8_put_4 f) σ n w (Int32.ofNat i)) _
    unfold fX8_put_4_body fX8_put_28
    refine zpc_ckh (fun hb => ?_)
    have hl := zkL_le hb
    have hN := zkN_i hl
    refine zpc_if (fun c => ?_) (fun c => ?_)
    · have c1 := (z_ofL (i := i) (by omega) hN).mp c
      obtain rfl : m = 0 := by omega
      exact tc_put41 zfuel (zkL n) 0 0 σ he (by omega)
    · have c1 : ¬ zkL n ≤ i := fun u => c ((z_ofL (i := i) (by omega) hN).mpr u)
      obtain ⟨m, rfl⟩ : ∃ m', m = m' + 1 := ⟨m - 1, by omega⟩
      have e : zPt n (m + 1) i w = zPt n m (i + 1) (if zkC n i = 59 then w + 1 else w + 0) := rfl
      rw [e, z_ofC (by omega), z_ofS (by omega)]
      refine zpc_ck (zpc_ck (zpc_if (fun d => ?_) (fun d => ?_)))
      · rw [if_pos d]
        refine zpc_bv (fun v ev => zpc_bv (fun v2 ew => ?_))
        subst ev
        subst ew
        exact ih m (i + 1) (w + 1) σ he (by omega)
      · rw [if_neg d]
        refine zpc_bv (fun v ev => zpc_bv (fun v2 ew => ?_))
        subst ev
        subst ew
        exact ih m (i + 1) (w + 0) σ he (by omega)
theorem tc_put {n : Nat} (he : zEc x y z p b σ) : zpc (fX8_put σ n) (zTs (zPkq n x y z p b) (zPc n x y z p b) σ) := by
  unfold fX8_put
  exact tc_put4 zfuel (zkL n) 0 1 σ he (by omega)
end ZTE
end ZJN2
section ZJN3
/-! THE TELLER OF THE REFERENCE -/
section ZTF
variable {σ μ s t : zSt} {i l : Int32}
noncomputable def zTm (k c : Nat) (σ s : zSt) : Prop := zQ [26] [(0, 39, 40)] [] [] σ s ∧ (0 ≤ (σ.1 0 39).toInt → (σ.1 0 39).toInt + (k : Int) ≤ 1000 → 0 ≤ (σ.1 0 40).toInt → (σ.1 0 40).toInt + (c : Int) ≤ 100000 → (s.1 0 39).toInt = (σ.1 0 39).toInt + (k : Int) ∧ (s.1 0 40).toInt = (σ.1 0 40).toInt + (c : Int))
theorem zTm.rf : zTm 0 0 σ σ := ⟨zQ.rf, fun _ _ _ _ => ⟨by omega, by omega⟩⟩
theorem zTm.tr {a b c d : Nat} (h : zTm a b σ s) (g : zTm c d s t) : zTm (a + c) (b + d) σ t := by
  obtain ⟨h1, h2⟩ := h
  obtain ⟨g1, g2⟩ := g
  refine ⟨h1.tr g1, fun w x y z => ?_⟩
  obtain ⟨u1, u2⟩ := h2 w (by omega) y (by omega)
  obtain ⟨v1, v2⟩ := g2 (by omega) (by omega) (by omega) (by omega)
  exact ⟨by omega, by omega⟩
theorem zTmb {o : Option zSt} {f : zSt → Option zSt} {a b c d : Nat} (h : zpc o (zTm a b σ)) (k : ∀ s, zTm a b σ s → zpc (f s) (zTm c d s)) : zpc (zbu o f) (zTm (a + c) (b + d) σ) := zpc_bu h (fun s hs => zpc_mono (k s hs) (fun r q => zTm.tr hs q))
theorem zTmi {o : Option (zSt × Int32)} {f : zSt → Int32 → Option zSt} {a b c d : Nat} (h : zpc o (fun r => zTm a b σ r.1)) (k : ∀ s v, zTm a b σ s → zpc (f s v) (zTm c d s)) : zpc (zbi o f) (zTm (a + c) (b + d) σ) := zpc_bi h (fun s v hs => zpc_mono (k s v hs) (fun r q => zTm.tr hs q))
theorem zTmif {q : Prop} {d1 d2 d3 : Decidable q} {A B : Option zSt} {a b c d : Nat} (h1 : q → zpc A (zTm a b σ)) (h2 : ¬ q → zpc B (zTm c d σ)) : zpc (@ite _ q d1 A B) (zTm (@ite _ q d2 a c) (@ite _ q d3 b d) σ) := by
  by_cases z : q
  · rw [if_pos z, if_pos z, if_pos z]; exact h1 z
  · rw [if_neg z, if_neg z, if_neg z]; exact h2 z
noncomputable def zEm (i l : Int32) (σ : zSt) : Prop := σ.1 0 41 = i ∧ σ.1 0 42 = l
theorem zEm.kp {k c : Nat} (e : zEm i l σ) (h : zTm k c σ s) : zEm i l s := by
  have g : ∀ j : Nat, 41 ≤ j → j ≤ 42 → s.1 0 j = σ.1 0 j := fun j h1 h2 => h.1.o (k := 0) (a := 41) (b := 42) rfl h1 h2
  unfold zEm
  rw [g 41 (by decide) (by decide), g 42 (by decide) (by decide)]
  exact e
/-- one sign -/
theorem tm_one {j : Nat} {v : Int32} {s1 s2 : zSt} (e1 : s1 = zsi σ 26 j v) (e2 : s2 = zsi s1 0 39 (zgi s1 0 39 + 1)) : zTm 1 0 σ s2 := by
  have c1 : (1 : Int32).toInt = 1 := rfl
  have g1 : zgi s1 0 39 = σ.1 0 39 := by rw [e1]; rfl
  rw [g1] at e2
  have l2 : s2.1 0 39 = σ.1 0 39 + 1 := by rw [e2, zsi_ej]
  have l4 : s2.1 0 40 = σ.1 0 40 := by rw [e2, zsi_nj (by decide), e1, zsi_ne (by decide)]
  refine ⟨by rw [e2, e1]; exact zQ.wi (zQ.wi zQ.rf rfl) rfl, fun w x y z => ?_⟩
  have t1 := z_tadd (x := σ.1 0 39) (y := 1) (a := 0) (b := 1000) ⟨w, by omega⟩ (zr_c (lo := 1) (hi := 1) (x := 1) (by decide)) (by decide)
  rw [l2, l4, t1, c1]
  exact ⟨by omega, by omega⟩
theorem tm_taken : zpc (fX12_taken σ ) (fun r => zTm 0 1 σ r.1) := by
  unfold fX12_taken
  have c1 : (1 : Int32).toInt = 1 := rfl
  refine zpc_bi (fI_fX12_read (σ0 := σ) zQ.rf) (fun s1 v e => zpc_bv (fun s2 e2 => zpc_some ?_))
  have e1 : s1 = σ := zQ_eq e
  rw [e1] at e2
  have e2 : s2 = zsi σ 0 40 (σ.1 0 40 + 1) := e2
  have l2 : s2.1 0 39 = σ.1 0 39 := by rw [e2, zsi_nj (by decide)]
  have l4 : s2.1 0 40 = σ.1 0 40 + 1 := by rw [e2, zsi_ej]
  show zTm 0 1 σ s2
  refine ⟨by rw [e2]; exact zQ.wi zQ.rf rfl, fun w x y z => ?_⟩
  have t1 := z_tadd (x := σ.1 0 40) (y := 1) (a := 0) (b := 100000) ⟨y, by omega⟩ (zr_c (lo := 1) (hi := 1) (x := 1) (by decide)) (by decide)
  rw [l2, l4, t1, c1]
  exact ⟨by omega, by omega⟩
theorem tm_word : zpc (fX12_takenWord σ ) (fun r => zTm 0 2 σ r.1) := by
  unfold fX12_takenWord
  exact zpc_bi tm_taken (fun s1 v1 h1 => zpc_bi tm_taken (fun s2 v2 h2 => zpc_some (zTm.tr h1 h2)))
theorem tm_signed {v : Int32} : zpc (fX12_signed σ v) (fun r => zTm 0 0 σ r.1) := by
  unfold fX12_signed fX12_signed_16
  exact zpc_if (fun _ => zpc_some zTm.rf) (fun _ => zpc_some zTm.rf)
theorem tm_say2 {n : Nat} : ∀ (f m i : Nat) (σ : zSt), m + i = zkL n → zpc (fX12_say_2 f σ n (Int32.ofNat i)) (zTm m 0 σ) := by
  intro f
  induction f with
  | zero => intro m i σ _; exact zpc_none
  | succ f ih =>
    intro m i σ hm
    show zpc (fX12_say_2_body (fX12_say_2 f) σ n (Int32.ofNat i)) _
    unfold fX12_say_2_body
    refine zpc_ckh (fun hb => ?_)
    have hl := zkL_le hb
    have hN := zkN_i hl
    refine zpc_if (fun c => ?_) (fun c => ?_)
    · have c1 := (z_ofL (i := i) (by omega) hN).mp c
      obtain rfl : m = 0 := by omega
      exact zpc_some zTm.rf
    · have c1 : ¬ zkL n ≤ i := fun u => c ((z_ofL (i := i) (by omega) hN).mpr u)
      obtain ⟨m, rfl⟩ : ∃ m', m = m' + 1 := ⟨m - 1, by omega⟩
      rw [z_ofC (by omega), z_ofS (by omega)]
      refine zpc_ck (zpc_ck (zpc_ck (zpc_bv (fun s1 e1 => zpc_bv (fun s2 e2 => zpc_bv (fun v ev => ?_))))))
      subst ev
      refine zpc_mono (ih m (i + 1) s2 (by omega)) (fun r g => ?_)
      have q := zTm.tr (tm_one e1 e2) g
      rw [Nat.add_comm 1 m] at q
      exact q
theorem tm_say {n : Nat} : zpc (fX12_say σ n) (zTm (zkL n) 0 σ) := by
  unfold fX12_say
  exact tm_say2 zfuel (zkL n) 0 σ (by omega)
theorem tm_hexl {v : Int32} : ∀ (f m : Nat) (x3 : Int32) (σ : zSt), m ≤ 100 → x3.toInt = (m : Int) - 1 → zpc (fX12_hex_4 f σ v x3) (zTm m 0 σ) := by
  intro f
  induction f with
  | zero => intro m x3 σ _ _; exact zpc_none
  | succ f ih =>
    intro m x3 σ hm hx
    show zpc (fX12_hex_4_body (fX12_hex_4 f) σ v x3) _
    unfold fX12_hex_4_body fX12_hex_49
    have c0 : (0 : Int32).toInt = 0 := rfl
    refine zpc_if (fun c => ?_) (fun c => zpc_bv (fun v4 _ => ?_))
    · have c1 := Int32.lt_iff_toInt_lt.mp c
      obtain rfl : m = 0 := by omega
      exact zpc_some zTm.rf
    · have c1 := Int32.le_iff_toInt_le.mp (z_nlt c)
      obtain ⟨m, rfl⟩ : ∃ m', m = m' + 1 := ⟨m - 1, by omega⟩
      have t1 := z_tadd (x := x3) (y := -1) (a := 0) (b := 100) ⟨by omega, by omega⟩ (zr_c (lo := -1) (hi := -1) (x := -1) (by decide)) (by decide)
      have cm : (-1 : Int32).toInt = -1 := rfl
      have go : ∀ {s1 s2 : zSt} {j : Nat} {u : Int32}, s1 = zsi σ 26 j u → s2 = zsi s1 0 39 (zgi s1 0 39 + 1) → zpc (fX12_hex_4 f s2 v (x3 + (-1))) (zTm (m + 1) 0 σ) := fun e1 e2 => by
        refine zpc_mono (ih m _ _ (by omega) (by rw [t1, cm, hx]; omega)) (fun r g => ?_)
        have q := zTm.tr (tm_one e1 e2) g
        rw [Nat.add_comm 1 m] at q
        exact q
      refine zpc_if (fun _ => zpc_ck (zpc_bv (fun s1 e1 => zpc_bv (fun s2 e2 => zpc_bv (fun w ew => ?_))))) (fun _ => zpc_ck (zpc_bv (fun s1 e1 => zpc_bv (fun s2 e2 => zpc_bv (fun w ew => ?_)))))
      · subst ew; exact go e1 e2
      · subst ew; exact go e1 e2
theorem tm_hex1 {v : Int32} : zpc (fX12_hex σ v 1) (zTm 1 0 σ) := by
  unfold fX12_hex
  exact zpc_bv (fun w ew => by rw [ew]; exact tm_hexl zfuel 1 _ σ (by decide) (by decide))
theorem tm_hex2 {v : Int32} : zpc (fX12_hex σ v 2) (zTm 2 0 σ) := by
  unfold fX12_hex
  exact zpc_bv (fun w ew => by rw [ew]; exact tm_hexl zfuel 2 _ σ (by decide) (by decide))
theorem tm_hex4 {v : Int32} : zpc (fX12_hex σ v 4) (zTm 4 0 σ) := by
  unfold fX12_hex
  exact zpc_bv (fun w ew => by rw [ew]; exact tm_hexl zfuel 4 _ σ (by decide) (by decide))
noncomputable def k_fX12_sayHl_31 (n_s0 : Nat) : Nat := (n_s0 + 0)
noncomputable def t_fX12_sayHl_31 (n_s0 : Nat) : Nat := (0 + 0)
theorem tm_fX12_sayHl_31 (e : zEm i l σ) {s0 : Nat} : zpc (fX12_sayHl_31 σ s0) (zTm (k_fX12_sayHl_31 (zkL s0)) (t_fX12_sayHl_31 (zkL s0)) σ) := by
  unfold fX12_sayHl_31 k_fX12_sayHl_31 t_fX12_sayHl_31
  refine zTmb (show zpc (fX12_say σ s0) (zTm (zkL s0) 0 σ) from tm_say) (fun σ1 hσ1 => ?_)
  exact zpc_some zTm.rf
noncomputable def k_fX12_sayHl : Nat := (k_fX12_sayHl_31 2)
noncomputable def t_fX12_sayHl : Nat := (t_fX12_sayHl_31 2)
theorem tm_fX12_sayHl (e : zEm i l σ) : zpc (fX12_sayHl σ ) (zTm k_fX12_sayHl t_fX12_sayHl σ) := by
  unfold fX12_sayHl k_fX12_sayHl t_fX12_sayHl
  rw [show zgi σ 0 41 = i from e.1]
  refine zpc_if (fun _ => ?_) (fun _ => ?_)
  · skip
    exact (show zpc (fX12_sayHl_31 σ 90) (zTm (k_fX12_sayHl_31 2) (t_fX12_sayHl_31 2) σ) from tm_fX12_sayHl_31 e)
  · skip
    refine zpc_if (fun _ => ?_) (fun _ => ?_)
    · skip
      exact (show zpc (fX12_sayHl_31 σ 91) (zTm (k_fX12_sayHl_31 2) (t_fX12_sayHl_31 2) σ) from tm_fX12_sayHl_31 e)
    · skip
      exact (show zpc (fX12_sayHl_31 σ 92) (zTm (k_fX12_sayHl_31 2) (t_fX12_sayHl_31 2) σ) from tm_fX12_sayHl_31 e)
noncomputable def k_fX12_sayPlace_76 : Nat := (2 + (1 + 0))
noncomputable def t_fX12_sayPlace_76 : Nat := (0 + (0 + 0))
theorem tm_fX12_sayPlace_76 (e : zEm i l σ) {s0 : Int32} : zpc (fX12_sayPlace_76 σ s0) (zTm k_fX12_sayPlace_76 t_fX12_sayPlace_76 σ) := by
  unfold fX12_sayPlace_76 k_fX12_sayPlace_76 t_fX12_sayPlace_76
  refine zTmb (show zpc (fX12_hex σ s0 2) (zTm 2 0 σ) from tm_hex2) (fun σ1 hσ1 => ?_)
  have eσ1 := e.kp hσ1
  refine zTmb (show zpc (fX12_say σ1 89) (zTm 1 0 σ1) from tm_say) (fun σ2 hσ2 => ?_)
  exact zpc_some zTm.rf
noncomputable def k_fX12_sayPlace_53 (n_s0 : Nat) : Nat := (n_s0 + k_fX12_sayPlace_76)
noncomputable def t_fX12_sayPlace_53 (n_s0 : Nat) : Nat := (0 + t_fX12_sayPlace_76)
theorem tm_fX12_sayPlace_53 (e : zEm i l σ) {s0 : Nat} : zpc (fX12_sayPlace_53 σ s0) (zTm (k_fX12_sayPlace_53 (zkL s0)) (t_fX12_sayPlace_53 (zkL s0)) σ) := by
  unfold fX12_sayPlace_53 k_fX12_sayPlace_53 t_fX12_sayPlace_53
  refine zTmb (show zpc (fX12_say σ s0) (zTm (zkL s0) 0 σ) from tm_say) (fun σ3 hσ3 => ?_)
  have eσ3 := e.kp hσ3
  refine zpc_if (fun _ => ?_) (fun _ => ?_)
  · skip
    exact (show zpc (fX12_sayPlace_76 σ3 (zgi σ3 0 43)) (zTm k_fX12_sayPlace_76 t_fX12_sayPlace_76 σ3) from tm_fX12_sayPlace_76 eσ3)
  · skip
    exact (show zpc (fX12_sayPlace_76 σ3 (-(zgi σ3 0 43))) (zTm k_fX12_sayPlace_76 t_fX12_sayPlace_76 σ3) from tm_fX12_sayPlace_76 eσ3)
noncomputable def k_fX12_sayPlace_33 (n_s0 : Nat) : Nat := (n_s0 + (k_fX12_sayPlace_53 1))
noncomputable def t_fX12_sayPlace_33 (n_s0 : Nat) : Nat := (0 + (t_fX12_sayPlace_53 1))
theorem tm_fX12_sayPlace_33 (e : zEm i l σ) {s0 : Nat} : zpc (fX12_sayPlace_33 σ s0) (zTm (k_fX12_sayPlace_33 (zkL s0)) (t_fX12_sayPlace_33 (zkL s0)) σ) := by
  unfold fX12_sayPlace_33 k_fX12_sayPlace_33 t_fX12_sayPlace_33
  refine zTmb (show zpc (fX12_say σ s0) (zTm (zkL s0) 0 σ) from tm_say) (fun σ4 hσ4 => ?_)
  have eσ4 := e.kp hσ4
  refine zpc_if (fun _ => ?_) (fun _ => ?_)
  · skip
    exact (show zpc (fX12_sayPlace_53 σ4 88) (zTm (k_fX12_sayPlace_53 1) (t_fX12_sayPlace_53 1) σ4) from tm_fX12_sayPlace_53 eσ4)
  · skip
    exact (show zpc (fX12_sayPlace_53 σ4 87) (zTm (k_fX12_sayPlace_53 1) (t_fX12_sayPlace_53 1) σ4) from tm_fX12_sayPlace_53 eσ4)
noncomputable def k_fX12_sayPlace (l : Int32) : Nat := (if l = (0 : Int32) then (4 + 0) else (k_fX12_sayPlace_33 3))
noncomputable def t_fX12_sayPlace (l : Int32) : Nat := (if l = (0 : Int32) then (0 + 0) else (t_fX12_sayPlace_33 3))
theorem tm_fX12_sayPlace (e : zEm i l σ) : zpc (fX12_sayPlace σ ) (zTm (k_fX12_sayPlace l) (t_fX12_sayPlace l) σ) := by
  unfold fX12_sayPlace k_fX12_sayPlace t_fX12_sayPlace
  rw [show zgi σ 0 41 = i from e.1]
  rw [show zgi σ 0 42 = l from e.2]
  refine zTmif (fun _ => ?_) (fun _ => ?_)
  · skip
    refine zTmb (show zpc (fX12_say σ 84) (zTm 4 0 σ) from tm_say) (fun σ5 hσ5 => ?_)
    exact zpc_some zTm.rf
  · skip
    refine zpc_if (fun _ => ?_) (fun _ => ?_)
    · skip
      exact (show zpc (fX12_sayPlace_33 σ 85) (zTm (k_fX12_sayPlace_33 3) (t_fX12_sayPlace_33 3) σ) from tm_fX12_sayPlace_33 e)
    · skip
      exact (show zpc (fX12_sayPlace_33 σ 86) (zTm (k_fX12_sayPlace_33 3) (t_fX12_sayPlace_33 3) σ) from tm_fX12_sayPlace_33 e)
noncomputable def k_fX12_sayR_108 (n_s0 : Nat) : Nat := (n_s0 + 0)
noncomputable def t_fX12_sayR_108 (n_s0 : Nat) : Nat := (0 + 0)
theorem tm_fX12_sayR_108 (e : zEm i l σ) {s0 : Nat} : zpc (fX12_sayR_108 σ s0) (zTm (k_fX12_sayR_108 (zkL s0)) (t_fX12_sayR_108 (zkL s0)) σ) := by
  unfold fX12_sayR_108 k_fX12_sayR_108 t_fX12_sayR_108
  refine zTmb (show zpc (fX12_say σ s0) (zTm (zkL s0) 0 σ) from tm_say) (fun σ1 hσ1 => ?_)
  exact zpc_some zTm.rf
noncomputable def k_fX12_sayR_39 : Nat := (k_fX12_sayR_108 1)
noncomputable def t_fX12_sayR_39 : Nat := (t_fX12_sayR_108 1)
theorem tm_fX12_sayR_39 (e : zEm i l σ) {x1 : Int32} : zpc (fX12_sayR_39 σ x1) (zTm k_fX12_sayR_39 t_fX12_sayR_39 σ) := by
  unfold fX12_sayR_39 k_fX12_sayR_39 t_fX12_sayR_39
  refine zpc_if (fun _ => ?_) (fun _ => ?_)
  · skip
    exact (show zpc (fX12_sayR_108 σ 93) (zTm (k_fX12_sayR_108 1) (t_fX12_sayR_108 1) σ) from tm_fX12_sayR_108 e)
  · skip
    refine zpc_if (fun _ => ?_) (fun _ => ?_)
    · skip
      exact (show zpc (fX12_sayR_108 σ 94) (zTm (k_fX12_sayR_108 1) (t_fX12_sayR_108 1) σ) from tm_fX12_sayR_108 e)
    · skip
      refine zpc_if (fun _ => ?_) (fun _ => ?_)
      · skip
        exact (show zpc (fX12_sayR_108 σ 95) (zTm (k_fX12_sayR_108 1) (t_fX12_sayR_108 1) σ) from tm_fX12_sayR_108 e)
      · skip
        refine zpc_if (fun _ => ?_) (fun _ => ?_)
        · skip
          exact (show zpc (fX12_sayR_108 σ 96) (zTm (k_fX12_sayR_108 1) (t_fX12_sayR_108 1) σ) from tm_fX12_sayR_108 e)
        · skip
          refine zpc_if (fun _ => ?_) (fun _ => ?_)
          · skip
            exact (show zpc (fX12_sayR_108 σ 97) (zTm (k_fX12_sayR_108 1) (t_fX12_sayR_108 1) σ) from tm_fX12_sayR_108 e)
          · skip
            refine zpc_if (fun _ => ?_) (fun _ => ?_)
            · skip
              exact (show zpc (fX12_sayR_108 σ 98) (zTm (k_fX12_sayR_108 1) (t_fX12_sayR_108 1) σ) from tm_fX12_sayR_108 e)
            · skip
              exact (show zpc (fX12_sayR_108 σ 99) (zTm (k_fX12_sayR_108 1) (t_fX12_sayR_108 1) σ) from tm_fX12_sayR_108 e)
noncomputable def k_fX12_sayR_35 : Nat := (k_fX12_sayHl + k_fX12_sayR_39)
noncomputable def t_fX12_sayR_35 : Nat := (t_fX12_sayHl + t_fX12_sayR_39)
theorem tm_fX12_sayR_35 (e : zEm i l σ) {x1 : Int32} : zpc (fX12_sayR_35 σ x1) (zTm k_fX12_sayR_35 t_fX12_sayR_35 σ) := by
  unfold fX12_sayR_35 k_fX12_sayR_35 t_fX12_sayR_35
  refine zTmb (show zpc (fX12_sayHl σ) (zTm k_fX12_sayHl t_fX12_sayHl σ) from tm_fX12_sayHl e) (fun σ2 hσ2 => ?_)
  have eσ2 := e.kp hσ2
  exact (show zpc (fX12_sayR_39 σ2 x1) (zTm k_fX12_sayR_39 t_fX12_sayR_39 σ2) from tm_fX12_sayR_39 eσ2)
noncomputable def k_fX12_sayR (i : Int32) (l : Int32) (x1 : Int32) : Nat := (if x1 = (6 : Int32) then ((k_fX12_sayPlace l) + 0) else (if i ≤ (0 : Int32) then k_fX12_sayR_39 else (if l = (0 : Int32) then (if x1 = (4 : Int32) then k_fX12_sayR_35 else (if x1 = (5 : Int32) then k_fX12_sayR_35 else k_fX12_sayR_39)) else k_fX12_sayR_39)))
noncomputable def t_fX12_sayR (i : Int32) (l : Int32) (x1 : Int32) : Nat := (if x1 = (6 : Int32) then ((t_fX12_sayPlace l) + 0) else (if i ≤ (0 : Int32) then t_fX12_sayR_39 else (if l = (0 : Int32) then (if x1 = (4 : Int32) then t_fX12_sayR_35 else (if x1 = (5 : Int32) then t_fX12_sayR_35 else t_fX12_sayR_39)) else t_fX12_sayR_39)))
theorem tm_fX12_sayR (e : zEm i l σ) {x1 : Int32} : zpc (fX12_sayR σ x1) (zTm (k_fX12_sayR i l x1) (t_fX12_sayR i l x1) σ) := by
  unfold fX12_sayR k_fX12_sayR t_fX12_sayR
  rw [show zgi σ 0 41 = i from e.1]
  rw [show zgi σ 0 42 = l from e.2]
  refine zTmif (fun _ => ?_) (fun _ => ?_)
  · skip
    refine zTmb (show zpc (fX12_sayPlace σ) (zTm (k_fX12_sayPlace l) (t_fX12_sayPlace l) σ) from tm_fX12_sayPlace e) (fun σ3 hσ3 => ?_)
    exact zpc_some zTm.rf
  · skip
    refine zTmif (fun _ => ?_) (fun _ => ?_)
    · skip
      exact (show zpc (fX12_sayR_39 σ x1) (zTm k_fX12_sayR_39 t_fX12_sayR_39 σ) from tm_fX12_sayR_39 e)
    · skip
      refine zTmif (fun _ => ?_) (fun _ => ?_)
      · skip
        refine zTmif (fun _ => ?_) (fun _ => ?_)
        · skip
          exact (show zpc (fX12_sayR_35 σ x1) (zTm k_fX12_sayR_35 t_fX12_sayR_35 σ) from tm_fX12_sayR_35 e)
        · skip
          refine zTmif (fun _ => ?_) (fun _ => ?_)
          · skip
            exact (show zpc (fX12_sayR_35 σ x1) (zTm k_fX12_sayR_35 t_fX12_sayR_35 σ) from tm_fX12_sayR_35 e)
          · skip
            exact (show zpc (fX12_sayR_39 σ x1) (zTm k_fX12_sayR_39 t_fX12_sayR_39 σ) from tm_fX12_sayR_39 e)
      · skip
        exact (show zpc (fX12_sayR_39 σ x1) (zTm k_fX12_sayR_39 t_fX12_sayR_39 σ) from tm_fX12_sayR_39 e)
noncomputable def k_fX12_sayRp_50 : Nat := 0
noncomputable def t_fX12_sayRp_50 : Nat := 0
theorem tm_fX12_sayRp_50 (e : zEm i l σ) : zpc (fX12_sayRp_50 σ ) (zTm k_fX12_sayRp_50 t_fX12_sayRp_50 σ) := by
  unfold fX12_sayRp_50 k_fX12_sayRp_50 t_fX12_sayRp_50
  exact zpc_some zTm.rf
noncomputable def k_fX12_sayRp_47 (n_s0 : Nat) : Nat := (n_s0 + k_fX12_sayRp_50)
noncomputable def t_fX12_sayRp_47 (n_s0 : Nat) : Nat := (0 + t_fX12_sayRp_50)
theorem tm_fX12_sayRp_47 (e : zEm i l σ) {s0 : Nat} : zpc (fX12_sayRp_47 σ s0) (zTm (k_fX12_sayRp_47 (zkL s0)) (t_fX12_sayRp_47 (zkL s0)) σ) := by
  unfold fX12_sayRp_47 k_fX12_sayRp_47 t_fX12_sayRp_47
  refine zTmb (show zpc (fX12_say σ s0) (zTm (zkL s0) 0 σ) from tm_say) (fun σ1 hσ1 => ?_)
  have eσ1 := e.kp hσ1
  exact (show zpc (fX12_sayRp_50 σ1) (zTm k_fX12_sayRp_50 t_fX12_sayRp_50 σ1) from tm_fX12_sayRp_50 eσ1)
noncomputable def k_fX12_sayRp (x1 : Int32) : Nat := (if x1 = (2 : Int32) then (k_fX12_sayHl + k_fX12_sayRp_50) else (k_fX12_sayRp_47 2))
noncomputable def t_fX12_sayRp (x1 : Int32) : Nat := (if x1 = (2 : Int32) then (t_fX12_sayHl + t_fX12_sayRp_50) else (t_fX12_sayRp_47 2))
theorem tm_fX12_sayRp (e : zEm i l σ) {x1 : Int32} {x2 : Int32} : zpc (fX12_sayRp σ x1 x2) (zTm (k_fX12_sayRp x1) (t_fX12_sayRp x1) σ) := by
  unfold fX12_sayRp k_fX12_sayRp t_fX12_sayRp
  refine zTmif (fun _ => ?_) (fun _ => ?_)
  · skip
    refine zTmb (show zpc (fX12_sayHl σ) (zTm k_fX12_sayHl t_fX12_sayHl σ) from tm_fX12_sayHl e) (fun σ2 hσ2 => ?_)
    have eσ2 := e.kp hσ2
    exact (show zpc (fX12_sayRp_50 σ2) (zTm k_fX12_sayRp_50 t_fX12_sayRp_50 σ2) from tm_fX12_sayRp_50 eσ2)
  · skip
    refine zpc_if (fun _ => ?_) (fun _ => ?_)
    · skip
      exact (show zpc (fX12_sayRp_47 σ 112) (zTm (k_fX12_sayRp_47 2) (t_fX12_sayRp_47 2) σ) from tm_fX12_sayRp_47 e)
    · skip
      refine zpc_if (fun _ => ?_) (fun _ => ?_)
      · skip
        exact (show zpc (fX12_sayRp_47 σ 113) (zTm (k_fX12_sayRp_47 2) (t_fX12_sayRp_47 2) σ) from tm_fX12_sayRp_47 e)
      · skip
        refine zpc_if (fun _ => ?_) (fun _ => ?_)
        · skip
          exact (show zpc (fX12_sayRp_47 σ 115) (zTm (k_fX12_sayRp_47 2) (t_fX12_sayRp_47 2) σ) from tm_fX12_sayRp_47 e)
        · skip
          exact (show zpc (fX12_sayRp_47 σ 114) (zTm (k_fX12_sayRp_47 2) (t_fX12_sayRp_47 2) σ) from tm_fX12_sayRp_47 e)
noncomputable def k_fX12_sayCc_81 (n_s0 : Nat) : Nat := (n_s0 + 0)
noncomputable def t_fX12_sayCc_81 (n_s0 : Nat) : Nat := (0 + 0)
theorem tm_fX12_sayCc_81 (e : zEm i l σ) {s0 : Nat} : zpc (fX12_sayCc_81 σ s0) (zTm (k_fX12_sayCc_81 (zkL s0)) (t_fX12_sayCc_81 (zkL s0)) σ) := by
  unfold fX12_sayCc_81 k_fX12_sayCc_81 t_fX12_sayCc_81
  refine zTmb (show zpc (fX12_say σ s0) (zTm (zkL s0) 0 σ) from tm_say) (fun σ1 hσ1 => ?_)
  exact zpc_some zTm.rf
noncomputable def k_fX12_sayCc (x1 : Int32) : Nat := (if x1 = (0 : Int32) then (k_fX12_sayCc_81 2) else (if x1 = (1 : Int32) then (k_fX12_sayCc_81 1) else (if x1 = (2 : Int32) then (k_fX12_sayCc_81 2) else (if x1 = (3 : Int32) then (k_fX12_sayCc_81 1) else (if x1 = (4 : Int32) then (k_fX12_sayCc_81 2) else (if x1 = (5 : Int32) then (k_fX12_sayCc_81 2) else (k_fX12_sayCc_81 1)))))))
noncomputable def t_fX12_sayCc (x1 : Int32) : Nat := (if x1 = (0 : Int32) then (t_fX12_sayCc_81 2) else (if x1 = (1 : Int32) then (t_fX12_sayCc_81 1) else (if x1 = (2 : Int32) then (t_fX12_sayCc_81 2) else (if x1 = (3 : Int32) then (t_fX12_sayCc_81 1) else (if x1 = (4 : Int32) then (t_fX12_sayCc_81 2) else (if x1 = (5 : Int32) then (t_fX12_sayCc_81 2) else (t_fX12_sayCc_81 1)))))))
theorem tm_fX12_sayCc (e : zEm i l σ) {x1 : Int32} : zpc (fX12_sayCc σ x1) (zTm (k_fX12_sayCc x1) (t_fX12_sayCc x1) σ) := by
  unfold fX12_sayCc k_fX12_sayCc t_fX12_sayCc
  refine zTmif (fun _ => ?_) (fun _ => ?_)
  · skip
    exact (show zpc (fX12_sayCc_81 σ 103) (zTm (k_fX12_sayCc_81 2) (t_fX12_sayCc_81 2) σ) from tm_fX12_sayCc_81 e)
  · skip
    refine zTmif (fun _ => ?_) (fun _ => ?_)
    · skip
      exact (show zpc (fX12_sayCc_81 σ 104) (zTm (k_fX12_sayCc_81 1) (t_fX12_sayCc_81 1) σ) from tm_fX12_sayCc_81 e)
    · skip
      refine zTmif (fun _ => ?_) (fun _ => ?_)
      · skip
        exact (show zpc (fX12_sayCc_81 σ 105) (zTm (k_fX12_sayCc_81 2) (t_fX12_sayCc_81 2) σ) from tm_fX12_sayCc_81 e)
      · skip
        refine zTmif (fun _ => ?_) (fun _ => ?_)
        · skip
          exact (show zpc (fX12_sayCc_81 σ 94) (zTm (k_fX12_sayCc_81 1) (t_fX12_sayCc_81 1) σ) from tm_fX12_sayCc_81 e)
        · skip
          refine zTmif (fun _ => ?_) (fun _ => ?_)
          · skip
            exact (show zpc (fX12_sayCc_81 σ 106) (zTm (k_fX12_sayCc_81 2) (t_fX12_sayCc_81 2) σ) from tm_fX12_sayCc_81 e)
          · skip
            refine zTmif (fun _ => ?_) (fun _ => ?_)
            · skip
              exact (show zpc (fX12_sayCc_81 σ 107) (zTm (k_fX12_sayCc_81 2) (t_fX12_sayCc_81 2) σ) from tm_fX12_sayCc_81 e)
            · skip
              refine zpc_if (fun _ => ?_) (fun _ => ?_)
              · skip
                exact (show zpc (fX12_sayCc_81 σ 108) (zTm (k_fX12_sayCc_81 1) (t_fX12_sayCc_81 1) σ) from tm_fX12_sayCc_81 e)
              · skip
                exact (show zpc (fX12_sayCc_81 σ 109) (zTm (k_fX12_sayCc_81 1) (t_fX12_sayCc_81 1) σ) from tm_fX12_sayCc_81 e)
noncomputable def k_fX12_sayPlaced : Nat := (1 + (4 + (1 + 0)))
noncomputable def t_fX12_sayPlaced : Nat := (0 + (0 + (0 + 0)))
theorem tm_fX12_sayPlaced (e : zEm i l σ) {x1 : Int32} : zpc (fX12_sayPlaced σ x1) (zTm k_fX12_sayPlaced t_fX12_sayPlaced σ) := by
  unfold fX12_sayPlaced k_fX12_sayPlaced t_fX12_sayPlaced
  refine zTmb (show zpc (fX12_say σ 120) (zTm 1 0 σ) from tm_say) (fun σ1 hσ1 => ?_)
  have eσ1 := e.kp hσ1
  refine zTmb (show zpc (fX12_hex σ1 x1 4) (zTm 4 0 σ1) from tm_hex4) (fun σ2 hσ2 => ?_)
  have eσ2 := eσ1.kp hσ2
  refine zTmb (show zpc (fX12_say σ2 89) (zTm 1 0 σ2) from tm_say) (fun σ3 hσ3 => ?_)
  exact zpc_some zTm.rf
noncomputable def k_fX12_sayJump : Nat := (0 + (0 + (4 + 0)))
noncomputable def t_fX12_sayJump : Nat := (1 + (0 + (0 + 0)))
theorem tm_fX12_sayJump (e : zEm i l σ) : zpc (fX12_sayJump σ ) (zTm k_fX12_sayJump t_fX12_sayJump σ) := by
  unfold fX12_sayJump k_fX12_sayJump t_fX12_sayJump
  refine zTmi (show zpc (fX12_taken σ) (fun r => zTm 0 1 σ r.1) from tm_taken) (fun σ1 v2 hσ1 => ?_)
  have eσ1 := e.kp hσ1
  refine zTmi (show zpc (fX12_signed σ1 v2) (fun r => zTm 0 0 σ1 r.1) from tm_signed) (fun σ3 v4 hσ3 => ?_)
  have eσ3 := eσ1.kp hσ3
  refine zTmb (show zpc (fX12_hex σ3 (((zgi σ3 0 40) + v4) &&& 65535) 4) (zTm 4 0 σ3) from tm_hex4) (fun σ5 hσ5 => ?_)
  exact zpc_some zTm.rf
noncomputable def k_fX12_sayDo_81 (n_s0 : Nat) : Nat := (n_s0 + 0)
noncomputable def t_fX12_sayDo_81 (n_s0 : Nat) : Nat := (0 + 0)
theorem tm_fX12_sayDo_81 (e : zEm i l σ) {s0 : Nat} : zpc (fX12_sayDo_81 σ s0) (zTm (k_fX12_sayDo_81 (zkL s0)) (t_fX12_sayDo_81 (zkL s0)) σ) := by
  unfold fX12_sayDo_81 k_fX12_sayDo_81 t_fX12_sayDo_81
  refine zTmb (show zpc (fX12_say σ s0) (zTm (zkL s0) 0 σ) from tm_say) (fun σ1 hσ1 => ?_)
  exact zpc_some zTm.rf
noncomputable def k_fX12_sayDo (x1 : Int32) : Nat := (if x1 = (0 : Int32) then (k_fX12_sayDo_81 4) else (if x1 = (1 : Int32) then (k_fX12_sayDo_81 4) else (if x1 = (2 : Int32) then (k_fX12_sayDo_81 4) else (if x1 = (3 : Int32) then (k_fX12_sayDo_81 4) else (if x1 = (4 : Int32) then (k_fX12_sayDo_81 4) else (if x1 = (5 : Int32) then (k_fX12_sayDo_81 4) else (k_fX12_sayDo_81 3)))))))
noncomputable def t_fX12_sayDo (x1 : Int32) : Nat := (if x1 = (0 : Int32) then (t_fX12_sayDo_81 4) else (if x1 = (1 : Int32) then (t_fX12_sayDo_81 4) else (if x1 = (2 : Int32) then (t_fX12_sayDo_81 4) else (if x1 = (3 : Int32) then (t_fX12_sayDo_81 4) else (if x1 = (4 : Int32) then (t_fX12_sayDo_81 4) else (if x1 = (5 : Int32) then (t_fX12_sayDo_81 4) else (t_fX12_sayDo_81 3)))))))
theorem tm_fX12_sayDo (e : zEm i l σ) {x1 : Int32} : zpc (fX12_sayDo σ x1) (zTm (k_fX12_sayDo x1) (t_fX12_sayDo x1) σ) := by
  unfold fX12_sayDo k_fX12_sayDo t_fX12_sayDo
  refine zTmif (fun _ => ?_) (fun _ => ?_)
  · skip
    exact (show zpc (fX12_sayDo_81 σ 110) (zTm (k_fX12_sayDo_81 4) (t_fX12_sayDo_81 4) σ) from tm_fX12_sayDo_81 e)
  · skip
    refine zTmif (fun _ => ?_) (fun _ => ?_)
    · skip
      exact (show zpc (fX12_sayDo_81 σ 130) (zTm (k_fX12_sayDo_81 4) (t_fX12_sayDo_81 4) σ) from tm_fX12_sayDo_81 e)
    · skip
      refine zTmif (fun _ => ?_) (fun _ => ?_)
      · skip
        exact (show zpc (fX12_sayDo_81 σ 131) (zTm (k_fX12_sayDo_81 4) (t_fX12_sayDo_81 4) σ) from tm_fX12_sayDo_81 e)
      · skip
        refine zTmif (fun _ => ?_) (fun _ => ?_)
        · skip
          exact (show zpc (fX12_sayDo_81 σ 132) (zTm (k_fX12_sayDo_81 4) (t_fX12_sayDo_81 4) σ) from tm_fX12_sayDo_81 e)
        · skip
          refine zTmif (fun _ => ?_) (fun _ => ?_)
          · skip
            exact (show zpc (fX12_sayDo_81 σ 133) (zTm (k_fX12_sayDo_81 4) (t_fX12_sayDo_81 4) σ) from tm_fX12_sayDo_81 e)
          · skip
            refine zTmif (fun _ => ?_) (fun _ => ?_)
            · skip
              exact (show zpc (fX12_sayDo_81 σ 134) (zTm (k_fX12_sayDo_81 4) (t_fX12_sayDo_81 4) σ) from tm_fX12_sayDo_81 e)
            · skip
              refine zpc_if (fun _ => ?_) (fun _ => ?_)
              · skip
                exact (show zpc (fX12_sayDo_81 σ 135) (zTm (k_fX12_sayDo_81 3) (t_fX12_sayDo_81 3) σ) from tm_fX12_sayDo_81 e)
              · skip
                exact (show zpc (fX12_sayDo_81 σ 136) (zTm (k_fX12_sayDo_81 3) (t_fX12_sayDo_81 3) σ) from tm_fX12_sayDo_81 e)
noncomputable def k_fX12_sayTurn_146 (i : Int32) (l : Int32) (x1 : Int32) : Nat := ((k_fX12_sayR i l (x1 &&& (7 : Int32))) + 0)
noncomputable def t_fX12_sayTurn_146 (i : Int32) (l : Int32) (x1 : Int32) : Nat := ((t_fX12_sayR i l (x1 &&& (7 : Int32))) + 0)
theorem tm_fX12_sayTurn_146 (e : zEm i l σ) {x1 : Int32} : zpc (fX12_sayTurn_146 σ x1) (zTm (k_fX12_sayTurn_146 i l x1) (t_fX12_sayTurn_146 i l x1) σ) := by
  unfold fX12_sayTurn_146 k_fX12_sayTurn_146 t_fX12_sayTurn_146
  refine zTmb (show zpc (fX12_sayR σ (x1 &&& 7)) (zTm (k_fX12_sayR i l (x1 &&& (7 : Int32))) (t_fX12_sayR i l (x1 &&& (7 : Int32))) σ) from tm_fX12_sayR e) (fun σ1 hσ1 => ?_)
  exact zpc_some zTm.rf
noncomputable def k_fX12_sayTurn_94 (i : Int32) (l : Int32) (x1 : Int32) (n_s0 : Nat) : Nat := (n_s0 + (k_fX12_sayTurn_146 i l x1))
noncomputable def t_fX12_sayTurn_94 (i : Int32) (l : Int32) (x1 : Int32) (n_s0 : Nat) : Nat := (0 + (t_fX12_sayTurn_146 i l x1))
theorem tm_fX12_sayTurn_94 (e : zEm i l σ) {x1 : Int32} {s0 : Nat} : zpc (fX12_sayTurn_94 σ x1 s0) (zTm (k_fX12_sayTurn_94 i l x1 (zkL s0)) (t_fX12_sayTurn_94 i l x1 (zkL s0)) σ) := by
  unfold fX12_sayTurn_94 k_fX12_sayTurn_94 t_fX12_sayTurn_94
  refine zTmb (show zpc (fX12_say σ s0) (zTm (zkL s0) 0 σ) from tm_say) (fun σ2 hσ2 => ?_)
  have eσ2 := e.kp hσ2
  exact (show zpc (fX12_sayTurn_146 σ2 x1) (zTm (k_fX12_sayTurn_146 i l x1) (t_fX12_sayTurn_146 i l x1) σ2) from tm_fX12_sayTurn_146 eσ2)
noncomputable def k_fX12_sayTurn_130 (i : Int32) (l : Int32) (x1 : Int32) (n_s0 : Nat) : Nat := (n_s0 + (1 + (1 + (k_fX12_sayTurn_146 i l x1))))
noncomputable def t_fX12_sayTurn_130 (i : Int32) (l : Int32) (x1 : Int32) (n_s0 : Nat) : Nat := (0 + (0 + (0 + (t_fX12_sayTurn_146 i l x1))))
theorem tm_fX12_sayTurn_130 (e : zEm i l σ) {x1 : Int32} {x2 : Int32} {s0 : Nat} : zpc (fX12_sayTurn_130 σ x1 x2 s0) (zTm (k_fX12_sayTurn_130 i l x1 (zkL s0)) (t_fX12_sayTurn_130 i l x1 (zkL s0)) σ) := by
  unfold fX12_sayTurn_130 k_fX12_sayTurn_130 t_fX12_sayTurn_130
  refine zTmb (show zpc (fX12_say σ s0) (zTm (zkL s0) 0 σ) from tm_say) (fun σ3 hσ3 => ?_)
  have eσ3 := e.kp hσ3
  refine zTmb (show zpc (fX12_hex σ3 x2 1) (zTm 1 0 σ3) from tm_hex1) (fun σ4 hσ4 => ?_)
  have eσ4 := eσ3.kp hσ4
  refine zTmb (show zpc (fX12_say σ4 83) (zTm 1 0 σ4) from tm_say) (fun σ5 hσ5 => ?_)
  have eσ5 := eσ4.kp hσ5
  exact (show zpc (fX12_sayTurn_146 σ5 x1) (zTm (k_fX12_sayTurn_146 i l x1) (t_fX12_sayTurn_146 i l x1) σ5) from tm_fX12_sayTurn_146 eσ5)
noncomputable def k_fX12_sayTurn (i : Int32) (l : Int32) (x1 : Int32) : Nat := (if (64 : Int32) ≤ x1 then (k_fX12_sayTurn_130 i l x1 4) else (if ((x1 >>> ((3 : Int32) &&& (31 : Int32))) &&& (7 : Int32)) = (0 : Int32) then (k_fX12_sayTurn_94 i l x1 4) else (if ((x1 >>> ((3 : Int32) &&& (31 : Int32))) &&& (7 : Int32)) = (1 : Int32) then (k_fX12_sayTurn_94 i l x1 4) else (if ((x1 >>> ((3 : Int32) &&& (31 : Int32))) &&& (7 : Int32)) = (2 : Int32) then (k_fX12_sayTurn_94 i l x1 3) else (if ((x1 >>> ((3 : Int32) &&& (31 : Int32))) &&& (7 : Int32)) = (3 : Int32) then (k_fX12_sayTurn_94 i l x1 3) else (k_fX12_sayTurn_94 i l x1 4))))))
noncomputable def t_fX12_sayTurn (i : Int32) (l : Int32) (x1 : Int32) : Nat := (if (64 : Int32) ≤ x1 then (t_fX12_sayTurn_130 i l x1 4) else (if ((x1 >>> ((3 : Int32) &&& (31 : Int32))) &&& (7 : Int32)) = (0 : Int32) then (t_fX12_sayTurn_94 i l x1 4) else (if ((x1 >>> ((3 : Int32) &&& (31 : Int32))) &&& (7 : Int32)) = (1 : Int32) then (t_fX12_sayTurn_94 i l x1 4) else (if ((x1 >>> ((3 : Int32) &&& (31 : Int32))) &&& (7 : Int32)) = (2 : Int32) then (t_fX12_sayTurn_94 i l x1 3) else (if ((x1 >>> ((3 : Int32) &&& (31 : Int32))) &&& (7 : Int32)) = (3 : Int32) then (t_fX12_sayTurn_94 i l x1 3) else (t_fX12_sayTurn_94 i l x1 4))))))
theorem tm_fX12_sayTurn (e : zEm i l σ) {x1 : Int32} : zpc (fX12_sayTurn σ x1) (zTm (k_fX12_sayTurn i l x1) (t_fX12_sayTurn i l x1) σ) := by
  unfold fX12_sayTurn k_fX12_sayTurn t_fX12_sayTurn
  refine zpc_bv (fun v6 ev6 => ?_)
  subst ev6
  refine zTmif (fun _ => ?_) (fun _ => ?_)
  · skip
    refine zpc_if (fun _ => ?_) (fun _ => ?_)
    · skip
      refine zpc_if (fun _ => ?_) (fun _ => ?_)
      · skip
        exact (show zpc (fX12_sayTurn_130 σ x1 ((x1 >>> ((3 : Int32) &&& 31)) &&& 7) 82) (zTm (k_fX12_sayTurn_130 i l x1 4) (t_fX12_sayTurn_130 i l x1 4) σ) from tm_fX12_sayTurn_130 e)
      · skip
        exact (show zpc (fX12_sayTurn_130 σ x1 ((x1 >>> ((3 : Int32) &&& 31)) &&& 7) 81) (zTm (k_fX12_sayTurn_130 i l x1 4) (t_fX12_sayTurn_130 i l x1 4) σ) from tm_fX12_sayTurn_130 e)
    · skip
      exact (show zpc (fX12_sayTurn_130 σ x1 ((x1 >>> ((3 : Int32) &&& 31)) &&& 7) 80) (zTm (k_fX12_sayTurn_130 i l x1 4) (t_fX12_sayTurn_130 i l x1 4) σ) from tm_fX12_sayTurn_130 e)
  · skip
    refine zTmif (fun _ => ?_) (fun _ => ?_)
    · skip
      exact (show zpc (fX12_sayTurn_94 σ x1 72) (zTm (k_fX12_sayTurn_94 i l x1 4) (t_fX12_sayTurn_94 i l x1 4) σ) from tm_fX12_sayTurn_94 e)
    · skip
      refine zTmif (fun _ => ?_) (fun _ => ?_)
      · skip
        exact (show zpc (fX12_sayTurn_94 σ x1 73) (zTm (k_fX12_sayTurn_94 i l x1 4) (t_fX12_sayTurn_94 i l x1 4) σ) from tm_fX12_sayTurn_94 e)
      · skip
        refine zTmif (fun _ => ?_) (fun _ => ?_)
        · skip
          exact (show zpc (fX12_sayTurn_94 σ x1 74) (zTm (k_fX12_sayTurn_94 i l x1 3) (t_fX12_sayTurn_94 i l x1 3) σ) from tm_fX12_sayTurn_94 e)
        · skip
          refine zTmif (fun _ => ?_) (fun _ => ?_)
          · skip
            exact (show zpc (fX12_sayTurn_94 σ x1 75) (zTm (k_fX12_sayTurn_94 i l x1 3) (t_fX12_sayTurn_94 i l x1 3) σ) from tm_fX12_sayTurn_94 e)
          · skip
            refine zpc_if (fun _ => ?_) (fun _ => ?_)
            · skip
              exact (show zpc (fX12_sayTurn_94 σ x1 76) (zTm (k_fX12_sayTurn_94 i l x1 4) (t_fX12_sayTurn_94 i l x1 4) σ) from tm_fX12_sayTurn_94 e)
            · skip
              refine zpc_if (fun _ => ?_) (fun _ => ?_)
              · skip
                exact (show zpc (fX12_sayTurn_94 σ x1 77) (zTm (k_fX12_sayTurn_94 i l x1 4) (t_fX12_sayTurn_94 i l x1 4) σ) from tm_fX12_sayTurn_94 e)
              · skip
                refine zpc_if (fun _ => ?_) (fun _ => ?_)
                · skip
                  exact (show zpc (fX12_sayTurn_94 σ x1 78) (zTm (k_fX12_sayTurn_94 i l x1 4) (t_fX12_sayTurn_94 i l x1 4) σ) from tm_fX12_sayTurn_94 e)
                · skip
                  exact (show zpc (fX12_sayTurn_94 σ x1 79) (zTm (k_fX12_sayTurn_94 i l x1 4) (t_fX12_sayTurn_94 i l x1 4) σ) from tm_fX12_sayTurn_94 e)
noncomputable def k_fX12_sayZero_301 : Nat := 0
noncomputable def t_fX12_sayZero_301 : Nat := 0
theorem tm_fX12_sayZero_301 (e : zEm i l σ) : zpc (fX12_sayZero_301 σ ) (zTm k_fX12_sayZero_301 t_fX12_sayZero_301 σ) := by
  unfold fX12_sayZero_301 k_fX12_sayZero_301 t_fX12_sayZero_301
  exact zpc_some zTm.rf
noncomputable def k_fX12_sayZero_80 (x1 : Int32) : Nat := (if x1 ≤ (1 : Int32) then k_fX12_sayZero_301 else (k_fX12_sayJump + k_fX12_sayZero_301))
noncomputable def t_fX12_sayZero_80 (x1 : Int32) : Nat := (if x1 ≤ (1 : Int32) then t_fX12_sayZero_301 else (t_fX12_sayJump + t_fX12_sayZero_301))
theorem tm_fX12_sayZero_80 (e : zEm i l σ) {x1 : Int32} : zpc (fX12_sayZero_80 σ x1) (zTm (k_fX12_sayZero_80 x1) (t_fX12_sayZero_80 x1) σ) := by
  unfold fX12_sayZero_80 k_fX12_sayZero_80 t_fX12_sayZero_80
  refine zTmif (fun _ => ?_) (fun _ => ?_)
  · skip
    exact (show zpc (fX12_sayZero_301 σ) (zTm k_fX12_sayZero_301 t_fX12_sayZero_301 σ) from tm_fX12_sayZero_301 e)
  · skip
    refine zTmb (show zpc (fX12_sayJump σ) (zTm k_fX12_sayJump t_fX12_sayJump σ) from tm_fX12_sayJump e) (fun σ1 hσ1 => ?_)
    have eσ1 := e.kp hσ1
    exact (show zpc (fX12_sayZero_301 σ1) (zTm k_fX12_sayZero_301 t_fX12_sayZero_301 σ1) from tm_fX12_sayZero_301 eσ1)
noncomputable def k_fX12_sayZero_58 (x1 : Int32) (n_s0 : Nat) : Nat := (n_s0 + (if x1 ≤ (3 : Int32) then (k_fX12_sayZero_80 x1) else ((k_fX12_sayCc (x1 - (4 : Int32))) + (1 + (k_fX12_sayZero_80 x1)))))
noncomputable def t_fX12_sayZero_58 (x1 : Int32) (n_s0 : Nat) : Nat := (0 + (if x1 ≤ (3 : Int32) then (t_fX12_sayZero_80 x1) else ((t_fX12_sayCc (x1 - (4 : Int32))) + (0 + (t_fX12_sayZero_80 x1)))))
theorem tm_fX12_sayZero_58 (e : zEm i l σ) {x1 : Int32} {s0 : Nat} : zpc (fX12_sayZero_58 σ x1 s0) (zTm (k_fX12_sayZero_58 x1 (zkL s0)) (t_fX12_sayZero_58 x1 (zkL s0)) σ) := by
  unfold fX12_sayZero_58 k_fX12_sayZero_58 t_fX12_sayZero_58
  refine zTmb (show zpc (fX12_say σ s0) (zTm (zkL s0) 0 σ) from tm_say) (fun σ2 hσ2 => ?_)
  have eσ2 := e.kp hσ2
  refine zTmif (fun _ => ?_) (fun _ => ?_)
  · skip
    exact (show zpc (fX12_sayZero_80 σ2 x1) (zTm (k_fX12_sayZero_80 x1) (t_fX12_sayZero_80 x1) σ2) from tm_fX12_sayZero_80 eσ2)
  · skip
    refine zTmb (show zpc (fX12_sayCc σ2 (x1 - 4)) (zTm (k_fX12_sayCc (x1 - (4 : Int32))) (t_fX12_sayCc (x1 - (4 : Int32))) σ2) from tm_fX12_sayCc eσ2) (fun σ3 hσ3 => ?_)
    have eσ3 := eσ2.kp hσ3
    refine zTmb (show zpc (fX12_say σ3 83) (zTm 1 0 σ3) from tm_say) (fun σ4 hσ4 => ?_)
    have eσ4 := eσ3.kp hσ4
    exact (show zpc (fX12_sayZero_80 σ4 x1) (zTm (k_fX12_sayZero_80 x1) (t_fX12_sayZero_80 x1) σ4) from tm_fX12_sayZero_80 eσ4)
noncomputable def k_fX12_sayZero_133 (x3 : Int32) (x4 : Int32) : Nat := (1 + (if x4 = (0 : Int32) then (0 + (4 + k_fX12_sayZero_301)) else ((k_fX12_sayRp x3) + k_fX12_sayZero_301)))
noncomputable def t_fX12_sayZero_133 (x3 : Int32) (x4 : Int32) : Nat := (0 + (if x4 = (0 : Int32) then (2 + (0 + t_fX12_sayZero_301)) else ((t_fX12_sayRp x3) + t_fX12_sayZero_301)))
theorem tm_fX12_sayZero_133 (e : zEm i l σ) {x3 : Int32} {x4 : Int32} : zpc (fX12_sayZero_133 σ x3 x4) (zTm (k_fX12_sayZero_133 x3 x4) (t_fX12_sayZero_133 x3 x4) σ) := by
  unfold fX12_sayZero_133 k_fX12_sayZero_133 t_fX12_sayZero_133
  refine zTmb (show zpc (fX12_say σ 83) (zTm 1 0 σ) from tm_say) (fun σ5 hσ5 => ?_)
  have eσ5 := e.kp hσ5
  refine zTmif (fun _ => ?_) (fun _ => ?_)
  · skip
    refine zTmi (show zpc (fX12_takenWord σ5) (fun r => zTm 0 2 σ5 r.1) from tm_word) (fun σ6 v7 hσ6 => ?_)
    have eσ6 := eσ5.kp hσ6
    refine zTmb (show zpc (fX12_hex σ6 v7 4) (zTm 4 0 σ6) from tm_hex4) (fun σ8 hσ8 => ?_)
    have eσ8 := eσ6.kp hσ8
    exact (show zpc (fX12_sayZero_301 σ8) (zTm k_fX12_sayZero_301 t_fX12_sayZero_301 σ8) from tm_fX12_sayZero_301 eσ8)
  · skip
    refine zTmb (show zpc (fX12_sayRp σ5 x3 0) (zTm (k_fX12_sayRp x3) (t_fX12_sayRp x3) σ5) from tm_fX12_sayRp eσ5) (fun σ9 hσ9 => ?_)
    have eσ9 := eσ5.kp hσ9
    exact (show zpc (fX12_sayZero_301 σ9) (zTm k_fX12_sayZero_301 t_fX12_sayZero_301 σ9) from tm_fX12_sayZero_301 eσ9)
noncomputable def k_fX12_sayZero_112 (x3 : Int32) (x4 : Int32) (n_s0 : Nat) : Nat := (n_s0 + (if x4 = (0 : Int32) then ((k_fX12_sayRp x3) + (k_fX12_sayZero_133 x3 x4)) else (k_fX12_sayHl + (k_fX12_sayZero_133 x3 x4))))
noncomputable def t_fX12_sayZero_112 (x3 : Int32) (x4 : Int32) (n_s0 : Nat) : Nat := (0 + (if x4 = (0 : Int32) then ((t_fX12_sayRp x3) + (t_fX12_sayZero_133 x3 x4)) else (t_fX12_sayHl + (t_fX12_sayZero_133 x3 x4))))
theorem tm_fX12_sayZero_112 (e : zEm i l σ) {x3 : Int32} {x4 : Int32} {s0 : Nat} : zpc (fX12_sayZero_112 σ x3 x4 s0) (zTm (k_fX12_sayZero_112 x3 x4 (zkL s0)) (t_fX12_sayZero_112 x3 x4 (zkL s0)) σ) := by
  unfold fX12_sayZero_112 k_fX12_sayZero_112 t_fX12_sayZero_112
  refine zTmb (show zpc (fX12_say σ s0) (zTm (zkL s0) 0 σ) from tm_say) (fun σ10 hσ10 => ?_)
  have eσ10 := e.kp hσ10
  refine zTmif (fun _ => ?_) (fun _ => ?_)
  · skip
    refine zTmb (show zpc (fX12_sayRp σ10 x3 0) (zTm (k_fX12_sayRp x3) (t_fX12_sayRp x3) σ10) from tm_fX12_sayRp eσ10) (fun σ11 hσ11 => ?_)
    have eσ11 := eσ10.kp hσ11
    exact (show zpc (fX12_sayZero_133 σ11 x3 x4) (zTm (k_fX12_sayZero_133 x3 x4) (t_fX12_sayZero_133 x3 x4) σ11) from tm_fX12_sayZero_133 eσ11)
  · skip
    refine zTmb (show zpc (fX12_sayHl σ10) (zTm k_fX12_sayHl t_fX12_sayHl σ10) from tm_fX12_sayHl eσ10) (fun σ12 hσ12 => ?_)
    have eσ12 := eσ10.kp hσ12
    exact (show zpc (fX12_sayZero_133 σ12 x3 x4) (zTm (k_fX12_sayZero_133 x3 x4) (t_fX12_sayZero_133 x3 x4) σ12) from tm_fX12_sayZero_133 eσ12)
noncomputable def k_fX12_sayZero_186 (x3 : Int32) (n_s0 : Nat) : Nat := (n_s0 + ((k_fX12_sayRp x3) + k_fX12_sayZero_301))
noncomputable def t_fX12_sayZero_186 (x3 : Int32) (n_s0 : Nat) : Nat := (0 + ((t_fX12_sayRp x3) + t_fX12_sayZero_301))
theorem tm_fX12_sayZero_186 (e : zEm i l σ) {x3 : Int32} {s0 : Nat} : zpc (fX12_sayZero_186 σ x3 s0) (zTm (k_fX12_sayZero_186 x3 (zkL s0)) (t_fX12_sayZero_186 x3 (zkL s0)) σ) := by
  unfold fX12_sayZero_186 k_fX12_sayZero_186 t_fX12_sayZero_186
  refine zTmb (show zpc (fX12_say σ s0) (zTm (zkL s0) 0 σ) from tm_say) (fun σ13 hσ13 => ?_)
  have eσ13 := e.kp hσ13
  refine zTmb (show zpc (fX12_sayRp σ13 x3 0) (zTm (k_fX12_sayRp x3) (t_fX12_sayRp x3) σ13) from tm_fX12_sayRp eσ13) (fun σ14 hσ14 => ?_)
  have eσ14 := eσ13.kp hσ14
  exact (show zpc (fX12_sayZero_301 σ14) (zTm k_fX12_sayZero_301 t_fX12_sayZero_301 σ14) from tm_fX12_sayZero_301 eσ14)
noncomputable def k_fX12_sayZero_269 (x3 : Int32) (x4 : Int32) : Nat := (if x4 = (0 : Int32) then (1 + (if x3 = (2 : Int32) then (k_fX12_sayHl + k_fX12_sayZero_301) else (1 + k_fX12_sayZero_301))) else 0)
noncomputable def t_fX12_sayZero_269 (x3 : Int32) (x4 : Int32) : Nat := (if x4 = (0 : Int32) then (0 + (if x3 = (2 : Int32) then (t_fX12_sayHl + t_fX12_sayZero_301) else (0 + t_fX12_sayZero_301))) else 0)
theorem tm_fX12_sayZero_269 (e : zEm i l σ) {x3 : Int32} {x4 : Int32} : zpc (fX12_sayZero_269 σ x3 x4) (zTm (k_fX12_sayZero_269 x3 x4) (t_fX12_sayZero_269 x3 x4) σ) := by
  unfold fX12_sayZero_269 k_fX12_sayZero_269 t_fX12_sayZero_269
  refine zTmif (fun _ => ?_) (fun _ => ?_)
  · skip
    refine zTmb (show zpc (fX12_say σ 83) (zTm 1 0 σ) from tm_say) (fun σ15 hσ15 => ?_)
    have eσ15 := e.kp hσ15
    refine zTmif (fun _ => ?_) (fun _ => ?_)
    · skip
      refine zTmb (show zpc (fX12_sayHl σ15) (zTm k_fX12_sayHl t_fX12_sayHl σ15) from tm_fX12_sayHl eσ15) (fun σ17 hσ17 => ?_)
      have eσ17 := eσ15.kp hσ17
      exact (show zpc (fX12_sayZero_301 σ17) (zTm k_fX12_sayZero_301 t_fX12_sayZero_301 σ17) from tm_fX12_sayZero_301 eσ17)
    · skip
      refine zTmb (show zpc (fX12_say σ15 99) (zTm 1 0 σ15) from tm_say) (fun σ16 hσ16 => ?_)
      have eσ16 := eσ15.kp hσ16
      exact (show zpc (fX12_sayZero_301 σ16) (zTm k_fX12_sayZero_301 t_fX12_sayZero_301 σ16) from tm_fX12_sayZero_301 eσ16)
  · skip
    exact zpc_some zTm.rf
noncomputable def k_fX12_sayZero_255 (x3 : Int32) (x4 : Int32) (n_s0 : Nat) : Nat := (n_s0 + (k_fX12_sayZero_269 x3 x4))
noncomputable def t_fX12_sayZero_255 (x3 : Int32) (x4 : Int32) (n_s0 : Nat) : Nat := (0 + (t_fX12_sayZero_269 x3 x4))
theorem tm_fX12_sayZero_255 (e : zEm i l σ) {x3 : Int32} {x4 : Int32} {s0 : Nat} : zpc (fX12_sayZero_255 σ x3 x4 s0) (zTm (k_fX12_sayZero_255 x3 x4 (zkL s0)) (t_fX12_sayZero_255 x3 x4 (zkL s0)) σ) := by
  unfold fX12_sayZero_255 k_fX12_sayZero_255 t_fX12_sayZero_255
  refine zTmb (show zpc (fX12_say σ s0) (zTm (zkL s0) 0 σ) from tm_say) (fun σ18 hσ18 => ?_)
  have eσ18 := e.kp hσ18
  exact (show zpc (fX12_sayZero_269 σ18 x3 x4) (zTm (k_fX12_sayZero_269 x3 x4) (t_fX12_sayZero_269 x3 x4) σ18) from tm_fX12_sayZero_269 eσ18)
noncomputable def k_fX12_sayZero_236 (x3 : Int32) (x4 : Int32) : Nat := (if (2 : Int32) ≤ x3 then (0 + (k_fX12_sayPlaced + (k_fX12_sayZero_269 x3 x4))) else (k_fX12_sayZero_255 x3 x4 4))
noncomputable def t_fX12_sayZero_236 (x3 : Int32) (x4 : Int32) : Nat := (if (2 : Int32) ≤ x3 then (2 + (t_fX12_sayPlaced + (t_fX12_sayZero_269 x3 x4))) else (t_fX12_sayZero_255 x3 x4 4))
theorem tm_fX12_sayZero_236 (e : zEm i l σ) {x3 : Int32} {x4 : Int32} : zpc (fX12_sayZero_236 σ x3 x4) (zTm (k_fX12_sayZero_236 x3 x4) (t_fX12_sayZero_236 x3 x4) σ) := by
  unfold fX12_sayZero_236 k_fX12_sayZero_236 t_fX12_sayZero_236
  refine zTmif (fun _ => ?_) (fun _ => ?_)
  · skip
    refine zTmi (show zpc (fX12_takenWord σ) (fun r => zTm 0 2 σ r.1) from tm_word) (fun σ19 v20 hσ19 => ?_)
    have eσ19 := e.kp hσ19
    refine zTmb (show zpc (fX12_sayPlaced σ19 v20) (zTm k_fX12_sayPlaced t_fX12_sayPlaced σ19) from tm_fX12_sayPlaced eσ19) (fun σ21 hσ21 => ?_)
    have eσ21 := eσ19.kp hσ21
    exact (show zpc (fX12_sayZero_269 σ21 x3 x4) (zTm (k_fX12_sayZero_269 x3 x4) (t_fX12_sayZero_269 x3 x4) σ21) from tm_fX12_sayZero_269 eσ21)
  · skip
    refine zpc_if (fun _ => ?_) (fun _ => ?_)
    · skip
      exact (show zpc (fX12_sayZero_255 σ x3 x4 118) (zTm (k_fX12_sayZero_255 x3 x4 4) (t_fX12_sayZero_255 x3 x4 4) σ) from tm_fX12_sayZero_255 e)
    · skip
      exact (show zpc (fX12_sayZero_255 σ x3 x4 119) (zTm (k_fX12_sayZero_255 x3 x4 4) (t_fX12_sayZero_255 x3 x4 4) σ) from tm_fX12_sayZero_255 e)
noncomputable def k_fX12_sayZero_229 (x3 : Int32) (x4 : Int32) : Nat := (1 + (k_fX12_sayZero_236 x3 x4))
noncomputable def t_fX12_sayZero_229 (x3 : Int32) (x4 : Int32) : Nat := (0 + (t_fX12_sayZero_236 x3 x4))
theorem tm_fX12_sayZero_229 (e : zEm i l σ) {x3 : Int32} {x4 : Int32} : zpc (fX12_sayZero_229 σ x3 x4) (zTm (k_fX12_sayZero_229 x3 x4) (t_fX12_sayZero_229 x3 x4) σ) := by
  unfold fX12_sayZero_229 k_fX12_sayZero_229 t_fX12_sayZero_229
  refine zTmb (show zpc (fX12_say σ 83) (zTm 1 0 σ) from tm_say) (fun σ22 hσ22 => ?_)
  have eσ22 := e.kp hσ22
  exact (show zpc (fX12_sayZero_236 σ22 x3 x4) (zTm (k_fX12_sayZero_236 x3 x4) (t_fX12_sayZero_236 x3 x4) σ22) from tm_fX12_sayZero_236 eσ22)
noncomputable def k_fX12_sayZero_16 (x1 : Int32) (x2 : Int32) (x3 : Int32) (s0 : Int32) : Nat := (if x2 = (0 : Int32) then (if x1 = (0 : Int32) then (k_fX12_sayZero_58 x1 3) else (if x1 = (1 : Int32) then (k_fX12_sayZero_58 x1 9) else (if x1 = (2 : Int32) then (k_fX12_sayZero_58 x1 5) else (k_fX12_sayZero_58 x1 3)))) else (if x2 = (1 : Int32) then (if s0 = (0 : Int32) then (k_fX12_sayZero_112 x3 s0 3) else (k_fX12_sayZero_112 x3 s0 4)) else (if x2 = (3 : Int32) then (k_fX12_sayZero_186 x3 4) else (3 + (if s0 = (0 : Int32) then (k_fX12_sayZero_236 x3 s0) else (if x3 = (2 : Int32) then (k_fX12_sayHl + (k_fX12_sayZero_229 x3 s0)) else (1 + (k_fX12_sayZero_229 x3 s0))))))))
noncomputable def t_fX12_sayZero_16 (x1 : Int32) (x2 : Int32) (x3 : Int32) (s0 : Int32) : Nat := (if x2 = (0 : Int32) then (if x1 = (0 : Int32) then (t_fX12_sayZero_58 x1 3) else (if x1 = (1 : Int32) then (t_fX12_sayZero_58 x1 9) else (if x1 = (2 : Int32) then (t_fX12_sayZero_58 x1 5) else (t_fX12_sayZero_58 x1 3)))) else (if x2 = (1 : Int32) then (if s0 = (0 : Int32) then (t_fX12_sayZero_112 x3 s0 3) else (t_fX12_sayZero_112 x3 s0 4)) else (if x2 = (3 : Int32) then (t_fX12_sayZero_186 x3 4) else (0 + (if s0 = (0 : Int32) then (t_fX12_sayZero_236 x3 s0) else (if x3 = (2 : Int32) then (t_fX12_sayHl + (t_fX12_sayZero_229 x3 s0)) else (0 + (t_fX12_sayZero_229 x3 s0))))))))
theorem tm_fX12_sayZero_16 (e : zEm i l σ) {x1 : Int32} {x2 : Int32} {x3 : Int32} {s0 : Int32} : zpc (fX12_sayZero_16 σ x1 x2 x3 s0) (zTm (k_fX12_sayZero_16 x1 x2 x3 s0) (t_fX12_sayZero_16 x1 x2 x3 s0) σ) := by
  unfold fX12_sayZero_16 k_fX12_sayZero_16 t_fX12_sayZero_16
  refine zTmif (fun _ => ?_) (fun _ => ?_)
  · skip
    refine zTmif (fun _ => ?_) (fun _ => ?_)
    · skip
      exact (show zpc (fX12_sayZero_58 σ x1 71) (zTm (k_fX12_sayZero_58 x1 3) (t_fX12_sayZero_58 x1 3) σ) from tm_fX12_sayZero_58 e)
    · skip
      refine zTmif (fun _ => ?_) (fun _ => ?_)
      · skip
        exact (show zpc (fX12_sayZero_58 σ x1 100) (zTm (k_fX12_sayZero_58 x1 9) (t_fX12_sayZero_58 x1 9) σ) from tm_fX12_sayZero_58 e)
      · skip
        refine zTmif (fun _ => ?_) (fun _ => ?_)
        · skip
          exact (show zpc (fX12_sayZero_58 σ x1 101) (zTm (k_fX12_sayZero_58 x1 5) (t_fX12_sayZero_58 x1 5) σ) from tm_fX12_sayZero_58 e)
        · skip
          exact (show zpc (fX12_sayZero_58 σ x1 102) (zTm (k_fX12_sayZero_58 x1 3) (t_fX12_sayZero_58 x1 3) σ) from tm_fX12_sayZero_58 e)
  · skip
    refine zTmif (fun _ => ?_) (fun _ => ?_)
    · skip
      refine zTmif (fun _ => ?_) (fun _ => ?_)
      · skip
        exact (show zpc (fX12_sayZero_112 σ x3 s0 111) (zTm (k_fX12_sayZero_112 x3 s0 3) (t_fX12_sayZero_112 x3 s0 3) σ) from tm_fX12_sayZero_112 e)
      · skip
        exact (show zpc (fX12_sayZero_112 σ x3 s0 110) (zTm (k_fX12_sayZero_112 x3 s0 4) (t_fX12_sayZero_112 x3 s0 4) σ) from tm_fX12_sayZero_112 e)
    · skip
      refine zTmif (fun _ => ?_) (fun _ => ?_)
      · skip
        refine zpc_if (fun _ => ?_) (fun _ => ?_)
        · skip
          exact (show zpc (fX12_sayZero_186 σ x3 117) (zTm (k_fX12_sayZero_186 x3 4) (t_fX12_sayZero_186 x3 4) σ) from tm_fX12_sayZero_186 e)
        · skip
          exact (show zpc (fX12_sayZero_186 σ x3 116) (zTm (k_fX12_sayZero_186 x3 4) (t_fX12_sayZero_186 x3 4) σ) from tm_fX12_sayZero_186 e)
      · skip
        refine zTmb (show zpc (fX12_say σ 111) (zTm 3 0 σ) from tm_say) (fun σ23 hσ23 => ?_)
        have eσ23 := e.kp hσ23
        refine zTmif (fun _ => ?_) (fun _ => ?_)
        · skip
          exact (show zpc (fX12_sayZero_236 σ23 x3 s0) (zTm (k_fX12_sayZero_236 x3 s0) (t_fX12_sayZero_236 x3 s0) σ23) from tm_fX12_sayZero_236 eσ23)
        · skip
          refine zTmif (fun _ => ?_) (fun _ => ?_)
          · skip
            refine zTmb (show zpc (fX12_sayHl σ23) (zTm k_fX12_sayHl t_fX12_sayHl σ23) from tm_fX12_sayHl eσ23) (fun σ25 hσ25 => ?_)
            have eσ25 := eσ23.kp hσ25
            exact (show zpc (fX12_sayZero_229 σ25 x3 s0) (zTm (k_fX12_sayZero_229 x3 s0) (t_fX12_sayZero_229 x3 s0) σ25) from tm_fX12_sayZero_229 eσ25)
          · skip
            refine zTmb (show zpc (fX12_say σ23 99) (zTm 1 0 σ23) from tm_say) (fun σ24 hσ24 => ?_)
            have eσ24 := eσ23.kp hσ24
            exact (show zpc (fX12_sayZero_229 σ24 x3 s0) (zTm (k_fX12_sayZero_229 x3 s0) (t_fX12_sayZero_229 x3 s0) σ24) from tm_fX12_sayZero_229 eσ24)
noncomputable def k_fX12_sayZero (x1 : Int32) (x2 : Int32) : Nat := (if (zrem x1 (2 : Int32)) = (1 : Int32) then (k_fX12_sayZero_16 x1 x2 (x1 >>> ((1 : Int32) &&& (31 : Int32))) (1 : Int32)) else (k_fX12_sayZero_16 x1 x2 (x1 >>> ((1 : Int32) &&& (31 : Int32))) (0 : Int32)))
noncomputable def t_fX12_sayZero (x1 : Int32) (x2 : Int32) : Nat := (if (zrem x1 (2 : Int32)) = (1 : Int32) then (t_fX12_sayZero_16 x1 x2 (x1 >>> ((1 : Int32) &&& (31 : Int32))) (1 : Int32)) else (t_fX12_sayZero_16 x1 x2 (x1 >>> ((1 : Int32) &&& (31 : Int32))) (0 : Int32)))
theorem tm_fX12_sayZero (e : zEm i l σ) {x1 : Int32} {x2 : Int32} : zpc (fX12_sayZero σ x1 x2) (zTm (k_fX12_sayZero x1 x2) (t_fX12_sayZero x1 x2) σ) := by
  unfold fX12_sayZero k_fX12_sayZero t_fX12_sayZero
  refine zpc_bv (fun v26 ev26 => ?_)
  subst ev26
  refine zpc_ck ?_
  refine zTmif (fun _ => ?_) (fun _ => ?_)
  · skip
    exact (show zpc (fX12_sayZero_16 σ x1 x2 (x1 >>> ((1 : Int32) &&& 31)) 1) (zTm (k_fX12_sayZero_16 x1 x2 (x1 >>> ((1 : Int32) &&& (31 : Int32))) (1 : Int32)) (t_fX12_sayZero_16 x1 x2 (x1 >>> ((1 : Int32) &&& (31 : Int32))) (1 : Int32)) σ) from tm_fX12_sayZero_16 e)
  · skip
    exact (show zpc (fX12_sayZero_16 σ x1 x2 (x1 >>> ((1 : Int32) &&& 31)) 0) (zTm (k_fX12_sayZero_16 x1 x2 (x1 >>> ((1 : Int32) &&& (31 : Int32))) (0 : Int32)) (t_fX12_sayZero_16 x1 x2 (x1 >>> ((1 : Int32) &&& (31 : Int32))) (0 : Int32)) σ) from tm_fX12_sayZero_16 e)
noncomputable def k_fX12_saySingle_87 (n_s0 : Nat) : Nat := (n_s0 + 0)
noncomputable def t_fX12_saySingle_87 (n_s0 : Nat) : Nat := (0 + 0)
theorem tm_fX12_saySingle_87 (e : zEm i l σ) {s0 : Nat} : zpc (fX12_saySingle_87 σ s0) (zTm (k_fX12_saySingle_87 (zkL s0)) (t_fX12_saySingle_87 (zkL s0)) σ) := by
  unfold fX12_saySingle_87 k_fX12_saySingle_87 t_fX12_saySingle_87
  refine zTmb (show zpc (fX12_say σ s0) (zTm (zkL s0) 0 σ) from tm_say) (fun σ1 hσ1 => ?_)
  exact zpc_some zTm.rf
noncomputable def k_fX12_saySingle_117 (i : Int32) (l : Int32) (x1 : Int32) (x2 : Int32) (n_s0 : Nat) : Nat := (n_s0 + ((k_fX12_sayR i l x1) + (if (6 : Int32) ≤ x2 then (1 + (0 + (2 + 0))) else 0)))
noncomputable def t_fX12_saySingle_117 (i : Int32) (l : Int32) (x1 : Int32) (x2 : Int32) (n_s0 : Nat) : Nat := (0 + ((t_fX12_sayR i l x1) + (if (6 : Int32) ≤ x2 then (0 + (1 + (0 + 0))) else 0)))
theorem tm_fX12_saySingle_117 (e : zEm i l σ) {x1 : Int32} {x2 : Int32} {s0 : Nat} : zpc (fX12_saySingle_117 σ x1 x2 s0) (zTm (k_fX12_saySingle_117 i l x1 x2 (zkL s0)) (t_fX12_saySingle_117 i l x1 x2 (zkL s0)) σ) := by
  unfold fX12_saySingle_117 k_fX12_saySingle_117 t_fX12_saySingle_117
  refine zTmb (show zpc (fX12_say σ s0) (zTm (zkL s0) 0 σ) from tm_say) (fun σ2 hσ2 => ?_)
  have eσ2 := e.kp hσ2
  refine zTmb (show zpc (fX12_sayR σ2 x1) (zTm (k_fX12_sayR i l x1) (t_fX12_sayR i l x1) σ2) from tm_fX12_sayR eσ2) (fun σ3 hσ3 => ?_)
  have eσ3 := eσ2.kp hσ3
  refine zTmif (fun _ => ?_) (fun _ => ?_)
  · skip
    refine zTmb (show zpc (fX12_say σ3 83) (zTm 1 0 σ3) from tm_say) (fun σ4 hσ4 => ?_)
    have eσ4 := eσ3.kp hσ4
    refine zTmi (show zpc (fX12_taken σ4) (fun r => zTm 0 1 σ4 r.1) from tm_taken) (fun σ5 v6 hσ5 => ?_)
    have eσ5 := eσ4.kp hσ5
    refine zTmb (show zpc (fX12_hex σ5 v6 2) (zTm 2 0 σ5) from tm_hex2) (fun σ7 hσ7 => ?_)
    exact zpc_some zTm.rf
  · skip
    exact zpc_some zTm.rf
noncomputable def k_fX12_saySingle (i : Int32) (l : Int32) (x1 : Int32) (x2 : Int32) : Nat := (if x2 = (7 : Int32) then (if x1 = (0 : Int32) then (k_fX12_saySingle_87 4) else (if x1 = (1 : Int32) then (k_fX12_saySingle_87 4) else (k_fX12_saySingle_87 3))) else (if x2 = (4 : Int32) then (k_fX12_saySingle_117 i l x1 x2 4) else (if x2 = (5 : Int32) then (k_fX12_saySingle_117 i l x1 x2 4) else (k_fX12_saySingle_117 i l x1 x2 3))))
noncomputable def t_fX12_saySingle (i : Int32) (l : Int32) (x1 : Int32) (x2 : Int32) : Nat := (if x2 = (7 : Int32) then (if x1 = (0 : Int32) then (t_fX12_saySingle_87 4) else (if x1 = (1 : Int32) then (t_fX12_saySingle_87 4) else (t_fX12_saySingle_87 3))) else (if x2 = (4 : Int32) then (t_fX12_saySingle_117 i l x1 x2 4) else (if x2 = (5 : Int32) then (t_fX12_saySingle_117 i l x1 x2 4) else (t_fX12_saySingle_117 i l x1 x2 3))))
theorem tm_fX12_saySingle (e : zEm i l σ) {x1 : Int32} {x2 : Int32} : zpc (fX12_saySingle σ x1 x2) (zTm (k_fX12_saySingle i l x1 x2) (t_fX12_saySingle i l x1 x2) σ) := by
  unfold fX12_saySingle k_fX12_saySingle t_fX12_saySingle
  refine zTmif (fun _ => ?_) (fun _ => ?_)
  · skip
    refine zTmif (fun _ => ?_) (fun _ => ?_)
    · skip
      exact (show zpc (fX12_saySingle_87 σ 121) (zTm (k_fX12_saySingle_87 4) (t_fX12_saySingle_87 4) σ) from tm_fX12_saySingle_87 e)
    · skip
      refine zTmif (fun _ => ?_) (fun _ => ?_)
      · skip
        exact (show zpc (fX12_saySingle_87 σ 122) (zTm (k_fX12_saySingle_87 4) (t_fX12_saySingle_87 4) σ) from tm_fX12_saySingle_87 e)
      · skip
        refine zpc_if (fun _ => ?_) (fun _ => ?_)
        · skip
          exact (show zpc (fX12_saySingle_87 σ 123) (zTm (k_fX12_saySingle_87 3) (t_fX12_saySingle_87 3) σ) from tm_fX12_saySingle_87 e)
        · skip
          refine zpc_if (fun _ => ?_) (fun _ => ?_)
          · skip
            exact (show zpc (fX12_saySingle_87 σ 124) (zTm (k_fX12_saySingle_87 3) (t_fX12_saySingle_87 3) σ) from tm_fX12_saySingle_87 e)
          · skip
            refine zpc_if (fun _ => ?_) (fun _ => ?_)
            · skip
              exact (show zpc (fX12_saySingle_87 σ 125) (zTm (k_fX12_saySingle_87 3) (t_fX12_saySingle_87 3) σ) from tm_fX12_saySingle_87 e)
            · skip
              refine zpc_if (fun _ => ?_) (fun _ => ?_)
              · skip
                exact (show zpc (fX12_saySingle_87 σ 126) (zTm (k_fX12_saySingle_87 3) (t_fX12_saySingle_87 3) σ) from tm_fX12_saySingle_87 e)
              · skip
                refine zpc_if (fun _ => ?_) (fun _ => ?_)
                · skip
                  exact (show zpc (fX12_saySingle_87 σ 127) (zTm (k_fX12_saySingle_87 3) (t_fX12_saySingle_87 3) σ) from tm_fX12_saySingle_87 e)
                · skip
                  exact (show zpc (fX12_saySingle_87 σ 128) (zTm (k_fX12_saySingle_87 3) (t_fX12_saySingle_87 3) σ) from tm_fX12_saySingle_87 e)
  · skip
    refine zTmif (fun _ => ?_) (fun _ => ?_)
    · skip
      exact (show zpc (fX12_saySingle_117 σ x1 x2 117) (zTm (k_fX12_saySingle_117 i l x1 x2 4) (t_fX12_saySingle_117 i l x1 x2 4) σ) from tm_fX12_saySingle_117 e)
    · skip
      refine zTmif (fun _ => ?_) (fun _ => ?_)
      · skip
        exact (show zpc (fX12_saySingle_117 σ x1 x2 116) (zTm (k_fX12_saySingle_117 i l x1 x2 4) (t_fX12_saySingle_117 i l x1 x2 4) σ) from tm_fX12_saySingle_117 e)
      · skip
        exact (show zpc (fX12_saySingle_117 σ x1 x2 111) (zTm (k_fX12_saySingle_117 i l x1 x2 3) (t_fX12_saySingle_117 i l x1 x2 3) σ) from tm_fX12_saySingle_117 e)
noncomputable def k_fX12_sayThree_266 : Nat := 0
noncomputable def t_fX12_sayThree_266 : Nat := 0
theorem tm_fX12_sayThree_266 (e : zEm i l σ) : zpc (fX12_sayThree_266 σ ) (zTm k_fX12_sayThree_266 t_fX12_sayThree_266 σ) := by
  unfold fX12_sayThree_266 k_fX12_sayThree_266 t_fX12_sayThree_266
  exact zpc_some zTm.rf
noncomputable def k_fX12_sayThree_103 (x3 : Int32) : Nat := (if x3 = (2 : Int32) then (1 + k_fX12_sayThree_266) else k_fX12_sayThree_266)
noncomputable def t_fX12_sayThree_103 (x3 : Int32) : Nat := (if x3 = (2 : Int32) then (0 + t_fX12_sayThree_266) else t_fX12_sayThree_266)
theorem tm_fX12_sayThree_103 (e : zEm i l σ) {x3 : Int32} : zpc (fX12_sayThree_103 σ x3) (zTm (k_fX12_sayThree_103 x3) (t_fX12_sayThree_103 x3) σ) := by
  unfold fX12_sayThree_103 k_fX12_sayThree_103 t_fX12_sayThree_103
  refine zTmif (fun _ => ?_) (fun _ => ?_)
  · skip
    refine zTmb (show zpc (fX12_say σ 89) (zTm 1 0 σ) from tm_say) (fun σ1 hσ1 => ?_)
    have eσ1 := e.kp hσ1
    exact (show zpc (fX12_sayThree_266 σ1) (zTm k_fX12_sayThree_266 t_fX12_sayThree_266 σ1) from tm_fX12_sayThree_266 eσ1)
  · skip
    exact (show zpc (fX12_sayThree_266 σ) (zTm k_fX12_sayThree_266 t_fX12_sayThree_266 σ) from tm_fX12_sayThree_266 e)
noncomputable def k_fX12_sayThree_91 (x3 : Int32) (n_s0 : Nat) : Nat := (n_s0 + (if x3 ≤ (1 : Int32) then (k_fX12_sayThree_103 x3) else (k_fX12_sayHl + (k_fX12_sayThree_103 x3))))
noncomputable def t_fX12_sayThree_91 (x3 : Int32) (n_s0 : Nat) : Nat := (0 + (if x3 ≤ (1 : Int32) then (t_fX12_sayThree_103 x3) else (t_fX12_sayHl + (t_fX12_sayThree_103 x3))))
theorem tm_fX12_sayThree_91 (e : zEm i l σ) {x3 : Int32} {s0 : Nat} : zpc (fX12_sayThree_91 σ x3 s0) (zTm (k_fX12_sayThree_91 x3 (zkL s0)) (t_fX12_sayThree_91 x3 (zkL s0)) σ) := by
  unfold fX12_sayThree_91 k_fX12_sayThree_91 t_fX12_sayThree_91
  refine zTmb (show zpc (fX12_say σ s0) (zTm (zkL s0) 0 σ) from tm_say) (fun σ2 hσ2 => ?_)
  have eσ2 := e.kp hσ2
  refine zTmif (fun _ => ?_) (fun _ => ?_)
  · skip
    exact (show zpc (fX12_sayThree_103 σ2 x3) (zTm (k_fX12_sayThree_103 x3) (t_fX12_sayThree_103 x3) σ2) from tm_fX12_sayThree_103 eσ2)
  · skip
    refine zTmb (show zpc (fX12_sayHl σ2) (zTm k_fX12_sayHl t_fX12_sayHl σ2) from tm_fX12_sayHl eσ2) (fun σ3 hσ3 => ?_)
    have eσ3 := eσ2.kp hσ3
    exact (show zpc (fX12_sayThree_103 σ3 x3) (zTm (k_fX12_sayThree_103 x3) (t_fX12_sayThree_103 x3) σ3) from tm_fX12_sayThree_103 eσ3)
noncomputable def k_fX12_sayThree_151 : Nat := (0 + (4 + k_fX12_sayThree_266))
noncomputable def t_fX12_sayThree_151 : Nat := (2 + (0 + t_fX12_sayThree_266))
theorem tm_fX12_sayThree_151 (e : zEm i l σ) : zpc (fX12_sayThree_151 σ ) (zTm k_fX12_sayThree_151 t_fX12_sayThree_151 σ) := by
  unfold fX12_sayThree_151 k_fX12_sayThree_151 t_fX12_sayThree_151
  refine zTmi (show zpc (fX12_takenWord σ) (fun r => zTm 0 2 σ r.1) from tm_word) (fun σ4 v5 hσ4 => ?_)
  have eσ4 := e.kp hσ4
  refine zTmb (show zpc (fX12_hex σ4 v5 4) (zTm 4 0 σ4) from tm_hex4) (fun σ6 hσ6 => ?_)
  have eσ6 := eσ4.kp hσ6
  exact (show zpc (fX12_sayThree_266 σ6) (zTm k_fX12_sayThree_266 t_fX12_sayThree_266 σ6) from tm_fX12_sayThree_266 eσ6)
noncomputable def k_fX12_sayThree_127 (x1 : Int32) (x2 : Int32) : Nat := (3 + (if x2 = (2 : Int32) then ((k_fX12_sayCc x1) + (1 + k_fX12_sayThree_151)) else k_fX12_sayThree_151))
noncomputable def t_fX12_sayThree_127 (x1 : Int32) (x2 : Int32) : Nat := (0 + (if x2 = (2 : Int32) then ((t_fX12_sayCc x1) + (0 + t_fX12_sayThree_151)) else t_fX12_sayThree_151))
theorem tm_fX12_sayThree_127 (e : zEm i l σ) {x1 : Int32} {x2 : Int32} : zpc (fX12_sayThree_127 σ x1 x2) (zTm (k_fX12_sayThree_127 x1 x2) (t_fX12_sayThree_127 x1 x2) σ) := by
  unfold fX12_sayThree_127 k_fX12_sayThree_127 t_fX12_sayThree_127
  refine zTmb (show zpc (fX12_say σ 143) (zTm 3 0 σ) from tm_say) (fun σ7 hσ7 => ?_)
  have eσ7 := e.kp hσ7
  refine zTmif (fun _ => ?_) (fun _ => ?_)
  · skip
    refine zTmb (show zpc (fX12_sayCc σ7 x1) (zTm (k_fX12_sayCc x1) (t_fX12_sayCc x1) σ7) from tm_fX12_sayCc eσ7) (fun σ8 hσ8 => ?_)
    have eσ8 := eσ7.kp hσ8
    refine zTmb (show zpc (fX12_say σ8 83) (zTm 1 0 σ8) from tm_say) (fun σ9 hσ9 => ?_)
    have eσ9 := eσ8.kp hσ9
    exact (show zpc (fX12_sayThree_151 σ9) (zTm k_fX12_sayThree_151 t_fX12_sayThree_151 σ9) from tm_fX12_sayThree_151 eσ9)
  · skip
    exact (show zpc (fX12_sayThree_151 σ7) (zTm k_fX12_sayThree_151 t_fX12_sayThree_151 σ7) from tm_fX12_sayThree_151 eσ7)
noncomputable def k_fX12_sayThree_210 (n_s0 : Nat) : Nat := (n_s0 + k_fX12_sayThree_266)
noncomputable def t_fX12_sayThree_210 (n_s0 : Nat) : Nat := (0 + t_fX12_sayThree_266)
theorem tm_fX12_sayThree_210 (e : zEm i l σ) {s0 : Nat} : zpc (fX12_sayThree_210 σ s0) (zTm (k_fX12_sayThree_210 (zkL s0)) (t_fX12_sayThree_210 (zkL s0)) σ) := by
  unfold fX12_sayThree_210 k_fX12_sayThree_210 t_fX12_sayThree_210
  refine zTmb (show zpc (fX12_say σ s0) (zTm (zkL s0) 0 σ) from tm_say) (fun σ10 hσ10 => ?_)
  have eσ10 := e.kp hσ10
  exact (show zpc (fX12_sayThree_266 σ10) (zTm k_fX12_sayThree_266 t_fX12_sayThree_266 σ10) from tm_fX12_sayThree_266 eσ10)
noncomputable def k_fX12_sayThree_183 (x1 : Int32) (n_s0 : Nat) : Nat := (n_s0 + (0 + (2 + (if x1 = (2 : Int32) then (k_fX12_sayThree_210 3) else (k_fX12_sayThree_210 1)))))
noncomputable def t_fX12_sayThree_183 (x1 : Int32) (n_s0 : Nat) : Nat := (0 + (1 + (0 + (if x1 = (2 : Int32) then (t_fX12_sayThree_210 3) else (t_fX12_sayThree_210 1)))))
theorem tm_fX12_sayThree_183 (e : zEm i l σ) {x1 : Int32} {s0 : Nat} : zpc (fX12_sayThree_183 σ x1 s0) (zTm (k_fX12_sayThree_183 x1 (zkL s0)) (t_fX12_sayThree_183 x1 (zkL s0)) σ) := by
  unfold fX12_sayThree_183 k_fX12_sayThree_183 t_fX12_sayThree_183
  refine zTmb (show zpc (fX12_say σ s0) (zTm (zkL s0) 0 σ) from tm_say) (fun σ11 hσ11 => ?_)
  have eσ11 := e.kp hσ11
  refine zTmi (show zpc (fX12_taken σ11) (fun r => zTm 0 1 σ11 r.1) from tm_taken) (fun σ12 v13 hσ12 => ?_)
  have eσ12 := eσ11.kp hσ12
  refine zTmb (show zpc (fX12_hex σ12 v13 2) (zTm 2 0 σ12) from tm_hex2) (fun σ14 hσ14 => ?_)
  have eσ14 := eσ12.kp hσ14
  refine zTmif (fun _ => ?_) (fun _ => ?_)
  · skip
    exact (show zpc (fX12_sayThree_210 σ14 146) (zTm (k_fX12_sayThree_210 3) (t_fX12_sayThree_210 3) σ14) from tm_fX12_sayThree_210 eσ14)
  · skip
    exact (show zpc (fX12_sayThree_210 σ14 89) (zTm (k_fX12_sayThree_210 1) (t_fX12_sayThree_210 1) σ14) from tm_fX12_sayThree_210 eσ14)
noncomputable def k_fX12_sayThree_254 (x1 : Int32) (n_s0 : Nat) : Nat := (n_s0 + (if x1 = (4 : Int32) then (k_fX12_sayHl + k_fX12_sayThree_266) else k_fX12_sayThree_266))
noncomputable def t_fX12_sayThree_254 (x1 : Int32) (n_s0 : Nat) : Nat := (0 + (if x1 = (4 : Int32) then (t_fX12_sayHl + t_fX12_sayThree_266) else t_fX12_sayThree_266))
theorem tm_fX12_sayThree_254 (e : zEm i l σ) {x1 : Int32} {s0 : Nat} : zpc (fX12_sayThree_254 σ x1 s0) (zTm (k_fX12_sayThree_254 x1 (zkL s0)) (t_fX12_sayThree_254 x1 (zkL s0)) σ) := by
  unfold fX12_sayThree_254 k_fX12_sayThree_254 t_fX12_sayThree_254
  refine zTmb (show zpc (fX12_say σ s0) (zTm (zkL s0) 0 σ) from tm_say) (fun σ15 hσ15 => ?_)
  have eσ15 := e.kp hσ15
  refine zTmif (fun _ => ?_) (fun _ => ?_)
  · skip
    refine zTmb (show zpc (fX12_sayHl σ15) (zTm k_fX12_sayHl t_fX12_sayHl σ15) from tm_fX12_sayHl eσ15) (fun σ16 hσ16 => ?_)
    have eσ16 := eσ15.kp hσ16
    exact (show zpc (fX12_sayThree_266 σ16) (zTm k_fX12_sayThree_266 t_fX12_sayThree_266 σ16) from tm_fX12_sayThree_266 eσ16)
  · skip
    exact (show zpc (fX12_sayThree_266 σ15) (zTm k_fX12_sayThree_266 t_fX12_sayThree_266 σ15) from tm_fX12_sayThree_266 eσ15)
noncomputable def k_fX12_sayThree_50 (x1 : Int32) (x2 : Int32) (x3 : Int32) : Nat := (if x2 = (1 : Int32) then (if x3 = (0 : Int32) then (k_fX12_sayThree_91 x3 3) else (if x3 = (1 : Int32) then (k_fX12_sayThree_91 x3 3) else (if x3 = (2 : Int32) then (k_fX12_sayThree_91 x3 4) else (k_fX12_sayThree_91 x3 6)))) else (if x2 = (2 : Int32) then (k_fX12_sayThree_127 x1 x2) else (if x1 = (0 : Int32) then (k_fX12_sayThree_127 x1 x2) else (if (4 : Int32) ≤ x1 then (if x1 = (4 : Int32) then (k_fX12_sayThree_254 x1 8) else (if x1 = (5 : Int32) then (k_fX12_sayThree_254 x1 8) else (k_fX12_sayThree_254 x1 2))) else (if x1 = (2 : Int32) then (k_fX12_sayThree_183 x1 5) else (k_fX12_sayThree_183 x1 6))))))
noncomputable def t_fX12_sayThree_50 (x1 : Int32) (x2 : Int32) (x3 : Int32) : Nat := (if x2 = (1 : Int32) then (if x3 = (0 : Int32) then (t_fX12_sayThree_91 x3 3) else (if x3 = (1 : Int32) then (t_fX12_sayThree_91 x3 3) else (if x3 = (2 : Int32) then (t_fX12_sayThree_91 x3 4) else (t_fX12_sayThree_91 x3 6)))) else (if x2 = (2 : Int32) then (t_fX12_sayThree_127 x1 x2) else (if x1 = (0 : Int32) then (t_fX12_sayThree_127 x1 x2) else (if (4 : Int32) ≤ x1 then (if x1 = (4 : Int32) then (t_fX12_sayThree_254 x1 8) else (if x1 = (5 : Int32) then (t_fX12_sayThree_254 x1 8) else (t_fX12_sayThree_254 x1 2))) else (if x1 = (2 : Int32) then (t_fX12_sayThree_183 x1 5) else (t_fX12_sayThree_183 x1 6))))))
theorem tm_fX12_sayThree_50 (e : zEm i l σ) {x1 : Int32} {x2 : Int32} {x3 : Int32} : zpc (fX12_sayThree_50 σ x1 x2 x3) (zTm (k_fX12_sayThree_50 x1 x2 x3) (t_fX12_sayThree_50 x1 x2 x3) σ) := by
  unfold fX12_sayThree_50 k_fX12_sayThree_50 t_fX12_sayThree_50
  refine zTmif (fun _ => ?_) (fun _ => ?_)
  · skip
    refine zTmif (fun _ => ?_) (fun _ => ?_)
    · skip
      exact (show zpc (fX12_sayThree_91 σ x3 139) (zTm (k_fX12_sayThree_91 x3 3) (t_fX12_sayThree_91 x3 3) σ) from tm_fX12_sayThree_91 e)
    · skip
      refine zTmif (fun _ => ?_) (fun _ => ?_)
      · skip
        exact (show zpc (fX12_sayThree_91 σ x3 140) (zTm (k_fX12_sayThree_91 x3 3) (t_fX12_sayThree_91 x3 3) σ) from tm_fX12_sayThree_91 e)
      · skip
        refine zTmif (fun _ => ?_) (fun _ => ?_)
        · skip
          exact (show zpc (fX12_sayThree_91 σ x3 141) (zTm (k_fX12_sayThree_91 x3 4) (t_fX12_sayThree_91 x3 4) σ) from tm_fX12_sayThree_91 e)
        · skip
          exact (show zpc (fX12_sayThree_91 σ x3 142) (zTm (k_fX12_sayThree_91 x3 6) (t_fX12_sayThree_91 x3 6) σ) from tm_fX12_sayThree_91 e)
  · skip
    refine zTmif (fun _ => ?_) (fun _ => ?_)
    · skip
      exact (show zpc (fX12_sayThree_127 σ x1 x2) (zTm (k_fX12_sayThree_127 x1 x2) (t_fX12_sayThree_127 x1 x2) σ) from tm_fX12_sayThree_127 e)
    · skip
      refine zTmif (fun _ => ?_) (fun _ => ?_)
      · skip
        exact (show zpc (fX12_sayThree_127 σ x1 x2) (zTm (k_fX12_sayThree_127 x1 x2) (t_fX12_sayThree_127 x1 x2) σ) from tm_fX12_sayThree_127 e)
      · skip
        refine zTmif (fun _ => ?_) (fun _ => ?_)
        · skip
          refine zTmif (fun _ => ?_) (fun _ => ?_)
          · skip
            exact (show zpc (fX12_sayThree_254 σ x1 147) (zTm (k_fX12_sayThree_254 x1 8) (t_fX12_sayThree_254 x1 8) σ) from tm_fX12_sayThree_254 e)
          · skip
            refine zTmif (fun _ => ?_) (fun _ => ?_)
            · skip
              exact (show zpc (fX12_sayThree_254 σ x1 148) (zTm (k_fX12_sayThree_254 x1 8) (t_fX12_sayThree_254 x1 8) σ) from tm_fX12_sayThree_254 e)
            · skip
              refine zpc_if (fun _ => ?_) (fun _ => ?_)
              · skip
                exact (show zpc (fX12_sayThree_254 σ x1 149) (zTm (k_fX12_sayThree_254 x1 2) (t_fX12_sayThree_254 x1 2) σ) from tm_fX12_sayThree_254 e)
              · skip
                exact (show zpc (fX12_sayThree_254 σ x1 150) (zTm (k_fX12_sayThree_254 x1 2) (t_fX12_sayThree_254 x1 2) σ) from tm_fX12_sayThree_254 e)
        · skip
          refine zTmif (fun _ => ?_) (fun _ => ?_)
          · skip
            exact (show zpc (fX12_sayThree_183 σ x1 144) (zTm (k_fX12_sayThree_183 x1 5) (t_fX12_sayThree_183 x1 5) σ) from tm_fX12_sayThree_183 e)
          · skip
            exact (show zpc (fX12_sayThree_183 σ x1 145) (zTm (k_fX12_sayThree_183 x1 6) (t_fX12_sayThree_183 x1 6) σ) from tm_fX12_sayThree_183 e)
noncomputable def k_fX12_sayThree (x1 : Int32) (x2 : Int32) : Nat := (if x2 = (0 : Int32) then (4 + ((k_fX12_sayCc x1) + k_fX12_sayThree_266)) else (if x2 = (1 : Int32) then (if (zrem x1 (2 : Int32)) = (0 : Int32) then (4 + ((k_fX12_sayRp (x1 >>> ((1 : Int32) &&& (31 : Int32)))) + k_fX12_sayThree_266)) else (k_fX12_sayThree_50 x1 x2 (x1 >>> ((1 : Int32) &&& (31 : Int32))))) else (k_fX12_sayThree_50 x1 x2 (x1 >>> ((1 : Int32) &&& (31 : Int32))))))
noncomputable def t_fX12_sayThree (x1 : Int32) (x2 : Int32) : Nat := (if x2 = (0 : Int32) then (0 + ((t_fX12_sayCc x1) + t_fX12_sayThree_266)) else (if x2 = (1 : Int32) then (if (zrem x1 (2 : Int32)) = (0 : Int32) then (0 + ((t_fX12_sayRp (x1 >>> ((1 : Int32) &&& (31 : Int32)))) + t_fX12_sayThree_266)) else (t_fX12_sayThree_50 x1 x2 (x1 >>> ((1 : Int32) &&& (31 : Int32))))) else (t_fX12_sayThree_50 x1 x2 (x1 >>> ((1 : Int32) &&& (31 : Int32))))))
theorem tm_fX12_sayThree (e : zEm i l σ) {x1 : Int32} {x2 : Int32} : zpc (fX12_sayThree σ x1 x2) (zTm (k_fX12_sayThree x1 x2) (t_fX12_sayThree x1 x2) σ) := by
  unfold fX12_sayThree k_fX12_sayThree t_fX12_sayThree
  refine zpc_bv (fun v17 ev17 => ?_)
  subst ev17
  refine zTmif (fun _ => ?_) (fun _ => ?_)
  · skip
    refine zTmb (show zpc (fX12_say σ 137) (zTm 4 0 σ) from tm_say) (fun σ20 hσ20 => ?_)
    have eσ20 := e.kp hσ20
    refine zTmb (show zpc (fX12_sayCc σ20 x1) (zTm (k_fX12_sayCc x1) (t_fX12_sayCc x1) σ20) from tm_fX12_sayCc eσ20) (fun σ21 hσ21 => ?_)
    have eσ21 := eσ20.kp hσ21
    exact (show zpc (fX12_sayThree_266 σ21) (zTm k_fX12_sayThree_266 t_fX12_sayThree_266 σ21) from tm_fX12_sayThree_266 eσ21)
  · skip
    refine zTmif (fun _ => ?_) (fun _ => ?_)
    · skip
      refine zpc_ck ?_
      refine zTmif (fun _ => ?_) (fun _ => ?_)
      · skip
        refine zTmb (show zpc (fX12_say σ 138) (zTm 4 0 σ) from tm_say) (fun σ18 hσ18 => ?_)
        have eσ18 := e.kp hσ18
        refine zTmb (show zpc (fX12_sayRp σ18 (x1 >>> ((1 : Int32) &&& 31)) 1) (zTm (k_fX12_sayRp (x1 >>> ((1 : Int32) &&& (31 : Int32)))) (t_fX12_sayRp (x1 >>> ((1 : Int32) &&& (31 : Int32)))) σ18) from tm_fX12_sayRp eσ18) (fun σ19 hσ19 => ?_)
        have eσ19 := eσ18.kp hσ19
        exact (show zpc (fX12_sayThree_266 σ19) (zTm k_fX12_sayThree_266 t_fX12_sayThree_266 σ19) from tm_fX12_sayThree_266 eσ19)
      · skip
        exact (show zpc (fX12_sayThree_50 σ x1 x2 (x1 >>> ((1 : Int32) &&& 31))) (zTm (k_fX12_sayThree_50 x1 x2 (x1 >>> ((1 : Int32) &&& (31 : Int32)))) (t_fX12_sayThree_50 x1 x2 (x1 >>> ((1 : Int32) &&& (31 : Int32)))) σ) from tm_fX12_sayThree_50 e)
    · skip
      exact (show zpc (fX12_sayThree_50 σ x1 x2 (x1 >>> ((1 : Int32) &&& 31))) (zTm (k_fX12_sayThree_50 x1 x2 (x1 >>> ((1 : Int32) &&& (31 : Int32)))) (t_fX12_sayThree_50 x1 x2 (x1 >>> ((1 : Int32) &&& (31 : Int32)))) σ) from tm_fX12_sayThree_50 e)
noncomputable def k_fX12_sayLast_115 : Nat := 0
noncomputable def t_fX12_sayLast_115 : Nat := 0
theorem tm_fX12_sayLast_115 (e : zEm i l σ) : zpc (fX12_sayLast_115 σ ) (zTm k_fX12_sayLast_115 t_fX12_sayLast_115 σ) := by
  unfold fX12_sayLast_115 k_fX12_sayLast_115 t_fX12_sayLast_115
  exact zpc_some zTm.rf
noncomputable def k_fX12_sayLast_43 : Nat := (0 + (4 + k_fX12_sayLast_115))
noncomputable def t_fX12_sayLast_43 : Nat := (2 + (0 + t_fX12_sayLast_115))
theorem tm_fX12_sayLast_43 (e : zEm i l σ) : zpc (fX12_sayLast_43 σ ) (zTm k_fX12_sayLast_43 t_fX12_sayLast_43 σ) := by
  unfold fX12_sayLast_43 k_fX12_sayLast_43 t_fX12_sayLast_43
  refine zTmi (show zpc (fX12_takenWord σ) (fun r => zTm 0 2 σ r.1) from tm_word) (fun σ1 v2 hσ1 => ?_)
  have eσ1 := e.kp hσ1
  refine zTmb (show zpc (fX12_hex σ1 v2 4) (zTm 4 0 σ1) from tm_hex4) (fun σ3 hσ3 => ?_)
  have eσ3 := eσ1.kp hσ3
  exact (show zpc (fX12_sayLast_115 σ3) (zTm k_fX12_sayLast_115 t_fX12_sayLast_115 σ3) from tm_fX12_sayLast_115 eσ3)
noncomputable def k_fX12_sayLast_19 (x1 : Int32) (x2 : Int32) : Nat := (5 + (if x2 = (4 : Int32) then ((k_fX12_sayCc x1) + (1 + k_fX12_sayLast_43)) else k_fX12_sayLast_43))
noncomputable def t_fX12_sayLast_19 (x1 : Int32) (x2 : Int32) : Nat := (0 + (if x2 = (4 : Int32) then ((t_fX12_sayCc x1) + (0 + t_fX12_sayLast_43)) else t_fX12_sayLast_43))
theorem tm_fX12_sayLast_19 (e : zEm i l σ) {x1 : Int32} {x2 : Int32} : zpc (fX12_sayLast_19 σ x1 x2) (zTm (k_fX12_sayLast_19 x1 x2) (t_fX12_sayLast_19 x1 x2) σ) := by
  unfold fX12_sayLast_19 k_fX12_sayLast_19 t_fX12_sayLast_19
  refine zTmb (show zpc (fX12_say σ 151) (zTm 5 0 σ) from tm_say) (fun σ4 hσ4 => ?_)
  have eσ4 := e.kp hσ4
  refine zTmif (fun _ => ?_) (fun _ => ?_)
  · skip
    refine zTmb (show zpc (fX12_sayCc σ4 x1) (zTm (k_fX12_sayCc x1) (t_fX12_sayCc x1) σ4) from tm_fX12_sayCc eσ4) (fun σ5 hσ5 => ?_)
    have eσ5 := eσ4.kp hσ5
    refine zTmb (show zpc (fX12_say σ5 83) (zTm 1 0 σ5) from tm_say) (fun σ6 hσ6 => ?_)
    have eσ6 := eσ5.kp hσ6
    exact (show zpc (fX12_sayLast_43 σ6) (zTm k_fX12_sayLast_43 t_fX12_sayLast_43 σ6) from tm_fX12_sayLast_43 eσ6)
  · skip
    exact (show zpc (fX12_sayLast_43 σ4) (zTm k_fX12_sayLast_43 t_fX12_sayLast_43 σ4) from tm_fX12_sayLast_43 eσ4)
noncomputable def k_fX12_sayLast_55 (x1 : Int32) (x2 : Int32) (x3 : Int32) : Nat := (if x2 = (5 : Int32) then (5 + ((k_fX12_sayRp x3) + k_fX12_sayLast_115)) else (if x2 = (6 : Int32) then ((k_fX12_sayDo x1) + (0 + (2 + k_fX12_sayLast_115))) else (4 + (2 + k_fX12_sayLast_115))))
noncomputable def t_fX12_sayLast_55 (x1 : Int32) (x2 : Int32) (x3 : Int32) : Nat := (if x2 = (5 : Int32) then (0 + ((t_fX12_sayRp x3) + t_fX12_sayLast_115)) else (if x2 = (6 : Int32) then ((t_fX12_sayDo x1) + (1 + (0 + t_fX12_sayLast_115))) else (0 + (0 + t_fX12_sayLast_115))))
theorem tm_fX12_sayLast_55 (e : zEm i l σ) {x1 : Int32} {x2 : Int32} {x3 : Int32} : zpc (fX12_sayLast_55 σ x1 x2 x3) (zTm (k_fX12_sayLast_55 x1 x2 x3) (t_fX12_sayLast_55 x1 x2 x3) σ) := by
  unfold fX12_sayLast_55 k_fX12_sayLast_55 t_fX12_sayLast_55
  refine zTmif (fun _ => ?_) (fun _ => ?_)
  · skip
    refine zTmb (show zpc (fX12_say σ 152) (zTm 5 0 σ) from tm_say) (fun σ13 hσ13 => ?_)
    have eσ13 := e.kp hσ13
    refine zTmb (show zpc (fX12_sayRp σ13 x3 1) (zTm (k_fX12_sayRp x3) (t_fX12_sayRp x3) σ13) from tm_fX12_sayRp eσ13) (fun σ14 hσ14 => ?_)
    have eσ14 := eσ13.kp hσ14
    exact (show zpc (fX12_sayLast_115 σ14) (zTm k_fX12_sayLast_115 t_fX12_sayLast_115 σ14) from tm_fX12_sayLast_115 eσ14)
  · skip
    refine zTmif (fun _ => ?_) (fun _ => ?_)
    · skip
      refine zTmb (show zpc (fX12_sayDo σ x1) (zTm (k_fX12_sayDo x1) (t_fX12_sayDo x1) σ) from tm_fX12_sayDo e) (fun σ9 hσ9 => ?_)
      have eσ9 := e.kp hσ9
      refine zTmi (show zpc (fX12_taken σ9) (fun r => zTm 0 1 σ9 r.1) from tm_taken) (fun σ10 v11 hσ10 => ?_)
      have eσ10 := eσ9.kp hσ10
      refine zTmb (show zpc (fX12_hex σ10 v11 2) (zTm 2 0 σ10) from tm_hex2) (fun σ12 hσ12 => ?_)
      have eσ12 := eσ10.kp hσ12
      exact (show zpc (fX12_sayLast_115 σ12) (zTm k_fX12_sayLast_115 t_fX12_sayLast_115 σ12) from tm_fX12_sayLast_115 eσ12)
    · skip
      refine zTmb (show zpc (fX12_say σ 153) (zTm 4 0 σ) from tm_say) (fun σ7 hσ7 => ?_)
      have eσ7 := e.kp hσ7
      refine zTmb (show zpc (fX12_hex σ7 (8 * x1) 2) (zTm 2 0 σ7) from tm_hex2) (fun σ8 hσ8 => ?_)
      have eσ8 := eσ7.kp hσ8
      exact (show zpc (fX12_sayLast_115 σ8) (zTm k_fX12_sayLast_115 t_fX12_sayLast_115 σ8) from tm_fX12_sayLast_115 eσ8)
noncomputable def k_fX12_sayLast (x1 : Int32) (x2 : Int32) : Nat := (if x2 = (4 : Int32) then (k_fX12_sayLast_19 x1 x2) else (if x2 = (5 : Int32) then (if x1 = (1 : Int32) then (k_fX12_sayLast_19 x1 x2) else (k_fX12_sayLast_55 x1 x2 (x1 >>> ((1 : Int32) &&& (31 : Int32))))) else (k_fX12_sayLast_55 x1 x2 (x1 >>> ((1 : Int32) &&& (31 : Int32))))))
noncomputable def t_fX12_sayLast (x1 : Int32) (x2 : Int32) : Nat := (if x2 = (4 : Int32) then (t_fX12_sayLast_19 x1 x2) else (if x2 = (5 : Int32) then (if x1 = (1 : Int32) then (t_fX12_sayLast_19 x1 x2) else (t_fX12_sayLast_55 x1 x2 (x1 >>> ((1 : Int32) &&& (31 : Int32))))) else (t_fX12_sayLast_55 x1 x2 (x1 >>> ((1 : Int32) &&& (31 : Int32))))))
theorem tm_fX12_sayLast (e : zEm i l σ) {x1 : Int32} {x2 : Int32} : zpc (fX12_sayLast σ x1 x2) (zTm (k_fX12_sayLast x1 x2) (t_fX12_sayLast x1 x2) σ) := by
  unfold fX12_sayLast k_fX12_sayLast t_fX12_sayLast
  refine zpc_bv (fun v15 ev15 => ?_)
  subst ev15
  refine zTmif (fun _ => ?_) (fun _ => ?_)
  · skip
    exact (show zpc (fX12_sayLast_19 σ x1 x2) (zTm (k_fX12_sayLast_19 x1 x2) (t_fX12_sayLast_19 x1 x2) σ) from tm_fX12_sayLast_19 e)
  · skip
    refine zTmif (fun _ => ?_) (fun _ => ?_)
    · skip
      refine zTmif (fun _ => ?_) (fun _ => ?_)
      · skip
        exact (show zpc (fX12_sayLast_19 σ x1 x2) (zTm (k_fX12_sayLast_19 x1 x2) (t_fX12_sayLast_19 x1 x2) σ) from tm_fX12_sayLast_19 e)
      · skip
        exact (show zpc (fX12_sayLast_55 σ x1 x2 (x1 >>> ((1 : Int32) &&& 31))) (zTm (k_fX12_sayLast_55 x1 x2 (x1 >>> ((1 : Int32) &&& (31 : Int32)))) (t_fX12_sayLast_55 x1 x2 (x1 >>> ((1 : Int32) &&& (31 : Int32)))) σ) from tm_fX12_sayLast_55 e)
    · skip
      exact (show zpc (fX12_sayLast_55 σ x1 x2 (x1 >>> ((1 : Int32) &&& 31))) (zTm (k_fX12_sayLast_55 x1 x2 (x1 >>> ((1 : Int32) &&& (31 : Int32)))) (t_fX12_sayLast_55 x1 x2 (x1 >>> ((1 : Int32) &&& (31 : Int32)))) σ) from tm_fX12_sayLast_55 e)
noncomputable def k_fX12_sayPlain_137 : Nat := 0
noncomputable def t_fX12_sayPlain_137 : Nat := 0
theorem tm_fX12_sayPlain_137 (e : zEm i l σ) : zpc (fX12_sayPlain_137 σ ) (zTm k_fX12_sayPlain_137 t_fX12_sayPlain_137 σ) := by
  unfold fX12_sayPlain_137 k_fX12_sayPlain_137 t_fX12_sayPlain_137
  exact zpc_some zTm.rf
noncomputable def k_fX12_sayPlain_32 (i : Int32) (l : Int32) (x1 : Int32) (x2 : Int32) (x3 : Int32) : Nat := (if (64 : Int32) ≤ x1 then (if x1 = (118 : Int32) then (4 + k_fX12_sayPlain_137) else (if (128 : Int32) ≤ x1 then (if (192 : Int32) ≤ x1 then (if (4 : Int32) ≤ x3 then ((k_fX12_sayLast x2 x3) + k_fX12_sayPlain_137) else ((k_fX12_sayThree x2 x3) + k_fX12_sayPlain_137)) else ((k_fX12_sayDo x2) + ((k_fX12_sayR i l x3) + k_fX12_sayPlain_137))) else (3 + ((k_fX12_sayR i l x2) + (1 + ((k_fX12_sayR i l x3) + k_fX12_sayPlain_137)))))) else ((k_fX12_saySingle i l x2 x3) + k_fX12_sayPlain_137))
noncomputable def t_fX12_sayPlain_32 (i : Int32) (l : Int32) (x1 : Int32) (x2 : Int32) (x3 : Int32) : Nat := (if (64 : Int32) ≤ x1 then (if x1 = (118 : Int32) then (0 + t_fX12_sayPlain_137) else (if (128 : Int32) ≤ x1 then (if (192 : Int32) ≤ x1 then (if (4 : Int32) ≤ x3 then ((t_fX12_sayLast x2 x3) + t_fX12_sayPlain_137) else ((t_fX12_sayThree x2 x3) + t_fX12_sayPlain_137)) else ((t_fX12_sayDo x2) + ((t_fX12_sayR i l x3) + t_fX12_sayPlain_137))) else (0 + ((t_fX12_sayR i l x2) + (0 + ((t_fX12_sayR i l x3) + t_fX12_sayPlain_137)))))) else ((t_fX12_saySingle i l x2 x3) + t_fX12_sayPlain_137))
theorem tm_fX12_sayPlain_32 (e : zEm i l σ) {x1 : Int32} {x2 : Int32} {x3 : Int32} : zpc (fX12_sayPlain_32 σ x1 x2 x3) (zTm (k_fX12_sayPlain_32 i l x1 x2 x3) (t_fX12_sayPlain_32 i l x1 x2 x3) σ) := by
  unfold fX12_sayPlain_32 k_fX12_sayPlain_32 t_fX12_sayPlain_32
  refine zTmif (fun _ => ?_) (fun _ => ?_)
  · skip
    refine zTmif (fun _ => ?_) (fun _ => ?_)
    · skip
      refine zTmb (show zpc (fX12_say σ 129) (zTm 4 0 σ) from tm_say) (fun σ9 hσ9 => ?_)
      have eσ9 := e.kp hσ9
      exact (show zpc (fX12_sayPlain_137 σ9) (zTm k_fX12_sayPlain_137 t_fX12_sayPlain_137 σ9) from tm_fX12_sayPlain_137 eσ9)
    · skip
      refine zTmif (fun _ => ?_) (fun _ => ?_)
      · skip
        refine zTmif (fun _ => ?_) (fun _ => ?_)
        · skip
          refine zTmif (fun _ => ?_) (fun _ => ?_)
          · skip
            refine zTmb (show zpc (fX12_sayLast σ x2 x3) (zTm (k_fX12_sayLast x2 x3) (t_fX12_sayLast x2 x3) σ) from tm_fX12_sayLast e) (fun σ1 hσ1 => ?_)
            have eσ1 := e.kp hσ1
            exact (show zpc (fX12_sayPlain_137 σ1) (zTm k_fX12_sayPlain_137 t_fX12_sayPlain_137 σ1) from tm_fX12_sayPlain_137 eσ1)
          · skip
            refine zTmb (show zpc (fX12_sayThree σ x2 x3) (zTm (k_fX12_sayThree x2 x3) (t_fX12_sayThree x2 x3) σ) from tm_fX12_sayThree e) (fun σ2 hσ2 => ?_)
            have eσ2 := e.kp hσ2
            exact (show zpc (fX12_sayPlain_137 σ2) (zTm k_fX12_sayPlain_137 t_fX12_sayPlain_137 σ2) from tm_fX12_sayPlain_137 eσ2)
        · skip
          refine zTmb (show zpc (fX12_sayDo σ x2) (zTm (k_fX12_sayDo x2) (t_fX12_sayDo x2) σ) from tm_fX12_sayDo e) (fun σ3 hσ3 => ?_)
          have eσ3 := e.kp hσ3
          refine zTmb (show zpc (fX12_sayR σ3 x3) (zTm (k_fX12_sayR i l x3) (t_fX12_sayR i l x3) σ3) from tm_fX12_sayR eσ3) (fun σ4 hσ4 => ?_)
          have eσ4 := eσ3.kp hσ4
          exact (show zpc (fX12_sayPlain_137 σ4) (zTm k_fX12_sayPlain_137 t_fX12_sayPlain_137 σ4) from tm_fX12_sayPlain_137 eσ4)
      · skip
        refine zTmb (show zpc (fX12_say σ 111) (zTm 3 0 σ) from tm_say) (fun σ5 hσ5 => ?_)
        have eσ5 := e.kp hσ5
        refine zTmb (show zpc (fX12_sayR σ5 x2) (zTm (k_fX12_sayR i l x2) (t_fX12_sayR i l x2) σ5) from tm_fX12_sayR eσ5) (fun σ6 hσ6 => ?_)
        have eσ6 := eσ5.kp hσ6
        refine zTmb (show zpc (fX12_say σ6 83) (zTm 1 0 σ6) from tm_say) (fun σ7 hσ7 => ?_)
        have eσ7 := eσ6.kp hσ7
        refine zTmb (show zpc (fX12_sayR σ7 x3) (zTm (k_fX12_sayR i l x3) (t_fX12_sayR i l x3) σ7) from tm_fX12_sayR eσ7) (fun σ8 hσ8 => ?_)
        have eσ8 := eσ7.kp hσ8
        exact (show zpc (fX12_sayPlain_137 σ8) (zTm k_fX12_sayPlain_137 t_fX12_sayPlain_137 σ8) from tm_fX12_sayPlain_137 eσ8)
  · skip
    refine zTmb (show zpc (fX12_saySingle σ x2 x3) (zTm (k_fX12_saySingle i l x2 x3) (t_fX12_saySingle i l x2 x3) σ) from tm_fX12_saySingle e) (fun σ10 hσ10 => ?_)
    have eσ10 := e.kp hσ10
    exact (show zpc (fX12_sayPlain_137 σ10) (zTm k_fX12_sayPlain_137 t_fX12_sayPlain_137 σ10) from tm_fX12_sayPlain_137 eσ10)
noncomputable def k_fX12_sayPlain (i : Int32) (l : Int32) (x1 : Int32) : Nat := (if (64 : Int32) ≤ x1 then (k_fX12_sayPlain_32 i l x1 ((x1 >>> ((3 : Int32) &&& (31 : Int32))) &&& (7 : Int32)) (x1 &&& (7 : Int32))) else (if (4 : Int32) ≤ (x1 &&& (7 : Int32)) then (k_fX12_sayPlain_32 i l x1 ((x1 >>> ((3 : Int32) &&& (31 : Int32))) &&& (7 : Int32)) (x1 &&& (7 : Int32))) else ((k_fX12_sayZero ((x1 >>> ((3 : Int32) &&& (31 : Int32))) &&& (7 : Int32)) (x1 &&& (7 : Int32))) + k_fX12_sayPlain_137)))
noncomputable def t_fX12_sayPlain (i : Int32) (l : Int32) (x1 : Int32) : Nat := (if (64 : Int32) ≤ x1 then (t_fX12_sayPlain_32 i l x1 ((x1 >>> ((3 : Int32) &&& (31 : Int32))) &&& (7 : Int32)) (x1 &&& (7 : Int32))) else (if (4 : Int32) ≤ (x1 &&& (7 : Int32)) then (t_fX12_sayPlain_32 i l x1 ((x1 >>> ((3 : Int32) &&& (31 : Int32))) &&& (7 : Int32)) (x1 &&& (7 : Int32))) else ((t_fX12_sayZero ((x1 >>> ((3 : Int32) &&& (31 : Int32))) &&& (7 : Int32)) (x1 &&& (7 : Int32))) + t_fX12_sayPlain_137)))
theorem tm_fX12_sayPlain (e : zEm i l σ) {x1 : Int32} : zpc (fX12_sayPlain σ x1) (zTm (k_fX12_sayPlain i l x1) (t_fX12_sayPlain i l x1) σ) := by
  unfold fX12_sayPlain k_fX12_sayPlain t_fX12_sayPlain
  refine zpc_bv (fun v11 ev11 => ?_)
  subst ev11
  refine zpc_bv (fun v12 ev12 => ?_)
  subst ev12
  refine zTmif (fun _ => ?_) (fun _ => ?_)
  · skip
    exact (show zpc (fX12_sayPlain_32 σ x1 ((x1 >>> ((3 : Int32) &&& 31)) &&& 7) (x1 &&& 7)) (zTm (k_fX12_sayPlain_32 i l x1 ((x1 >>> ((3 : Int32) &&& (31 : Int32))) &&& (7 : Int32)) (x1 &&& (7 : Int32))) (t_fX12_sayPlain_32 i l x1 ((x1 >>> ((3 : Int32) &&& (31 : Int32))) &&& (7 : Int32)) (x1 &&& (7 : Int32))) σ) from tm_fX12_sayPlain_32 e)
  · skip
    refine zTmif (fun _ => ?_) (fun _ => ?_)
    · skip
      exact (show zpc (fX12_sayPlain_32 σ x1 ((x1 >>> ((3 : Int32) &&& 31)) &&& 7) (x1 &&& 7)) (zTm (k_fX12_sayPlain_32 i l x1 ((x1 >>> ((3 : Int32) &&& (31 : Int32))) &&& (7 : Int32)) (x1 &&& (7 : Int32))) (t_fX12_sayPlain_32 i l x1 ((x1 >>> ((3 : Int32) &&& (31 : Int32))) &&& (7 : Int32)) (x1 &&& (7 : Int32))) σ) from tm_fX12_sayPlain_32 e)
    · skip
      refine zTmb (show zpc (fX12_sayZero σ ((x1 >>> ((3 : Int32) &&& 31)) &&& 7) (x1 &&& 7)) (zTm (k_fX12_sayZero ((x1 >>> ((3 : Int32) &&& (31 : Int32))) &&& (7 : Int32)) (x1 &&& (7 : Int32))) (t_fX12_sayZero ((x1 >>> ((3 : Int32) &&& (31 : Int32))) &&& (7 : Int32)) (x1 &&& (7 : Int32))) σ) from tm_fX12_sayZero e) (fun σ13 hσ13 => ?_)
      have eσ13 := e.kp hσ13
      exact (show zpc (fX12_sayPlain_137 σ13) (zTm k_fX12_sayPlain_137 t_fX12_sayPlain_137 σ13) from tm_fX12_sayPlain_137 eσ13)
noncomputable def k_fX12_sayOdd_155 : Nat := 0
noncomputable def t_fX12_sayOdd_155 : Nat := 0
theorem tm_fX12_sayOdd_155 (e : zEm i l σ) : zpc (fX12_sayOdd_155 σ ) (zTm k_fX12_sayOdd_155 t_fX12_sayOdd_155 σ) := by
  unfold fX12_sayOdd_155 k_fX12_sayOdd_155 t_fX12_sayOdd_155
  exact zpc_some zTm.rf
noncomputable def k_fX12_sayOdd_35 (n_s0 : Nat) : Nat := (n_s0 + k_fX12_sayOdd_155)
noncomputable def t_fX12_sayOdd_35 (n_s0 : Nat) : Nat := (0 + t_fX12_sayOdd_155)
theorem tm_fX12_sayOdd_35 (e : zEm i l σ) {s0 : Nat} : zpc (fX12_sayOdd_35 σ s0) (zTm (k_fX12_sayOdd_35 (zkL s0)) (t_fX12_sayOdd_35 (zkL s0)) σ) := by
  unfold fX12_sayOdd_35 k_fX12_sayOdd_35 t_fX12_sayOdd_35
  refine zTmb (show zpc (fX12_say σ s0) (zTm (zkL s0) 0 σ) from tm_say) (fun σ1 hσ1 => ?_)
  have eσ1 := e.kp hσ1
  exact (show zpc (fX12_sayOdd_155 σ1) (zTm k_fX12_sayOdd_155 t_fX12_sayOdd_155 σ1) from tm_fX12_sayOdd_155 eσ1)
noncomputable def k_fX12_sayOdd_77 (n_s0 : Nat) : Nat := (n_s0 + k_fX12_sayOdd_155)
noncomputable def t_fX12_sayOdd_77 (n_s0 : Nat) : Nat := (0 + t_fX12_sayOdd_155)
theorem tm_fX12_sayOdd_77 (e : zEm i l σ) {s0 : Nat} : zpc (fX12_sayOdd_77 σ s0) (zTm (k_fX12_sayOdd_77 (zkL s0)) (t_fX12_sayOdd_77 (zkL s0)) σ) := by
  unfold fX12_sayOdd_77 k_fX12_sayOdd_77 t_fX12_sayOdd_77
  refine zTmb (show zpc (fX12_say σ s0) (zTm (zkL s0) 0 σ) from tm_say) (fun σ2 hσ2 => ?_)
  have eσ2 := e.kp hσ2
  exact (show zpc (fX12_sayOdd_155 σ2) (zTm k_fX12_sayOdd_155 t_fX12_sayOdd_155 σ2) from tm_fX12_sayOdd_155 eσ2)
noncomputable def k_fX12_sayOdd_152 (n_s0 : Nat) : Nat := (n_s0 + k_fX12_sayOdd_155)
noncomputable def t_fX12_sayOdd_152 (n_s0 : Nat) : Nat := (0 + t_fX12_sayOdd_155)
theorem tm_fX12_sayOdd_152 (e : zEm i l σ) {s0 : Nat} : zpc (fX12_sayOdd_152 σ s0) (zTm (k_fX12_sayOdd_152 (zkL s0)) (t_fX12_sayOdd_152 (zkL s0)) σ) := by
  unfold fX12_sayOdd_152 k_fX12_sayOdd_152 t_fX12_sayOdd_152
  refine zTmb (show zpc (fX12_say σ s0) (zTm (zkL s0) 0 σ) from tm_say) (fun σ3 hσ3 => ?_)
  have eσ3 := e.kp hσ3
  exact (show zpc (fX12_sayOdd_155 σ3) (zTm k_fX12_sayOdd_155 t_fX12_sayOdd_155 σ3) from tm_fX12_sayOdd_155 eσ3)
noncomputable def k_fX12_sayOdd (x1 : Int32) (x2 : Int32) : Nat := (if x2 = (4 : Int32) then (3 + k_fX12_sayOdd_155) else (if x2 = (5 : Int32) then (k_fX12_sayOdd_35 4) else (if x2 = (6 : Int32) then (k_fX12_sayOdd_77 4) else (if x1 = (0 : Int32) then (k_fX12_sayOdd_152 6) else (if x1 = (1 : Int32) then (k_fX12_sayOdd_152 6) else (if x1 = (2 : Int32) then (k_fX12_sayOdd_152 6) else (if x1 = (3 : Int32) then (k_fX12_sayOdd_152 6) else (k_fX12_sayOdd_152 3))))))))
noncomputable def t_fX12_sayOdd (x1 : Int32) (x2 : Int32) : Nat := (if x2 = (4 : Int32) then (0 + t_fX12_sayOdd_155) else (if x2 = (5 : Int32) then (t_fX12_sayOdd_35 4) else (if x2 = (6 : Int32) then (t_fX12_sayOdd_77 4) else (if x1 = (0 : Int32) then (t_fX12_sayOdd_152 6) else (if x1 = (1 : Int32) then (t_fX12_sayOdd_152 6) else (if x1 = (2 : Int32) then (t_fX12_sayOdd_152 6) else (if x1 = (3 : Int32) then (t_fX12_sayOdd_152 6) else (t_fX12_sayOdd_152 3))))))))
theorem tm_fX12_sayOdd (e : zEm i l σ) {x1 : Int32} {x2 : Int32} : zpc (fX12_sayOdd σ x1 x2) (zTm (k_fX12_sayOdd x1 x2) (t_fX12_sayOdd x1 x2) σ) := by
  unfold fX12_sayOdd k_fX12_sayOdd t_fX12_sayOdd
  refine zTmif (fun _ => ?_) (fun _ => ?_)
  · skip
    refine zTmb (show zpc (fX12_say σ 167) (zTm 3 0 σ) from tm_say) (fun σ4 hσ4 => ?_)
    have eσ4 := e.kp hσ4
    exact (show zpc (fX12_sayOdd_155 σ4) (zTm k_fX12_sayOdd_155 t_fX12_sayOdd_155 σ4) from tm_fX12_sayOdd_155 eσ4)
  · skip
    refine zTmif (fun _ => ?_) (fun _ => ?_)
    · skip
      refine zpc_if (fun _ => ?_) (fun _ => ?_)
      · skip
        exact (show zpc (fX12_sayOdd_35 σ 168) (zTm (k_fX12_sayOdd_35 4) (t_fX12_sayOdd_35 4) σ) from tm_fX12_sayOdd_35 e)
      · skip
        exact (show zpc (fX12_sayOdd_35 σ 169) (zTm (k_fX12_sayOdd_35 4) (t_fX12_sayOdd_35 4) σ) from tm_fX12_sayOdd_35 e)
    · skip
      refine zTmif (fun _ => ?_) (fun _ => ?_)
      · skip
        refine zpc_ck ?_
        refine zpc_if (fun _ => ?_) (fun _ => ?_)
        · skip
          refine zpc_ck ?_
          refine zpc_if (fun _ => ?_) (fun _ => ?_)
          · skip
            exact (show zpc (fX12_sayOdd_77 σ 171) (zTm (k_fX12_sayOdd_77 4) (t_fX12_sayOdd_77 4) σ) from tm_fX12_sayOdd_77 e)
          · skip
            exact (show zpc (fX12_sayOdd_77 σ 172) (zTm (k_fX12_sayOdd_77 4) (t_fX12_sayOdd_77 4) σ) from tm_fX12_sayOdd_77 e)
        · skip
          exact (show zpc (fX12_sayOdd_77 σ 170) (zTm (k_fX12_sayOdd_77 4) (t_fX12_sayOdd_77 4) σ) from tm_fX12_sayOdd_77 e)
      · skip
        refine zTmif (fun _ => ?_) (fun _ => ?_)
        · skip
          exact (show zpc (fX12_sayOdd_152 σ 173) (zTm (k_fX12_sayOdd_152 6) (t_fX12_sayOdd_152 6) σ) from tm_fX12_sayOdd_152 e)
        · skip
          refine zTmif (fun _ => ?_) (fun _ => ?_)
          · skip
            exact (show zpc (fX12_sayOdd_152 σ 174) (zTm (k_fX12_sayOdd_152 6) (t_fX12_sayOdd_152 6) σ) from tm_fX12_sayOdd_152 e)
          · skip
            refine zTmif (fun _ => ?_) (fun _ => ?_)
            · skip
              exact (show zpc (fX12_sayOdd_152 σ 175) (zTm (k_fX12_sayOdd_152 6) (t_fX12_sayOdd_152 6) σ) from tm_fX12_sayOdd_152 e)
            · skip
              refine zTmif (fun _ => ?_) (fun _ => ?_)
              · skip
                exact (show zpc (fX12_sayOdd_152 σ 176) (zTm (k_fX12_sayOdd_152 6) (t_fX12_sayOdd_152 6) σ) from tm_fX12_sayOdd_152 e)
              · skip
                refine zpc_if (fun _ => ?_) (fun _ => ?_)
                · skip
                  exact (show zpc (fX12_sayOdd_152 σ 177) (zTm (k_fX12_sayOdd_152 3) (t_fX12_sayOdd_152 3) σ) from tm_fX12_sayOdd_152 e)
                · skip
                  refine zpc_if (fun _ => ?_) (fun _ => ?_)
                  · skip
                    exact (show zpc (fX12_sayOdd_152 σ 178) (zTm (k_fX12_sayOdd_152 3) (t_fX12_sayOdd_152 3) σ) from tm_fX12_sayOdd_152 e)
                  · skip
                    exact (show zpc (fX12_sayOdd_152 σ 71) (zTm (k_fX12_sayOdd_152 3) (t_fX12_sayOdd_152 3) σ) from tm_fX12_sayOdd_152 e)
noncomputable def k_fX12_sayMore_325 : Nat := 0
noncomputable def t_fX12_sayMore_325 : Nat := 0
theorem tm_fX12_sayMore_325 (e : zEm i l σ) : zpc (fX12_sayMore_325 σ ) (zTm k_fX12_sayMore_325 t_fX12_sayMore_325 σ) := by
  unfold fX12_sayMore_325 k_fX12_sayMore_325 t_fX12_sayMore_325
  exact zpc_some zTm.rf
noncomputable def k_fX12_sayMore_164 : Nat := (3 + k_fX12_sayMore_325)
noncomputable def t_fX12_sayMore_164 : Nat := (0 + t_fX12_sayMore_325)
theorem tm_fX12_sayMore_164 (e : zEm i l σ) : zpc (fX12_sayMore_164 σ ) (zTm k_fX12_sayMore_164 t_fX12_sayMore_164 σ) := by
  unfold fX12_sayMore_164 k_fX12_sayMore_164 t_fX12_sayMore_164
  refine zTmb (show zpc (fX12_say σ 162) (zTm 3 0 σ) from tm_say) (fun σ1 hσ1 => ?_)
  have eσ1 := e.kp hσ1
  exact (show zpc (fX12_sayMore_325 σ1) (zTm k_fX12_sayMore_325 t_fX12_sayMore_325 σ1) from tm_fX12_sayMore_325 eσ1)
noncomputable def k_fX12_sayMore_231 (x2 : Int32) (n_s0 : Nat) : Nat := (n_s0 + ((k_fX12_sayRp (x2 >>> ((1 : Int32) &&& (31 : Int32)))) + k_fX12_sayMore_325))
noncomputable def t_fX12_sayMore_231 (x2 : Int32) (n_s0 : Nat) : Nat := (0 + ((t_fX12_sayRp (x2 >>> ((1 : Int32) &&& (31 : Int32)))) + t_fX12_sayMore_325))
theorem tm_fX12_sayMore_231 (e : zEm i l σ) {x2 : Int32} {s0 : Nat} : zpc (fX12_sayMore_231 σ x2 s0) (zTm (k_fX12_sayMore_231 x2 (zkL s0)) (t_fX12_sayMore_231 x2 (zkL s0)) σ) := by
  unfold fX12_sayMore_231 k_fX12_sayMore_231 t_fX12_sayMore_231
  refine zTmb (show zpc (fX12_say σ s0) (zTm (zkL s0) 0 σ) from tm_say) (fun σ2 hσ2 => ?_)
  have eσ2 := e.kp hσ2
  refine zTmb (show zpc (fX12_sayRp σ2 (x2 >>> ((1 : Int32) &&& 31)) 0) (zTm (k_fX12_sayRp (x2 >>> ((1 : Int32) &&& (31 : Int32)))) (t_fX12_sayRp (x2 >>> ((1 : Int32) &&& (31 : Int32)))) σ2) from tm_fX12_sayRp eσ2) (fun σ3 hσ3 => ?_)
  have eσ3 := eσ2.kp hσ3
  exact (show zpc (fX12_sayMore_325 σ3) (zTm k_fX12_sayMore_325 t_fX12_sayMore_325 σ3) from tm_fX12_sayMore_325 eσ3)
noncomputable def k_fX12_sayMore_316 : Nat := k_fX12_sayMore_325
noncomputable def t_fX12_sayMore_316 : Nat := t_fX12_sayMore_325
theorem tm_fX12_sayMore_316 (e : zEm i l σ) : zpc (fX12_sayMore_316 σ ) (zTm k_fX12_sayMore_316 t_fX12_sayMore_316 σ) := by
  unfold fX12_sayMore_316 k_fX12_sayMore_316 t_fX12_sayMore_316
  exact (show zpc (fX12_sayMore_325 σ) (zTm k_fX12_sayMore_325 t_fX12_sayMore_325 σ) from tm_fX12_sayMore_325 e)
noncomputable def k_fX12_sayMore_286 (x2 : Int32) : Nat := (1 + (if (zrem x2 (2 : Int32)) = (0 : Int32) then ((k_fX12_sayRp (x2 >>> ((1 : Int32) &&& (31 : Int32)))) + k_fX12_sayMore_316) else (k_fX12_sayPlaced + k_fX12_sayMore_316)))
noncomputable def t_fX12_sayMore_286 (x2 : Int32) : Nat := (0 + (if (zrem x2 (2 : Int32)) = (0 : Int32) then ((t_fX12_sayRp (x2 >>> ((1 : Int32) &&& (31 : Int32)))) + t_fX12_sayMore_316) else (t_fX12_sayPlaced + t_fX12_sayMore_316)))
theorem tm_fX12_sayMore_286 (e : zEm i l σ) {x2 : Int32} {x5 : Int32} : zpc (fX12_sayMore_286 σ x2 x5) (zTm (k_fX12_sayMore_286 x2) (t_fX12_sayMore_286 x2) σ) := by
  unfold fX12_sayMore_286 k_fX12_sayMore_286 t_fX12_sayMore_286
  refine zTmb (show zpc (fX12_say σ 83) (zTm 1 0 σ) from tm_say) (fun σ4 hσ4 => ?_)
  have eσ4 := e.kp hσ4
  refine zpc_ck ?_
  refine zTmif (fun _ => ?_) (fun _ => ?_)
  · skip
    refine zTmb (show zpc (fX12_sayRp σ4 (x2 >>> ((1 : Int32) &&& 31)) 0) (zTm (k_fX12_sayRp (x2 >>> ((1 : Int32) &&& (31 : Int32)))) (t_fX12_sayRp (x2 >>> ((1 : Int32) &&& (31 : Int32)))) σ4) from tm_fX12_sayRp eσ4) (fun σ6 hσ6 => ?_)
    have eσ6 := eσ4.kp hσ6
    exact (show zpc (fX12_sayMore_316 σ6) (zTm k_fX12_sayMore_316 t_fX12_sayMore_316 σ6) from tm_fX12_sayMore_316 eσ6)
  · skip
    refine zTmb (show zpc (fX12_sayPlaced σ4 x5) (zTm k_fX12_sayPlaced t_fX12_sayPlaced σ4) from tm_fX12_sayPlaced eσ4) (fun σ5 hσ5 => ?_)
    have eσ5 := eσ4.kp hσ5
    exact (show zpc (fX12_sayMore_316 σ5) (zTm k_fX12_sayMore_316 t_fX12_sayMore_316 σ5) from tm_fX12_sayMore_316 eσ5)
noncomputable def k_fX12_sayMore_119 (i : Int32) (l : Int32) (x2 : Int32) (x3 : Int32) (x4 : Int32) : Nat := (if x4 = (1 : Int32) then (if x3 = (0 : Int32) then (3 + (if x2 = (6 : Int32) then k_fX12_sayMore_164 else ((k_fX12_sayR i l x2) + (1 + k_fX12_sayMore_164)))) else (if x3 = (1 : Int32) then (8 + (if x2 = (6 : Int32) then (1 + k_fX12_sayMore_325) else ((k_fX12_sayR i l x2) + k_fX12_sayMore_325))) else (if x3 = (2 : Int32) then (k_fX12_sayMore_231 x2 7) else (if x3 = (3 : Int32) then (3 + (0 + (if (zrem x2 (2 : Int32)) = (0 : Int32) then (k_fX12_sayPlaced + (k_fX12_sayMore_286 x2)) else ((k_fX12_sayRp (x2 >>> ((1 : Int32) &&& (31 : Int32)))) + (k_fX12_sayMore_286 x2))))) else ((k_fX12_sayOdd x2 x3) + k_fX12_sayMore_325))))) else (3 + k_fX12_sayMore_325))
noncomputable def t_fX12_sayMore_119 (i : Int32) (l : Int32) (x2 : Int32) (x3 : Int32) (x4 : Int32) : Nat := (if x4 = (1 : Int32) then (if x3 = (0 : Int32) then (0 + (if x2 = (6 : Int32) then t_fX12_sayMore_164 else ((t_fX12_sayR i l x2) + (0 + t_fX12_sayMore_164)))) else (if x3 = (1 : Int32) then (0 + (if x2 = (6 : Int32) then (0 + t_fX12_sayMore_325) else ((t_fX12_sayR i l x2) + t_fX12_sayMore_325))) else (if x3 = (2 : Int32) then (t_fX12_sayMore_231 x2 7) else (if x3 = (3 : Int32) then (0 + (2 + (if (zrem x2 (2 : Int32)) = (0 : Int32) then (t_fX12_sayPlaced + (t_fX12_sayMore_286 x2)) else ((t_fX12_sayRp (x2 >>> ((1 : Int32) &&& (31 : Int32)))) + (t_fX12_sayMore_286 x2))))) else ((t_fX12_sayOdd x2 x3) + t_fX12_sayMore_325))))) else (0 + t_fX12_sayMore_325))
theorem tm_fX12_sayMore_119 (e : zEm i l σ) {x2 : Int32} {x3 : Int32} {x4 : Int32} : zpc (fX12_sayMore_119 σ x2 x3 x4) (zTm (k_fX12_sayMore_119 i l x2 x3 x4) (t_fX12_sayMore_119 i l x2 x3 x4) σ) := by
  unfold fX12_sayMore_119 k_fX12_sayMore_119 t_fX12_sayMore_119
  refine zTmif (fun _ => ?_) (fun _ => ?_)
  · skip
    refine zTmif (fun _ => ?_) (fun _ => ?_)
    · skip
      refine zTmb (show zpc (fX12_say σ 161) (zTm 3 0 σ) from tm_say) (fun σ16 hσ16 => ?_)
      have eσ16 := e.kp hσ16
      refine zTmif (fun _ => ?_) (fun _ => ?_)
      · skip
        exact (show zpc (fX12_sayMore_164 σ16) (zTm k_fX12_sayMore_164 t_fX12_sayMore_164 σ16) from tm_fX12_sayMore_164 eσ16)
      · skip
        refine zTmb (show zpc (fX12_sayR σ16 x2) (zTm (k_fX12_sayR i l x2) (t_fX12_sayR i l x2) σ16) from tm_fX12_sayR eσ16) (fun σ17 hσ17 => ?_)
        have eσ17 := eσ16.kp hσ17
        refine zTmb (show zpc (fX12_say σ17 83) (zTm 1 0 σ17) from tm_say) (fun σ18 hσ18 => ?_)
        have eσ18 := eσ17.kp hσ18
        exact (show zpc (fX12_sayMore_164 σ18) (zTm k_fX12_sayMore_164 t_fX12_sayMore_164 σ18) from tm_fX12_sayMore_164 eσ18)
    · skip
      refine zTmif (fun _ => ?_) (fun _ => ?_)
      · skip
        refine zTmb (show zpc (fX12_say σ 163) (zTm 8 0 σ) from tm_say) (fun σ13 hσ13 => ?_)
        have eσ13 := e.kp hσ13
        refine zTmif (fun _ => ?_) (fun _ => ?_)
        · skip
          refine zTmb (show zpc (fX12_say σ13 164) (zTm 1 0 σ13) from tm_say) (fun σ15 hσ15 => ?_)
          have eσ15 := eσ13.kp hσ15
          exact (show zpc (fX12_sayMore_325 σ15) (zTm k_fX12_sayMore_325 t_fX12_sayMore_325 σ15) from tm_fX12_sayMore_325 eσ15)
        · skip
          refine zTmb (show zpc (fX12_sayR σ13 x2) (zTm (k_fX12_sayR i l x2) (t_fX12_sayR i l x2) σ13) from tm_fX12_sayR eσ13) (fun σ14 hσ14 => ?_)
          have eσ14 := eσ13.kp hσ14
          exact (show zpc (fX12_sayMore_325 σ14) (zTm k_fX12_sayMore_325 t_fX12_sayMore_325 σ14) from tm_fX12_sayMore_325 eσ14)
      · skip
        refine zTmif (fun _ => ?_) (fun _ => ?_)
        · skip
          refine zpc_ck ?_
          refine zpc_if (fun _ => ?_) (fun _ => ?_)
          · skip
            exact (show zpc (fX12_sayMore_231 σ x2 165) (zTm (k_fX12_sayMore_231 x2 7) (t_fX12_sayMore_231 x2 7) σ) from tm_fX12_sayMore_231 e)
          · skip
            exact (show zpc (fX12_sayMore_231 σ x2 166) (zTm (k_fX12_sayMore_231 x2 7) (t_fX12_sayMore_231 x2 7) σ) from tm_fX12_sayMore_231 e)
        · skip
          refine zTmif (fun _ => ?_) (fun _ => ?_)
          · skip
            refine zTmb (show zpc (fX12_say σ 111) (zTm 3 0 σ) from tm_say) (fun σ8 hσ8 => ?_)
            have eσ8 := e.kp hσ8
            refine zTmi (show zpc (fX12_takenWord σ8) (fun r => zTm 0 2 σ8 r.1) from tm_word) (fun σ9 v10 hσ9 => ?_)
            have eσ9 := eσ8.kp hσ9
            refine zpc_ck ?_
            refine zTmif (fun _ => ?_) (fun _ => ?_)
            · skip
              refine zTmb (show zpc (fX12_sayPlaced σ9 v10) (zTm k_fX12_sayPlaced t_fX12_sayPlaced σ9) from tm_fX12_sayPlaced eσ9) (fun σ12 hσ12 => ?_)
              have eσ12 := eσ9.kp hσ12
              exact (show zpc (fX12_sayMore_286 σ12 x2 v10) (zTm (k_fX12_sayMore_286 x2) (t_fX12_sayMore_286 x2) σ12) from tm_fX12_sayMore_286 eσ12)
            · skip
              refine zTmb (show zpc (fX12_sayRp σ9 (x2 >>> ((1 : Int32) &&& 31)) 0) (zTm (k_fX12_sayRp (x2 >>> ((1 : Int32) &&& (31 : Int32)))) (t_fX12_sayRp (x2 >>> ((1 : Int32) &&& (31 : Int32)))) σ9) from tm_fX12_sayRp eσ9) (fun σ11 hσ11 => ?_)
              have eσ11 := eσ9.kp hσ11
              exact (show zpc (fX12_sayMore_286 σ11 x2 v10) (zTm (k_fX12_sayMore_286 x2) (t_fX12_sayMore_286 x2) σ11) from tm_fX12_sayMore_286 eσ11)
          · skip
            refine zTmb (show zpc (fX12_sayOdd σ x2 x3) (zTm (k_fX12_sayOdd x2 x3) (t_fX12_sayOdd x2 x3) σ) from tm_fX12_sayOdd e) (fun σ7 hσ7 => ?_)
            have eσ7 := e.kp hσ7
            exact (show zpc (fX12_sayMore_325 σ7) (zTm k_fX12_sayMore_325 t_fX12_sayMore_325 σ7) from tm_fX12_sayMore_325 eσ7)
  · skip
    refine zTmb (show zpc (fX12_say σ 71) (zTm 3 0 σ) from tm_say) (fun σ19 hσ19 => ?_)
    have eσ19 := e.kp hσ19
    exact (show zpc (fX12_sayMore_325 σ19) (zTm k_fX12_sayMore_325 t_fX12_sayMore_325 σ19) from tm_fX12_sayMore_325 eσ19)
noncomputable def k_fX12_sayMore_101 (x2 : Int32) (n_s0 : Nat) : Nat := (n_s0 + (if x2 ≤ (5 : Int32) then k_fX12_sayMore_325 else (1 + k_fX12_sayMore_325)))
noncomputable def t_fX12_sayMore_101 (x2 : Int32) (n_s0 : Nat) : Nat := (0 + (if x2 ≤ (5 : Int32) then t_fX12_sayMore_325 else (0 + t_fX12_sayMore_325)))
theorem tm_fX12_sayMore_101 (e : zEm i l σ) {x2 : Int32} {s0 : Nat} : zpc (fX12_sayMore_101 σ x2 s0) (zTm (k_fX12_sayMore_101 x2 (zkL s0)) (t_fX12_sayMore_101 x2 (zkL s0)) σ) := by
  unfold fX12_sayMore_101 k_fX12_sayMore_101 t_fX12_sayMore_101
  refine zTmb (show zpc (fX12_say σ s0) (zTm (zkL s0) 0 σ) from tm_say) (fun σ20 hσ20 => ?_)
  have eσ20 := e.kp hσ20
  refine zTmif (fun _ => ?_) (fun _ => ?_)
  · skip
    exact (show zpc (fX12_sayMore_325 σ20) (zTm k_fX12_sayMore_325 t_fX12_sayMore_325 σ20) from tm_fX12_sayMore_325 eσ20)
  · skip
    refine zTmb (show zpc (fX12_say σ20 160) (zTm 1 0 σ20) from tm_say) (fun σ21 hσ21 => ?_)
    have eσ21 := eσ20.kp hσ21
    exact (show zpc (fX12_sayMore_325 σ21) (zTm k_fX12_sayMore_325 t_fX12_sayMore_325 σ21) from tm_fX12_sayMore_325 eσ21)
noncomputable def k_fX12_sayMore_82 (x2 : Int32) (n_s0 : Nat) : Nat := (n_s0 + (k_fX12_sayMore_101 x2 1))
noncomputable def t_fX12_sayMore_82 (x2 : Int32) (n_s0 : Nat) : Nat := (0 + (t_fX12_sayMore_101 x2 1))
theorem tm_fX12_sayMore_82 (e : zEm i l σ) {x2 : Int32} {s0 : Nat} : zpc (fX12_sayMore_82 σ x2 s0) (zTm (k_fX12_sayMore_82 x2 (zkL s0)) (t_fX12_sayMore_82 x2 (zkL s0)) σ) := by
  unfold fX12_sayMore_82 k_fX12_sayMore_82 t_fX12_sayMore_82
  refine zTmb (show zpc (fX12_say σ s0) (zTm (zkL s0) 0 σ) from tm_say) (fun σ22 hσ22 => ?_)
  have eσ22 := e.kp hσ22
  refine zpc_ck ?_
  refine zpc_if (fun _ => ?_) (fun _ => ?_)
  · skip
    exact (show zpc (fX12_sayMore_101 σ22 x2 159) (zTm (k_fX12_sayMore_101 x2 1) (t_fX12_sayMore_101 x2 1) σ22) from tm_fX12_sayMore_101 eσ22)
  · skip
    exact (show zpc (fX12_sayMore_101 σ22 x2 95) (zTm (k_fX12_sayMore_101 x2 1) (t_fX12_sayMore_101 x2 1) σ22) from tm_fX12_sayMore_101 eσ22)
noncomputable def k_fX12_sayMore (i : Int32) (l : Int32) (x1 : Int32) : Nat := (if (x1 >>> ((6 : Int32) &&& (31 : Int32))) = (2 : Int32) then (if ((x1 >>> ((3 : Int32) &&& (31 : Int32))) &&& (7 : Int32)) ≤ (3 : Int32) then (k_fX12_sayMore_119 i l ((x1 >>> ((3 : Int32) &&& (31 : Int32))) &&& (7 : Int32)) (x1 &&& (7 : Int32)) (x1 >>> ((6 : Int32) &&& (31 : Int32)))) else (if (4 : Int32) ≤ (x1 &&& (7 : Int32)) then (k_fX12_sayMore_119 i l ((x1 >>> ((3 : Int32) &&& (31 : Int32))) &&& (7 : Int32)) (x1 &&& (7 : Int32)) (x1 >>> ((6 : Int32) &&& (31 : Int32)))) else (if (x1 &&& (7 : Int32)) = (0 : Int32) then (k_fX12_sayMore_82 ((x1 >>> ((3 : Int32) &&& (31 : Int32))) &&& (7 : Int32)) 2) else (if (x1 &&& (7 : Int32)) = (1 : Int32) then (k_fX12_sayMore_82 ((x1 >>> ((3 : Int32) &&& (31 : Int32))) &&& (7 : Int32)) 2) else (if (x1 &&& (7 : Int32)) = (2 : Int32) then (k_fX12_sayMore_82 ((x1 >>> ((3 : Int32) &&& (31 : Int32))) &&& (7 : Int32)) 2) else (if (6 : Int32) ≤ ((x1 >>> ((3 : Int32) &&& (31 : Int32))) &&& (7 : Int32)) then (k_fX12_sayMore_82 ((x1 >>> ((3 : Int32) &&& (31 : Int32))) &&& (7 : Int32)) 2) else (k_fX12_sayMore_82 ((x1 >>> ((3 : Int32) &&& (31 : Int32))) &&& (7 : Int32)) 3))))))) else (k_fX12_sayMore_119 i l ((x1 >>> ((3 : Int32) &&& (31 : Int32))) &&& (7 : Int32)) (x1 &&& (7 : Int32)) (x1 >>> ((6 : Int32) &&& (31 : Int32)))))
noncomputable def t_fX12_sayMore (i : Int32) (l : Int32) (x1 : Int32) : Nat := (if (x1 >>> ((6 : Int32) &&& (31 : Int32))) = (2 : Int32) then (if ((x1 >>> ((3 : Int32) &&& (31 : Int32))) &&& (7 : Int32)) ≤ (3 : Int32) then (t_fX12_sayMore_119 i l ((x1 >>> ((3 : Int32) &&& (31 : Int32))) &&& (7 : Int32)) (x1 &&& (7 : Int32)) (x1 >>> ((6 : Int32) &&& (31 : Int32)))) else (if (4 : Int32) ≤ (x1 &&& (7 : Int32)) then (t_fX12_sayMore_119 i l ((x1 >>> ((3 : Int32) &&& (31 : Int32))) &&& (7 : Int32)) (x1 &&& (7 : Int32)) (x1 >>> ((6 : Int32) &&& (31 : Int32)))) else (if (x1 &&& (7 : Int32)) = (0 : Int32) then (t_fX12_sayMore_82 ((x1 >>> ((3 : Int32) &&& (31 : Int32))) &&& (7 : Int32)) 2) else (if (x1 &&& (7 : Int32)) = (1 : Int32) then (t_fX12_sayMore_82 ((x1 >>> ((3 : Int32) &&& (31 : Int32))) &&& (7 : Int32)) 2) else (if (x1 &&& (7 : Int32)) = (2 : Int32) then (t_fX12_sayMore_82 ((x1 >>> ((3 : Int32) &&& (31 : Int32))) &&& (7 : Int32)) 2) else (if (6 : Int32) ≤ ((x1 >>> ((3 : Int32) &&& (31 : Int32))) &&& (7 : Int32)) then (t_fX12_sayMore_82 ((x1 >>> ((3 : Int32) &&& (31 : Int32))) &&& (7 : Int32)) 2) else (t_fX12_sayMore_82 ((x1 >>> ((3 : Int32) &&& (31 : Int32))) &&& (7 : Int32)) 3))))))) else (t_fX12_sayMore_119 i l ((x1 >>> ((3 : Int32) &&& (31 : Int32))) &&& (7 : Int32)) (x1 &&& (7 : Int32)) (x1 >>> ((6 : Int32) &&& (31 : Int32)))))
theorem tm_fX12_sayMore (e : zEm i l σ) {x1 : Int32} : zpc (fX12_sayMore σ x1) (zTm (k_fX12_sayMore i l x1) (t_fX12_sayMore i l x1) σ) := by
  unfold fX12_sayMore k_fX12_sayMore t_fX12_sayMore
  refine zpc_bv (fun v23 ev23 => ?_)
  subst ev23
  refine zpc_bv (fun v24 ev24 => ?_)
  subst ev24
  refine zpc_bv (fun v25 ev25 => ?_)
  subst ev25
  refine zTmif (fun _ => ?_) (fun _ => ?_)
  · skip
    refine zTmif (fun _ => ?_) (fun _ => ?_)
    · skip
      exact (show zpc (fX12_sayMore_119 σ ((x1 >>> ((3 : Int32) &&& 31)) &&& 7) (x1 &&& 7) (x1 >>> ((6 : Int32) &&& 31))) (zTm (k_fX12_sayMore_119 i l ((x1 >>> ((3 : Int32) &&& (31 : Int32))) &&& (7 : Int32)) (x1 &&& (7 : Int32)) (x1 >>> ((6 : Int32) &&& (31 : Int32)))) (t_fX12_sayMore_119 i l ((x1 >>> ((3 : Int32) &&& (31 : Int32))) &&& (7 : Int32)) (x1 &&& (7 : Int32)) (x1 >>> ((6 : Int32) &&& (31 : Int32)))) σ) from tm_fX12_sayMore_119 e)
    · skip
      refine zTmif (fun _ => ?_) (fun _ => ?_)
      · skip
        exact (show zpc (fX12_sayMore_119 σ ((x1 >>> ((3 : Int32) &&& 31)) &&& 7) (x1 &&& 7) (x1 >>> ((6 : Int32) &&& 31))) (zTm (k_fX12_sayMore_119 i l ((x1 >>> ((3 : Int32) &&& (31 : Int32))) &&& (7 : Int32)) (x1 &&& (7 : Int32)) (x1 >>> ((6 : Int32) &&& (31 : Int32)))) (t_fX12_sayMore_119 i l ((x1 >>> ((3 : Int32) &&& (31 : Int32))) &&& (7 : Int32)) (x1 &&& (7 : Int32)) (x1 >>> ((6 : Int32) &&& (31 : Int32)))) σ) from tm_fX12_sayMore_119 e)
      · skip
        refine zTmif (fun _ => ?_) (fun _ => ?_)
        · skip
          exact (show zpc (fX12_sayMore_82 σ ((x1 >>> ((3 : Int32) &&& 31)) &&& 7) 154) (zTm (k_fX12_sayMore_82 ((x1 >>> ((3 : Int32) &&& (31 : Int32))) &&& (7 : Int32)) 2) (t_fX12_sayMore_82 ((x1 >>> ((3 : Int32) &&& (31 : Int32))) &&& (7 : Int32)) 2) σ) from tm_fX12_sayMore_82 e)
        · skip
          refine zTmif (fun _ => ?_) (fun _ => ?_)
          · skip
            exact (show zpc (fX12_sayMore_82 σ ((x1 >>> ((3 : Int32) &&& 31)) &&& 7) 155) (zTm (k_fX12_sayMore_82 ((x1 >>> ((3 : Int32) &&& (31 : Int32))) &&& (7 : Int32)) 2) (t_fX12_sayMore_82 ((x1 >>> ((3 : Int32) &&& (31 : Int32))) &&& (7 : Int32)) 2) σ) from tm_fX12_sayMore_82 e)
          · skip
            refine zTmif (fun _ => ?_) (fun _ => ?_)
            · skip
              exact (show zpc (fX12_sayMore_82 σ ((x1 >>> ((3 : Int32) &&& 31)) &&& 7) 156) (zTm (k_fX12_sayMore_82 ((x1 >>> ((3 : Int32) &&& (31 : Int32))) &&& (7 : Int32)) 2) (t_fX12_sayMore_82 ((x1 >>> ((3 : Int32) &&& (31 : Int32))) &&& (7 : Int32)) 2) σ) from tm_fX12_sayMore_82 e)
            · skip
              refine zTmif (fun _ => ?_) (fun _ => ?_)
              · skip
                exact (show zpc (fX12_sayMore_82 σ ((x1 >>> ((3 : Int32) &&& 31)) &&& 7) 158) (zTm (k_fX12_sayMore_82 ((x1 >>> ((3 : Int32) &&& (31 : Int32))) &&& (7 : Int32)) 2) (t_fX12_sayMore_82 ((x1 >>> ((3 : Int32) &&& (31 : Int32))) &&& (7 : Int32)) 2) σ) from tm_fX12_sayMore_82 e)
              · skip
                exact (show zpc (fX12_sayMore_82 σ ((x1 >>> ((3 : Int32) &&& 31)) &&& 7) 157) (zTm (k_fX12_sayMore_82 ((x1 >>> ((3 : Int32) &&& (31 : Int32))) &&& (7 : Int32)) 3) (t_fX12_sayMore_82 ((x1 >>> ((3 : Int32) &&& (31 : Int32))) &&& (7 : Int32)) 3) σ) from tm_fX12_sayMore_82 e)
  · skip
    exact (show zpc (fX12_sayMore_119 σ ((x1 >>> ((3 : Int32) &&& 31)) &&& 7) (x1 &&& 7) (x1 >>> ((6 : Int32) &&& 31))) (zTm (k_fX12_sayMore_119 i l ((x1 >>> ((3 : Int32) &&& (31 : Int32))) &&& (7 : Int32)) (x1 &&& (7 : Int32)) (x1 >>> ((6 : Int32) &&& (31 : Int32)))) (t_fX12_sayMore_119 i l ((x1 >>> ((3 : Int32) &&& (31 : Int32))) &&& (7 : Int32)) (x1 &&& (7 : Int32)) (x1 >>> ((6 : Int32) &&& (31 : Int32)))) σ) from tm_fX12_sayMore_119 e)
end ZTF
end ZJN3
section ZJN4
/-! TELL OF BOTH -/
theorem zpKif {α : Type} {σ : zSt} {q : Prop} {d1 d2 : Decidable q} {A B : Option (zSt × α)} {a b : α} (h1 : q → zpc A (fun r => r = (σ, a))) (h2 : ¬ q → zpc B (fun r => r = (σ, b))) : zpc (@ite _ q d1 A B) (fun r => r = (σ, @ite _ q d2 a b)) := by
  by_cases z : q
  · rw [if_pos z, if_pos z]; exact h1 z
  · rw [if_neg z, if_neg z]; exact h2 z
theorem zpc_self {α : Type} {o : Option α} : zpc o (fun r => o = some r) := fun r e => e
theorem zrem_1 (y : Int32) : zrem y 1 = 0 := by
  unfold zrem
  rw [Int32.div_one, Int32.mul_one, Int32.sub_self]
/-! which pattern -/
noncomputable def zN1 (z : Int32) : Nat := if z = 0 then 25 else if z = 1 then 26 else if z = 2 then 27 else if z = 3 then 28 else if z = 4 then 29 else if z = 5 then 30 else if z = 6 then 31 else 32
noncomputable def zN4 (z : Int32) : Nat := if z = 0 then 36 else if z = 1 then 37 else if z = 2 then 38 else if z = 3 then 39 else if z = 4 then 40 else if z = 5 then 41 else if z = 6 then 42 else 43
noncomputable def zNt (x : Int32) : Nat := if x = 0 then 6 else if x = 1 then 7 else if x = 2 then 8 else 9
noncomputable def zNb1 (s : Int32) : Nat := if s = 0 then 10 else if s = 1 then 11 else if s = 2 then 12 else if s = 3 then 13 else 0
noncomputable def zNb (y z : Int32) : Nat := if 4 ≤ y then zNb1 z else zNb1 7
noncomputable def zNeq (x y z : Int32) : Nat := if x = 1 then (if z = 0 then (if y = 6 then 14 else 15) else if z = 1 then (if y = 6 then 16 else 17) else if z = 2 then 18 else if z = 3 then 19 else if z = 4 then 20 else if z = 5 then (if y = 1 then 21 else 22) else if z = 6 then 23 else 24) else 0
noncomputable def zNo (v : Int32) : Nat := if (v >>> ((6 : Int32) &&& 31)) = 0 then zN1 (v &&& 7) else if (v >>> ((6 : Int32) &&& 31)) = 1 then (if v = 118 then 33 else 34) else if (v >>> ((6 : Int32) &&& 31)) = 2 then 35 else zN4 (v &&& 7)
section ZT3
variable {σ μ s t : zSt} {v x y z p b : Int32}
theorem tc_first : zpc (fX8_firstPatterns σ ) (fun r => r = (σ, zN1 (zgi σ 10 7))) := by
  unfold fX8_firstPatterns zN1
  exact zpKif (fun _ => zpc_some rfl) (fun _ => zpKif (fun _ => zpc_some rfl) (fun _ => zpKif (fun _ => zpc_some rfl) (fun _ => zpKif (fun _ => zpc_some rfl) (fun _ => zpKif (fun _ => zpc_some rfl) (fun _ => zpKif (fun _ => zpc_some rfl) (fun _ => zpKif (fun _ => zpc_some rfl) (fun _ => zpc_some rfl)))))))
theorem tc_last : zpc (fX8_lastPatterns σ ) (fun r => r = (σ, zN4 (zgi σ 10 7))) := by
  unfold fX8_lastPatterns zN4
  exact zpKif (fun _ => zpc_some rfl) (fun _ => zpKif (fun _ => zpc_some rfl) (fun _ => zpKif (fun _ => zpc_some rfl) (fun _ => zpKif (fun _ => zpc_some rfl) (fun _ => zpKif (fun _ => zpc_some rfl) (fun _ => zpKif (fun _ => zpc_some rfl) (fun _ => zpKif (fun _ => zpc_some rfl) (fun _ => zpc_some rfl)))))))
theorem tc_turn : zpc (fX8_turnPatterns σ ) (fun r => r = (σ, zNt (zgi σ 10 5))) := by
  unfold fX8_turnPatterns zNt
  exact zpKif (fun _ => zpc_some rfl) (fun _ => zpKif (fun _ => zpc_some rfl) (fun _ => zpKif (fun _ => zpc_some rfl) (fun _ => zpc_some rfl)))
theorem tc_block : zpc (fX8_blockPatterns σ ) (fun r => r = (σ, zNb (zgi σ 10 6) (zgi σ 10 7))) := by
  have go : ∀ w, zpc (fX8_blockPatterns_17 σ w) (fun r => r = (σ, zNb1 w)) := fun w => by
    unfold fX8_blockPatterns_17 zNb1
    exact zpKif (fun _ => zpc_some rfl) (fun _ => zpKif (fun _ => zpc_some rfl) (fun _ => zpKif (fun _ => zpc_some rfl) (fun _ => zpKif (fun _ => zpc_some rfl) (fun _ => zpc_some rfl))))
  unfold fX8_blockPatterns zNb
  exact zpKif (fun _ => go _) (fun _ => go _)
theorem tc_more : zpc (fX8_morePatterns σ ) (fun r => r = (σ, zNeq (zgi σ 10 5) (zgi σ 10 6) (zgi σ 10 7))) := by
  unfold fX8_morePatterns fX8_morePatterns_114 fX8_morePatterns_89 fX8_morePatterns_72 zNeq
  exact zpKif (fun _ => zpKif (fun _ => zpKif (fun _ => zpc_some rfl) (fun _ => zpc_some rfl)) (fun _ => zpKif (fun _ => zpKif (fun _ => zpc_some rfl) (fun _ => zpc_some rfl)) (fun _ => zpKif (fun _ => zpc_some rfl) (fun _ => zpKif (fun _ => zpc_some rfl) (fun _ => zpKif (fun _ => zpc_some rfl) (fun _ => zpKif (fun _ => zpKif (fun _ => zpc_some rfl) (fun _ => zpc_some rfl)) (fun _ => zpKif (fun _ => zpc_some rfl) (fun _ => zpc_some rfl)))))))) (fun _ => zpc_some rfl)
/-- an op parted -/
noncomputable def zSpq (σ : zSt) (v : Int32) : zSt := zsi (zsi (zsi σ 10 5 (v >>> ((6 : Int32) &&& 31))) 10 6 ((v >>> ((3 : Int32) &&& 31)) &&& 7)) 10 7 (v &&& 7)
theorem tc_split : zpc (fX8_split σ v) (fun r => r = zSpq σ v) := by
  unfold fX8_split
  exact zpc_bv (fun s1 e1 => zpc_bv (fun s2 e2 => zpc_bv (fun s3 e3 => zpc_some (by rw [e3, e2, e1]; rfl))))
theorem zSpq_e : zEc (v >>> ((6 : Int32) &&& 31)) ((v >>> ((3 : Int32) &&& 31)) &&& 7) (v &&& 7) (σ.1 10 8) (σ.1 10 9) (zSpq σ v) := ⟨rfl, rfl, rfl, rfl, rfl⟩
/-- one byte taken, exactly -/
theorem tc_takeE : zpc (fX8_take σ ) (fun r => r.1 = zsi σ 10 4 (σ.1 10 4 + 1) ∧ fX2_read σ (σ.1 10 3 + σ.1 10 4) = some (σ, r.2)) := by
  unfold fX8_take
  refine zpc_bi (P := fun r => zQ [] [] [] [] σ r.1 ∧ fX2_read σ (σ.1 10 3 + σ.1 10 4) = some r) (zpc_and (fi_fX2_read (σ0 := σ) zQ.rf) zpc_self) (fun s1 v e => zpc_bv (fun s2 e2 => zpc_some ?_))
  have e1 : s1 = σ := zQ_eq e.1
  rw [e1] at e2
  refine ⟨e2, ?_⟩
  have e3 := e.2
  rw [e1] at e3
  exact e3
/-- what is told of an op: signs, bytes -/
noncomputable def zSumq (k c : Nat) (r : zSt × Int32) : Prop := c ≤ 100 → zTln k 0 (r.1.1 10 2).toInt ∧ r.2.toInt = (c : Int)
theorem tc_fin {n m : Nat} (he : zEc x y z p b s) (e2 : s.1 10 2 = 0) (e4 : (s.1 10 4).toInt = (m : Int)) (hm : m ≤ 10) : zpc (zbu (fX8_put s n) (fun σ4 => some (σ4, zgi σ4 10 4))) (zSumq (zPkq n x y z p b) (m + zPc n x y z p b)) := by
  refine zpc_bu (tc_put he) (fun s2 h2 => zpc_some (fun hc => ?_))
  obtain ⟨u1, u2⟩ := h2.2 (by rw [e2]; exact zr_c (by decide)) (by rw [e4]; omega) (by rw [e4]; omega)
  rw [e2] at u1
  rw [e4] at u2
  refine ⟨u1, ?_⟩
  show (s2.1 10 4).toInt = _
  rw [u2]
  omega
/-- an op without CB, ED -/
theorem tc_plain {m : Nat} (h1 : ¬ v = 203) (h2 : ¬ v = 237) (ep : σ.1 10 8 = p) (eb : σ.1 10 9 = b) (e2 : σ.1 10 2 = 0) (e4 : (σ.1 10 4).toInt = (m : Int)) (hm : m ≤ 10) : zpc (fX8_write_124 σ v) (zSumq (zPkq (zNo v) (v >>> ((6 : Int32) &&& 31)) ((v >>> ((3 : Int32) &&& 31)) &&& 7) (v &&& 7) p b) (m + zPc (zNo v) (v >>> ((6 : Int32) &&& 31)) ((v >>> ((3 : Int32) &&& 31)) &&& 7) (v &&& 7) p b)) := by
  unfold fX8_write_124
  refine zpc_bk (P := fun r => r = (zSpq σ v, zNo v)) ?_ (fun s n e => ?_)
  · unfold fX8_patternsOf fX8_patternsOf_126 zNo
    refine zpc_if (fun q => absurd q h1) (fun _ => zpc_if (fun q => absurd q h2) (fun _ => zpc_bu tc_split (fun s1 e1 => ?_)))
    subst e1
    rw [show zgi (zSpq σ v) 10 5 = (v >>> ((6 : Int32) &&& 31)) from rfl]
    refine zpKif (fun _ => zpc_bk tc_first (fun s2 n2 q => zpc_some ?_)) (fun _ => zpKif (fun _ => zpKif (fun _ => zpc_some rfl) (fun _ => zpc_some rfl)) (fun _ => zpKif (fun _ => zpc_some rfl) (fun _ => zpc_bk tc_last (fun s2 n2 q => zpc_some ?_))))
    · exact q.trans rfl
    · exact q.trans rfl
  cases e
  have he := zSpq_e (σ := σ) (v := v)
  rw [ep, eb] at he
  exact tc_fin he e2 e4 hm
/-- behind CB -/
theorem tc_23 {m : Nat} {d : Int32} (ep : σ.1 10 8 = p) (eb : σ.1 10 9 = b) (e2 : σ.1 10 2 = 0) (e4 : (σ.1 10 4 + 1).toInt = (m : Int)) (hm : m ≤ 10) : zpc (zbk (fX8_patternsOf_23 σ d) (fun σ2 v3 => zbu (fX8_put σ2 v3) (fun σ4 => some (σ4, zgi σ4 10 4)))) (fun r => ∃ s1 v, zQ [10] [] [] [] σ s1 ∧ fX2_read s1 (σ.1 10 3 + σ.1 10 4) = some (s1, v) ∧ zSumq (zPkq (zNt (v >>> ((6 : Int32) &&& 31))) (v >>> ((6 : Int32) &&& 31)) ((v >>> ((3 : Int32) &&& 31)) &&& 7) (v &&& 7) p b) (m + zPc (zNt (v >>> ((6 : Int32) &&& 31))) (v >>> ((6 : Int32) &&& 31)) ((v >>> ((3 : Int32) &&& 31)) &&& 7) (v &&& 7) p b) r) := by
  unfold fX8_patternsOf_23
  refine zpc_bk (P := fun r => ∃ v, fX2_read (zsi σ 10 10 d) (σ.1 10 3 + σ.1 10 4) = some (zsi σ 10 10 d, v) ∧ r = (zSpq (zsi (zsi σ 10 10 d) 10 4 (σ.1 10 4 + 1)) v, zNt (v >>> ((6 : Int32) &&& 31)))) ?_ (fun s n e => ?_)
  · refine zpc_bv (fun s1 e1 => zpc_bi (tc_takeE (σ := s1)) (fun s2 v3 q => zpc_bu tc_split (fun s4 e4 => zpc_bk tc_turn (fun s5 n6 e5 => zpc_some ?_))))
    subst e1
    obtain ⟨q1, q2⟩ := q
    have q1 : s2 = zsi (zsi σ 10 10 d) 10 4 (σ.1 10 4 + 1) := q1
    refine ⟨v3, q2, ?_⟩
    rw [e5, e4, q1]
    rfl
  · obtain ⟨v, f, e⟩ := e
    cases e
    have he := zSpq_e (σ := zsi (zsi σ 10 10 d) 10 4 (σ.1 10 4 + 1)) (v := v)
    rw [show (zsi (zsi σ 10 10 d) 10 4 (σ.1 10 4 + 1)).1 10 8 = p from ep, show (zsi (zsi σ 10 10 d) 10 4 (σ.1 10 4 + 1)).1 10 9 = b from eb] at he
    refine zpc_mono (tc_fin he e2 ?_ hm) (fun r g => ⟨zsi σ 10 10 d, v, zQ.wi zQ.rf rfl, f, g⟩)
    show ((zsi (zsi σ 10 10 d) 10 4 (σ.1 10 4 + 1)).1 10 4).toInt = _
    rw [zsi_ej]
    exact e4
/-- behind ED -/
theorem tc_ed {m : Nat} (ep : σ.1 10 8 = p) (eb : σ.1 10 9 = b) (e2 : σ.1 10 2 = 0) (e4 : (σ.1 10 4 + 1).toInt = (m : Int)) (hm : m ≤ 10) : zpc (fX8_write_124 σ 237) (fun r => ∃ v, fX2_read σ (σ.1 10 3 + σ.1 10 4) = some (σ, v) ∧ zSumq (zPkq (if (v >>> ((6 : Int32) &&& 31)) = 2 then zNb ((v >>> ((3 : Int32) &&& 31)) &&& 7) (v &&& 7) else zNeq (v >>> ((6 : Int32) &&& 31)) ((v >>> ((3 : Int32) &&& 31)) &&& 7) (v &&& 7)) (v >>> ((6 : Int32) &&& 31)) ((v >>> ((3 : Int32) &&& 31)) &&& 7) (v &&& 7) p b) (m + zPc (if (v >>> ((6 : Int32) &&& 31)) = 2 then zNb ((v >>> ((3 : Int32) &&& 31)) &&& 7) (v &&& 7) else zNeq (v >>> ((6 : Int32) &&& 31)) ((v >>> ((3 : Int32) &&& 31)) &&& 7) (v &&& 7)) (v >>> ((6 : Int32) &&& 31)) ((v >>> ((3 : Int32) &&& 31)) &&& 7) (v &&& 7) p b) r) := by
  unfold fX8_write_124
  refine zpc_bk (P := fun r => ∃ v, fX2_read σ (σ.1 10 3 + σ.1 10 4) = some (σ, v) ∧ r = (zSpq (zsi σ 10 4 (σ.1 10 4 + 1)) v, if (v >>> ((6 : Int32) &&& 31)) = 2 then zNb ((v >>> ((3 : Int32) &&& 31)) &&& 7) (v &&& 7) else zNeq (v >>> ((6 : Int32) &&& 31)) ((v >>> ((3 : Int32) &&& 31)) &&& 7) (v &&& 7))) ?_ (fun s n e => ?_)
  · unfold fX8_patternsOf fX8_patternsOf_73
    refine zpc_if (fun q => absurd q (by decide)) (fun _ => zpc_if (fun _ => ?_) (fun q => absurd rfl q))
    refine zpc_bi tc_takeE (fun s2 v3 q => zpc_bu tc_split (fun s4 e4 => ?_))
    obtain ⟨q1, q2⟩ := q
    have q1 : s2 = zsi σ 10 4 (σ.1 10 4 + 1) := q1
    subst e4
    subst q1
    refine zpc_mono (Q := fun r => ∃ v, fX2_read σ (σ.1 10 3 + σ.1 10 4) = some (σ, v) ∧ r = (zSpq (zsi σ 10 4 (σ.1 10 4 + 1)) v, if (v >>> ((6 : Int32) &&& 31)) = 2 then zNb ((v >>> ((3 : Int32) &&& 31)) &&& 7) (v &&& 7) else zNeq (v >>> ((6 : Int32) &&& 31)) ((v >>> ((3 : Int32) &&& 31)) &&& 7) (v &&& 7))) (P := fun r => r = (zSpq (zsi σ 10 4 (σ.1 10 4 + 1)) v3, if (v3 >>> ((6 : Int32) &&& 31)) = 2 then zNb ((v3 >>> ((3 : Int32) &&& 31)) &&& 7) (v3 &&& 7) else zNeq (v3 >>> ((6 : Int32) &&& 31)) ((v3 >>> ((3 : Int32) &&& 31)) &&& 7) (v3 &&& 7))) ?_ (fun r g => ⟨v3, q2, g⟩)
    rw [show zgi (zSpq (zsi σ 10 4 (σ.1 10 4 + 1)) v3) 10 5 = (v3 >>> ((6 : Int32) &&& 31)) from rfl]
    refine zpKif (fun _ => zpc_bk tc_block (fun s5 n6 g => zpc_some ?_)) (fun _ => zpc_bk tc_more (fun s5 n6 g => zpc_some ?_))
    · exact g.trans rfl
    · exact g.trans rfl
  · obtain ⟨v, f, e⟩ := e
    cases e
    have he := zSpq_e (σ := zsi σ 10 4 (σ.1 10 4 + 1)) (v := v)
    rw [show (zsi σ 10 4 (σ.1 10 4 + 1)).1 10 8 = p from ep, show (zsi σ 10 4 (σ.1 10 4 + 1)).1 10 9 = b from eb] at he
    refine zpc_mono (tc_fin he e2 ?_ hm) (fun r g => ⟨v, f, g⟩)
    show ((zsi σ 10 4 (σ.1 10 4 + 1)).1 10 4).toInt = _
    rw [zsi_ej]
    exact e4
/-- does M come in -/
noncomputable def zMp9 (v a r : Int32) : Int32 := if (v >>> ((6 : Int32) &&& 31)) = 0 then (if a = 0 then 0 else if (v &&& 7) < 4 then 0 else if 6 < (v &&& 7) then 0 else 1) else if (v >>> ((6 : Int32) &&& 31)) = 1 then (if a = r then 0 else 1) else if (v >>> ((6 : Int32) &&& 31)) = 2 then r else 0
noncomputable def zMp4 (v a : Int32) : Int32 := if (v &&& 7) = 6 then zMp9 v a 1 else zMp9 v a 0
noncomputable def zMp (v : Int32) : Int32 := if (v &&& 56) = 48 then zMp4 v 1 else zMp4 v 0
theorem tc_mp : zpc (fX5_meansPlace σ v) (fun r => r = (σ, zMp v)) := by
  have g9 : ∀ a r, zpc (fX5_meansPlace_29 σ v a r) (fun q => q = (σ, zMp9 v a r)) := fun a r => by
    unfold fX5_meansPlace_29 fX5_meansPlace_97 fX5_meansPlace_85 fX5_meansPlace_86 zMp9
    exact zpKif (fun _ => zpKif (fun _ => zpc_ck (zpc_some rfl)) (fun _ => zpKif (fun _ => zpc_ck (zpc_some rfl)) (fun _ => zpKif (fun _ => zpc_ck (zpc_some rfl)) (fun _ => zpc_ck (zpc_some rfl))))) (fun _ => zpKif (fun _ => zpKif (fun _ => zpc_ck (zpc_some rfl)) (fun _ => zpc_ck (zpc_some rfl))) (fun _ => zpKif (fun _ => zpc_ck (zpc_some rfl)) (fun _ => zpc_ck (zpc_some rfl))))
  have g4 : ∀ a, zpc (fX5_meansPlace_14 σ v a) (fun q => q = (σ, zMp4 v a)) := fun a => by
    unfold fX5_meansPlace_14 zMp4
    exact zpKif (fun _ => g9 a 1) (fun _ => g9 a 0)
  unfold fX5_meansPlace zMp
  exact zpKif (fun _ => g4 1) (fun _ => g4 0)
/-- 'nop' for a prefix that means nothing -/
theorem tc_82 {m : Nat} (e2 : σ.1 10 2 = 0) (e4 : (σ.1 10 4).toInt = (m : Int)) (hm : m ≤ 10) : zpc (fX8_write_82 σ ) (zSumq 3 (m + 0)) := by
  unfold fX8_write_82
  have h := tc_fin (s := σ) (n := 0) (x := σ.1 10 5) (y := σ.1 10 6) (z := σ.1 10 7) (p := σ.1 10 8) (b := σ.1 10 9) ⟨rfl, rfl, rfl, rfl, rfl⟩ e2 e4 hm
  have k1 : zPkq 0 (σ.1 10 5) (σ.1 10 6) (σ.1 10 7) (σ.1 10 8) (σ.1 10 9) = 3 := by
    unfold zPkq
    rw [show zPt 0 (zkL 0) 0 1 = 1 by decide +kernel, zrem_1]
    rfl
  have k2 : zPc 0 (σ.1 10 5) (σ.1 10 6) (σ.1 10 7) (σ.1 10 8) (σ.1 10 9) = 0 := by
    unfold zPc
    rw [show zPt 0 (zkL 0) 0 1 = 1 by decide +kernel, zrem_1]
    rfl
  rw [k1, k2] at h
  exact h
end ZT3
end ZJN4
section ZJN5
/-! TELL OF BOTH: JOINED -/
theorem zbk_bi {α : Type} {o : Option (zSt × Int32)} {g : zSt → Int32 → Option (zSt × Nat)} {F : zSt → Nat → Option α} : zbk (zbi o g) F = zbi o (fun s v => zbk (g s v) F) := by cases o <;> rfl
noncomputable def zW3 (A p0 : Int32) (σ : zSt) (r : zSt × Int32) : Prop := ∃ s2 w, zQ [10] [] [] [] σ s2 ∧ fX2_read s2 (A + (0 + 1)) = some (s2, w) ∧ ((¬ w = 203 ∧ ¬ w = 237 ∧ zSumq (zPkq (zNo w) (w >>> ((6 : Int32) &&& 31)) ((w >>> ((3 : Int32) &&& 31)) &&& 7) (w &&& 7) p0 (zMp w)) (2 + (zPc (zNo w) (w >>> ((6 : Int32) &&& 31)) ((w >>> ((3 : Int32) &&& 31)) &&& 7) (w &&& 7) p0 (zMp w))) r) ∨ (w = 203 ∧ ∃ s3 u, zQ [10] [] [] [] σ s3 ∧ fX2_read s3 (A + ((0 + 1 + 1) + 1)) = some (s3, u) ∧ zSumq (zPkq (zNt (u >>> ((6 : Int32) &&& 31))) (u >>> ((6 : Int32) &&& 31)) ((u >>> ((3 : Int32) &&& 31)) &&& 7) (u &&& 7) p0 0) (4 + (zPc (zNt (u >>> ((6 : Int32) &&& 31))) (u >>> ((6 : Int32) &&& 31)) ((u >>> ((3 : Int32) &&& 31)) &&& 7) (u &&& 7) p0 0)) r) ∨ w = 237)
noncomputable def zW2 (A v0 : Int32) (σ : zSt) (r : zSt × Int32) : Prop := (¬ v0 = 221 ∧ ¬ v0 = 253 ∧ ¬ v0 = 203 ∧ ¬ v0 = 237 ∧ zSumq (zPkq (zNo v0) (v0 >>> ((6 : Int32) &&& 31)) ((v0 >>> ((3 : Int32) &&& 31)) &&& 7) (v0 &&& 7) 0 0) (1 + (zPc (zNo v0) (v0 >>> ((6 : Int32) &&& 31)) ((v0 >>> ((3 : Int32) &&& 31)) &&& 7) (v0 &&& 7) 0 0)) r) ∨ (v0 = 203 ∧ ∃ s1 v, zQ [10] [] [] [] σ s1 ∧ fX2_read s1 (A + (0 + 1)) = some (s1, v) ∧ zSumq (zPkq (zNt (v >>> ((6 : Int32) &&& 31))) (v >>> ((6 : Int32) &&& 31)) ((v >>> ((3 : Int32) &&& 31)) &&& 7) (v &&& 7) 0 0) (2 + (zPc (zNt (v >>> ((6 : Int32) &&& 31))) (v >>> ((6 : Int32) &&& 31)) ((v >>> ((3 : Int32) &&& 31)) &&& 7) (v &&& 7) 0 0)) r) ∨ (v0 = 237 ∧ ∃ s1 v, zQ [10] [] [] [] σ s1 ∧ fX2_read s1 (A + (0 + 1)) = some (s1, v) ∧ zSumq (zPkq (if (v >>> ((6 : Int32) &&& 31)) = 2 then zNb ((v >>> ((3 : Int32) &&& 31)) &&& 7) (v &&& 7) else zNeq (v >>> ((6 : Int32) &&& 31)) ((v >>> ((3 : Int32) &&& 31)) &&& 7) (v &&& 7)) (v >>> ((6 : Int32) &&& 31)) ((v >>> ((3 : Int32) &&& 31)) &&& 7) (v &&& 7) 0 0) (2 + (zPc (if (v >>> ((6 : Int32) &&& 31)) = 2 then zNb ((v >>> ((3 : Int32) &&& 31)) &&& 7) (v &&& 7) else zNeq (v >>> ((6 : Int32) &&& 31)) ((v >>> ((3 : Int32) &&& 31)) &&& 7) (v &&& 7)) (v >>> ((6 : Int32) &&& 31)) ((v >>> ((3 : Int32) &&& 31)) &&& 7) (v &&& 7) 0 0)) r) ∨ (∃ p0, ((v0 = 221 ∧ p0 = 120) ∨ (v0 = 253 ∧ p0 = 121)) ∧ ∃ s1 v, zQ [10] [] [] [] σ s1 ∧ fX2_read s1 (A + 1) = some (s1, v) ∧ (((v = 221 ∨ v = 237 ∨ v = 253) ∧ zSumq 3 (1 + 0) r) ∨ (¬ v = 221 ∧ ¬ v = 237 ∧ ¬ v = 253 ∧ zW3 A p0 σ r)))
section ZT4
variable {σ σ0 μ s t : zSt} {v x A p0 : Int32}
theorem tc_cb0 {m : Nat} (ep : σ.1 10 8 = 0) (eb : σ.1 10 9 = 0) (e2 : σ.1 10 2 = 0) (e4 : (σ.1 10 4 + 1).toInt = (m : Int)) (hm : m ≤ 10) : zpc (fX8_write_124 σ 203) (fun r => ∃ s1 v, zQ [10] [] [] [] σ s1 ∧ fX2_read s1 (σ.1 10 3 + σ.1 10 4) = some (s1, v) ∧ zSumq (zPkq (zNt (v >>> ((6 : Int32) &&& 31))) (v >>> ((6 : Int32) &&& 31)) ((v >>> ((3 : Int32) &&& 31)) &&& 7) (v &&& 7) 0 0) (m + (zPc (zNt (v >>> ((6 : Int32) &&& 31))) (v >>> ((6 : Int32) &&& 31)) ((v >>> ((3 : Int32) &&& 31)) &&& 7) (v &&& 7) 0 0)) r) := by
  unfold fX8_write_124 fX8_patternsOf
  rw [if_pos rfl, if_pos (show zgi σ 10 8 = 0 from ep)]
  exact tc_23 ep eb e2 e4 hm
theorem tc_cbp {m : Nat} (hp : ¬ p0 = 0) (ep : σ.1 10 8 = p0) (eb : σ.1 10 9 = 0) (e2 : σ.1 10 2 = 0) (e4 : (σ.1 10 4 + 1 + 1).toInt = (m : Int)) (hm : m ≤ 10) : zpc (fX8_write_124 σ 203) (fun r => ∃ s1 v, zQ [10] [] [] [] σ s1 ∧ fX2_read s1 (σ.1 10 3 + (σ.1 10 4 + 1)) = some (s1, v) ∧ zSumq (zPkq (zNt (v >>> ((6 : Int32) &&& 31))) (v >>> ((6 : Int32) &&& 31)) ((v >>> ((3 : Int32) &&& 31)) &&& 7) (v &&& 7) p0 0) (m + (zPc (zNt (v >>> ((6 : Int32) &&& 31))) (v >>> ((6 : Int32) &&& 31)) ((v >>> ((3 : Int32) &&& 31)) &&& 7) (v &&& 7) p0 0)) r) := by
  unfold fX8_write_124 fX8_patternsOf
  rw [if_pos rfl, if_neg (show ¬ zgi σ 10 8 = 0 by rw [show zgi σ 10 8 = p0 from ep]; exact hp), zbk_bi]
  refine zpc_bi tc_takeE (fun s1 d q => ?_)
  have q1 : s1 = zsi σ 10 4 (σ.1 10 4 + 1) := q.1
  have g4 : s1.1 10 4 = σ.1 10 4 + 1 := by rw [q1, zsi_ej]
  have g3 : s1.1 10 3 = σ.1 10 3 := by rw [q1, zsi_nj (by decide)]
  have gq : zQ [10] [] [] [] σ s1 := by rw [q1]; exact zQ.wi zQ.rf rfl
  refine zpc_mono (tc_23 (σ := s1) (p := p0) (b := 0) (m := m) (d := d) ?_ ?_ ?_ ?_ hm) (fun r g => ?_)
  · rw [q1, zsi_nj (by decide)]; exact ep
  · rw [q1, zsi_nj (by decide)]; exact eb
  · rw [q1, zsi_nj (by decide)]; exact e2
  · rw [g4]; exact e4
  · obtain ⟨s2, u, a, c, d⟩ := g
    rw [g3, g4] at c
    exact ⟨s2, u, gq.tr a, c, d⟩
theorem tc_108 (hp : ¬ p0 = 0) (fq : zQ [10] [] [] [] σ0 σ) (f3 : σ.1 10 3 = A) (f4 : σ.1 10 4 = 0 + 1) (f2 : σ.1 10 2 = 0) : zpc (fX8_write_108 σ p0) (zW3 A p0 σ0) := by
  unfold fX8_write_108
  refine zpc_bv (fun s5 e5 => zpc_bi tc_takeE (fun s6 w q => zpc_bi tc_mp (fun s8 m8 e8 => zpc_ck (zpc_bv (fun s10 e10 => ?_)))))
  cases e8
  obtain ⟨q1, q2⟩ := q
  have h3 : s5.1 10 3 = A := by rw [e5, zsi_nj (by decide)]; exact f3
  have h4 : s5.1 10 4 = 0 + 1 := by rw [e5, zsi_nj (by decide)]; exact f4
  have q1 : s6 = zsi s5 10 4 (s5.1 10 4 + 1) := q1
  rw [h4] at q1
  have q2 : fX2_read s5 (s5.1 10 3 + s5.1 10 4) = some (s5, w) := q2
  rw [h3, h4] at q2
  have fq5 : zQ [10] [] [] [] σ0 s5 := by rw [e5]; exact zQ.wi fq rfl
  have fq10 : zQ [10] [] [] [] σ0 s10 := by rw [e10, q1]; exact zQ.wi (zQ.wi fq5 rfl) rfl
  have k8 : s10.1 10 8 = p0 := by rw [e10, zsi_nj (by decide), q1, zsi_nj (by decide), e5, zsi_ej]
  have k9 : s10.1 10 9 = zMp w := by rw [e10, zsi_ej]
  have k2 : s10.1 10 2 = 0 := by rw [e10, zsi_nj (by decide), q1, zsi_nj (by decide), e5, zsi_nj (by decide)]; exact f2
  have k3 : s10.1 10 3 = A := by rw [e10, zsi_nj (by decide), q1, zsi_nj (by decide)]; exact h3
  have k4 : s10.1 10 4 = 0 + 1 + 1 := by rw [e10, zsi_nj (by decide), q1, zsi_ej]
  by_cases c1 : w = 203
  · subst c1
    have m0 : zMp 203 = 0 := by decide
    rw [m0] at k9
    refine zpc_mono (tc_cbp (m := 4) hp k8 k9 k2 (by rw [k4]; decide) (by decide)) (fun r g => ?_)
    obtain ⟨s3, u, a, c, d⟩ := g
    rw [k3, k4] at c
    exact ⟨s5, 203, fq5, q2, Or.inr (Or.inl ⟨rfl, s3, u, fq10.tr a, c, d⟩)⟩
  by_cases c2 : w = 237
  · exact fun r _ => ⟨s5, w, fq5, q2, Or.inr (Or.inr c2)⟩
  refine zpc_mono (tc_plain (m := 2) c1 c2 k8 k9 k2 (by rw [k4]; decide) (by decide)) (fun r g => ⟨s5, w, fq5, q2, Or.inl ⟨c1, c2, g⟩⟩)
theorem tc_47 (hv : (v = 221 ∧ p0 = 120) ∨ (v = 253 ∧ p0 = 121)) (fq : zQ [10] [] [] [] σ0 σ) (f3 : σ.1 10 3 = A) (f4 : σ.1 10 4 = 0 + 1) (f2 : σ.1 10 2 = 0) : zpc (fX8_write_47 σ v) (zW2 A v σ0) := by
  unfold fX8_write_47
  rw [show zgi σ 10 3 = A from f3]
  refine zpc_bi (P := fun r => zQ [] [] [] [] σ r.1 ∧ fX2_read σ (A + 1) = some r) (zpc_and (fi_fX2_read (σ0 := σ) zQ.rf) zpc_self) (fun s1 w e => ?_)
  have e1 : s1 = σ := zQ_eq e.1
  have e2 := e.2
  rw [e1] at e2
  rw [e1]
  have e82 := tc_82 (σ := σ) (m := 1) f2 (by rw [f4]; decide) (by decide)
  refine zpc_if (fun c => zpc_mono e82 (fun r g => Or.inr (Or.inr (Or.inr ⟨p0, hv, σ, w, fq, e2, Or.inl ⟨Or.inl c, g⟩⟩)))) (fun c1 => zpc_if (fun c => zpc_mono e82 (fun r g => Or.inr (Or.inr (Or.inr ⟨p0, hv, σ, w, fq, e2, Or.inl ⟨Or.inr (Or.inl c), g⟩⟩)))) (fun c2 => zpc_if (fun c => zpc_mono e82 (fun r g => Or.inr (Or.inr (Or.inr ⟨p0, hv, σ, w, fq, e2, Or.inl ⟨Or.inr (Or.inr c), g⟩⟩)))) (fun c3 => ?_)))
  rcases hv with ⟨h1, h2⟩ | ⟨h1, h2⟩
  · refine zpc_if (fun _ => ?_) (fun c => absurd h1 c)
    rw [← h2]
    exact zpc_mono (tc_108 (by rw [h2]; decide) fq f3 f4 f2) (fun r g => Or.inr (Or.inr (Or.inr ⟨p0, Or.inl ⟨h1, h2⟩, σ, w, fq, e2, Or.inr ⟨c1, c2, c3, g⟩⟩)))
  · refine zpc_if (fun c => absurd (h1.symm.trans c) (by decide)) (fun _ => ?_)
    rw [← h2]
    exact zpc_mono (tc_108 (by rw [h2]; decide) fq f3 f4 f2) (fun r g => Or.inr (Or.inr (Or.inr ⟨p0, Or.inr ⟨h1, h2⟩, σ, w, fq, e2, Or.inr ⟨c1, c2, c3, g⟩⟩)))
theorem tc_write : zpc (fX8_write σ x) (fun r => ∃ s0 v0, zQ [10] [] [] [] σ s0 ∧ fX2_read s0 ((x &&& 65535) + 0) = some (s0, v0) ∧ zW2 (x &&& 65535) v0 σ r) := by
  unfold fX8_write
  refine zpc_bv (fun a1 e1 => zpc_bv (fun a2 e2 => zpc_bv (fun a3 e3 => zpc_bv (fun a4 e4 => zpc_ck (zpc_bv (fun a5 e5 => zpc_bi tc_takeE (fun s1 v q => ?_)))))))
  have S : a5 = zsi (zsi (zsi (zsi (zsi σ 10 3 (x &&& 65535)) 10 4 0) 10 2 0) 10 8 0) 10 9 0 := by rw [e5, e4, e3, e2, e1]
  have fq : zQ [10] [] [] [] σ a5 := by rw [S]; exact zQ.wi (zQ.wi (zQ.wi (zQ.wi (zQ.wi zQ.rf rfl) rfl) rfl) rfl) rfl
  have f3 : a5.1 10 3 = x &&& 65535 := by rw [S]; rfl
  have f4 : a5.1 10 4 = 0 := by rw [S]; rfl
  have f2 : a5.1 10 2 = 0 := by rw [S]; rfl
  have f8 : a5.1 10 8 = 0 := by rw [S]; rfl
  have f9 : a5.1 10 9 = 0 := by rw [S]; rfl
  obtain ⟨q1, q2⟩ := q
  have q1 : s1 = zsi a5 10 4 (a5.1 10 4 + 1) := q1
  have q2 : fX2_read a5 (a5.1 10 3 + a5.1 10 4) = some (a5, v) := q2
  rw [f3, f4] at q2
  rw [f4] at q1
  have gq : zQ [10] [] [] [] σ s1 := by rw [q1]; exact zQ.wi fq rfl
  have g3 : s1.1 10 3 = x &&& 65535 := by rw [q1, zsi_nj (by decide)]; exact f3
  have g4 : s1.1 10 4 = 0 + 1 := by rw [q1, zsi_ej]
  have g2 : s1.1 10 2 = 0 := by rw [q1, zsi_nj (by decide)]; exact f2
  have g8 : s1.1 10 8 = 0 := by rw [q1, zsi_nj (by decide)]; exact f8
  have g9 : s1.1 10 9 = 0 := by rw [q1, zsi_nj (by decide)]; exact f9
  refine zpc_mono (P := zW2 (x &&& 65535) v σ) ?_ (fun r g => ⟨a5, v, fq, q2, g⟩)
  refine zpc_if (fun c => tc_47 (p0 := 120) (Or.inl ⟨c, rfl⟩) gq g3 g4 g2) (fun c1 => zpc_if (fun c => tc_47 (p0 := 121) (Or.inr ⟨c, rfl⟩) gq g3 g4 g2) (fun c2 => ?_))
  by_cases h3 : v = 203
  · subst h3
    refine zpc_mono (tc_cb0 (m := 2) g8 g9 g2 (by rw [g4]; decide) (by decide)) (fun r g => ?_)
    obtain ⟨s2, u, a, c, d⟩ := g
    rw [g3, g4] at c
    exact Or.inr (Or.inl ⟨rfl, s2, u, gq.tr a, c, d⟩)
  by_cases h4 : v = 237
  · subst h4
    refine zpc_mono (tc_ed (m := 2) g8 g9 g2 (by rw [g4]; decide) (by decide)) (fun r g => ?_)
    obtain ⟨u, c, d⟩ := g
    rw [g3, g4] at c
    exact Or.inr (Or.inr (Or.inl ⟨rfl, s1, u, gq, c, d⟩))
  exact zpc_mono (tc_plain (m := 1) h3 h4 g8 g9 g2 (by rw [g4]; decide) (by decide)) (fun r g => Or.inl ⟨c1, c2, h3, h4, g⟩)
/-! the reference -/
theorem tm_takenE : zpc (fX12_taken μ ) (fun r => r.1 = zsi μ 0 40 (μ.1 0 40 + 1) ∧ fX12_read μ (μ.1 0 40) = some (μ, r.2)) := by
  unfold fX12_taken
  refine zpc_bi (P := fun r => zQ [] [] [] [] μ r.1 ∧ fX12_read μ (μ.1 0 40) = some r) (zpc_and (fI_fX12_read (σ0 := μ) zQ.rf) zpc_self) (fun s1 v e => zpc_bv (fun s2 e2 => zpc_some ?_))
  have e1 : s1 = μ := zQ_eq e.1
  rw [e1] at e2
  refine ⟨e2, ?_⟩
  have e3 := e.2
  rw [e1] at e3
  exact e3
noncomputable def zSun (k c : Nat) (r : zSt × Int32) : Prop := k ≤ 100 → c ≤ 100 → (r.1.1 0 39).toInt = (k : Int) ∧ r.2.toInt = (c : Int)
end ZT4
end ZJN5
section ZJN6
/-! TELL OF THE REFERENCE; BOTH -/
noncomputable def zTn (k c : Nat) (σ s : zSt) : Prop := 0 ≤ (σ.1 0 39).toInt → (σ.1 0 39).toInt + (k : Int) ≤ 1000 → 0 ≤ (σ.1 0 40).toInt → (σ.1 0 40).toInt + (c : Int) ≤ 100000 → (s.1 0 39).toInt = (σ.1 0 39).toInt + (k : Int) ∧ (s.1 0 40).toInt = (σ.1 0 40).toInt + (c : Int)
/-- is (ix+d) meant -/
noncomputable def zP1 (x z : Int32) : Int32 := if x = 2 then (if z = 6 then 1 else 0) else 0
noncomputable def zP5 (v x z : Int32) : Int32 := if v = 118 then zP1 x z else 1
noncomputable def zP6 (v x y z : Int32) : Int32 := if x = 1 then (if y = 6 then zP5 v x z else if z = 6 then zP5 v x z else zP1 x z) else zP1 x z
noncomputable def zPlq (v : Int32) : Int32 := if (v >>> ((6 : Int32) &&& 31)) = 0 then (if (v &&& 7) ≤ 3 then zP6 v (v >>> ((6 : Int32) &&& 31)) ((v >>> ((3 : Int32) &&& 31)) &&& 7) (v &&& 7) else if 7 ≤ (v &&& 7) then zP6 v (v >>> ((6 : Int32) &&& 31)) ((v >>> ((3 : Int32) &&& 31)) &&& 7) (v &&& 7) else if ((v >>> ((3 : Int32) &&& 31)) &&& 7) = 6 then 1 else zP6 v (v >>> ((6 : Int32) &&& 31)) ((v >>> ((3 : Int32) &&& 31)) &&& 7) (v &&& 7)) else zP6 v (v >>> ((6 : Int32) &&& 31)) ((v >>> ((3 : Int32) &&& 31)) &&& 7) (v &&& 7)
noncomputable def kPP (i v : Int32) : Nat := if zPlq v = 0 then k_fX12_sayPlain i 0 v else k_fX12_sayPlain i 1 v
noncomputable def tPP (i v : Int32) : Nat := if zPlq v = 0 then t_fX12_sayPlain i 0 v else 1 + t_fX12_sayPlain i 1 v
noncomputable def kDC (i u : Int32) : Nat := k_fX12_sayTurn i 1 ((u &&& 248) ||| 6) + (if (u >>> ((6 : Int32) &&& 31)) = 1 then 0 else (if (zrem u 8) = 6 then 0 else (1 + (k_fX12_sayR i 1 (zrem u 8) + 0))))
noncomputable def tDC (i u : Int32) : Nat := t_fX12_sayTurn i 1 ((u &&& 248) ||| 6) + (if (u >>> ((6 : Int32) &&& 31)) = 1 then 0 else (if (zrem u 8) = 6 then 0 else (0 + (t_fX12_sayR i 1 (zrem u 8) + 0))))
theorem zpJif {β : Type} {α : Type} {R : β → α → Prop} {q : Prop} {d1 d2 : Decidable q} {A B : Option α} {a b : β} (h1 : q → zpc A (R a)) (h2 : ¬ q → zpc B (R b)) : zpc (@ite _ q d1 A B) (R (@ite _ q d2 a b)) := by
  by_cases z : q
  · rw [if_pos z, if_pos z]; exact h1 z
  · rw [if_neg z, if_neg z]; exact h2 z
section ZT5
variable {σ μ s t : zSt} {v i x A : Int32}
theorem zTn.tr {a b c d : Nat} (h : zTn a b σ s) (g : zTn c d s t) : zTn (a + c) (b + d) σ t := fun w x y z => by
  obtain ⟨u1, u2⟩ := h w (by omega) y (by omega)
  obtain ⟨v1, v2⟩ := g (by omega) (by omega) (by omega) (by omega)
  exact ⟨by omega, by omega⟩
theorem zTn.of (e39 : s.1 0 39 = σ.1 0 39) (e40 : s.1 0 40 = σ.1 0 40) : zTn 0 0 σ s := fun _ _ _ _ => by
  rw [e39, e40]
  exact ⟨by omega, by omega⟩
theorem zTn.up (e39 : s.1 0 39 = σ.1 0 39) (e40 : s.1 0 40 = σ.1 0 40 + 1) : zTn 0 1 σ s := fun w x y z => by
  have c1 : (1 : Int32).toInt = 1 := rfl
  have t1 := z_tadd (x := σ.1 0 40) (y := 1) (a := 0) (b := 100000) ⟨y, by omega⟩ (zr_c (lo := 1) (hi := 1) (x := 1) (by decide)) (by decide)
  rw [e39, e40, t1, c1]
  exact ⟨by omega, by omega⟩
theorem tm_240 {l : Int32} (e : zEm i l σ) : zpc (fX12_sayPrefixed_240 σ v) (zTn (k_fX12_sayPlain i l v) (t_fX12_sayPlain i l v) σ) := by
  unfold fX12_sayPrefixed_240
  exact zpc_bu (tm_fX12_sayPlain e) (fun s1 h1 => zpc_some h1.2)
/-- behind the prefix: an op without CB -/
noncomputable def zR9 (i v : Int32) (σ : zSt) (l : Int32) (r : zSt) : Prop := zTn (if l = 0 then k_fX12_sayPlain i 0 v else k_fX12_sayPlain i 1 v) (if l = 0 then t_fX12_sayPlain i 0 v else 1 + t_fX12_sayPlain i 1 v) σ r
theorem tm_219 (e : σ.1 0 41 = i) {l : Int32} (hl : l = 0 ∨ l = 1) : zpc (fX12_sayPrefixed_219 σ v l) (zR9 i v σ l) := by
  unfold fX12_sayPrefixed_219 zR9
  refine zpc_ck (zpc_bv (fun s3 e3 => ?_))
  have g42 : zgi s3 0 42 = l := by rw [e3]; exact zsi_ej
  have g41 : s3.1 0 41 = i := by rw [e3, zsi_nj (by decide)]; exact e
  have n3 : zTn 0 0 σ s3 := zTn.of (by rw [e3, zsi_nj (by decide)]) (by rw [e3, zsi_nj (by decide)])
  rw [g42]
  rcases hl with hl | hl
  · rw [if_pos hl, if_pos hl, if_pos hl]
    refine zpc_mono (tm_240 (i := i) (l := 0) ⟨g41, by rw [← hl]; exact g42⟩) (fun r g => ?_)
    have q := n3.tr g
    simp only [Nat.zero_add] at q
    exact q
  · have n0 : ¬ l = 0 := fun z => absurd (hl.symm.trans z) (by decide)
    rw [if_neg n0, if_neg n0, if_neg n0]
    refine zpc_bi tm_takenE (fun s4 v5 q => zpc_bi (P := fun r => r.1 = s4) ?_ (fun s6 v7 q6 => zpc_bv (fun s8 e8 => ?_)))
    · unfold fX12_signed fX12_signed_16
      exact zpc_if (fun _ => zpc_some rfl) (fun _ => zpc_some rfl)
    have q6 : s6 = s4 := q6
    have q1 : s4 = zsi s3 0 40 (s3.1 0 40 + 1) := q.1
    have n8 : zTn 0 1 s3 s8 := zTn.up (by rw [e8, zsi_nj (by decide), q6, q1, zsi_nj (by decide)]) (by rw [e8, zsi_nj (by decide), q6, q1, zsi_ej])
    have h41 : s8.1 0 41 = i := by rw [e8, zsi_nj (by decide), q6, q1, zsi_nj (by decide)]; exact g41
    have h42 : s8.1 0 42 = 1 := by rw [e8, zsi_nj (by decide), q6, q1, zsi_nj (by decide), ← hl]; exact g42
    refine zpc_mono (tm_240 (i := i) (l := 1) ⟨h41, h42⟩) (fun r g => ?_)
    have q := (n3.tr n8).tr g
    simp only [Nat.zero_add] at q
    exact q
theorem tm_201 (e : σ.1 0 41 = i) {x z : Int32} : zpc (fX12_sayPrefixed_201 σ v z x) (zR9 i v σ (zP1 x z)) := by
  unfold fX12_sayPrefixed_201 fX12_sayPrefixed_214 fX12_sayPrefixed_218 zP1
  exact zpJif (R := zR9 i v σ) (fun _ => zpJif (R := zR9 i v σ) (fun _ => tm_219 e (Or.inr rfl)) (fun _ => tm_219 e (Or.inl rfl))) (fun _ => tm_219 e (Or.inl rfl))
theorem tm_195 (e : σ.1 0 41 = i) {x z : Int32} : zpc (fX12_sayPrefixed_195 σ v z x) (zR9 i v σ (zP5 v x z)) := by
  unfold fX12_sayPrefixed_195 fX12_sayPrefixed_214 zP5
  exact zpJif (R := zR9 i v σ) (fun _ => tm_201 e) (fun _ => tm_219 e (Or.inr rfl))
theorem tm_176 (e : σ.1 0 41 = i) {x y z : Int32} : zpc (fX12_sayPrefixed_176 σ v y z x) (zR9 i v σ (zP6 v x y z)) := by
  unfold fX12_sayPrefixed_176 zP6
  exact zpJif (R := zR9 i v σ) (fun _ => zpJif (R := zR9 i v σ) (fun _ => tm_195 e) (fun _ => zpJif (R := zR9 i v σ) (fun _ => tm_195 e) (fun _ => tm_201 e))) (fun _ => tm_201 e)
noncomputable def zV3 (i : Int32) (σ r : zSt) : Prop := ∃ v, fX12_read σ (σ.1 0 40) = some (σ, v) ∧ (((v = 221 ∨ v = 237 ∨ v = 253) ∧ zTn 3 0 σ r) ∨ (¬ v = 221 ∧ ¬ v = 237 ∧ ¬ v = 253 ∧ ((v = 203 ∧ ∃ t3 u, zQ [] [(0, 40, 43)] [] [] σ t3 ∧ fX12_read t3 (σ.1 0 40 + 1 + 1) = some (t3, u) ∧ zTn (kDC i u) (3 + tDC i u) σ r) ∨ (¬ v = 203 ∧ zTn (kPP i v) (1 + tPP i v) σ r))))
theorem tm_pre : zpc (fX12_sayPrefixed σ i) (zV3 i σ) := by
  unfold fX12_sayPrefixed
  refine zpc_bi (P := fun r => zQ [] [] [] [] σ r.1 ∧ fX12_read σ (σ.1 0 40) = some r) (zpc_and (fI_fX12_read (σ0 := σ) zQ.rf) zpc_self) (fun s9 v e => ?_)
  have e1 : s9 = σ := zQ_eq e.1
  have e2 := e.2
  rw [e1] at e2
  rw [e1]
  have nop : zpc (fX12_sayPrefixed_30 σ ) (zTn 3 0 σ) := by
    unfold fX12_sayPrefixed_30
    exact zpc_bu (show zpc (fX12_say σ 71) (zTm 3 0 σ) from tm_say) (fun s1 h1 => zpc_some h1.2)
  refine zpc_if (fun c => zpc_mono nop (fun r g => ⟨v, e2, Or.inl ⟨Or.inl c, g⟩⟩)) (fun c1 => zpc_if (fun c => zpc_mono nop (fun r g => ⟨v, e2, Or.inl ⟨Or.inr (Or.inl c), g⟩⟩)) (fun c2 => zpc_if (fun c => zpc_mono nop (fun r g => ⟨v, e2, Or.inl ⟨Or.inr (Or.inr c), g⟩⟩)) (fun c3 => ?_)))
  refine zpc_bv (fun s11 e11 => zpc_bv (fun s12 e12 => zpc_bv (fun v13 e13 => zpc_bv (fun v14 e14 => zpc_bv (fun v15 e15 => ?_)))))
  subst e13
  subst e14
  subst e15
  have e11 : s11 = zsi σ 0 40 (σ.1 0 40 + 1) := e11
  have k39 : s12.1 0 39 = σ.1 0 39 := by rw [e12, zsi_nj (by decide), e11, zsi_nj (by decide)]
  have k40 : s12.1 0 40 = σ.1 0 40 + 1 := by rw [e12, zsi_nj (by decide), e11, zsi_ej]
  have k41 : s12.1 0 41 = i := by rw [e12, zsi_ej]
  have n12 : zTn 0 1 σ s12 := zTn.up k39 k40
  refine zpc_if (fun c => ?_) (fun c => ?_)
  · -- CB behind a prefix
    refine zpc_bi tm_takenE (fun s16 v17 q => zpc_bi (P := fun r => r.1 = s16) ?_ (fun s18 v19 q18 => zpc_bv (fun s20 e20 => zpc_ck (zpc_bv (fun s21 e21 => zpc_bi tm_takenE (fun s22 u q22 => ?_))))))
    · unfold fX12_signed fX12_signed_16
      exact zpc_if (fun _ => zpc_some rfl) (fun _ => zpc_some rfl)
    have q18 : s18 = s16 := q18
    have q1 : s16 = zsi s12 0 40 (s12.1 0 40 + 1) := q.1
    have p22 : s22 = zsi s21 0 40 (s21.1 0 40 + 1) := q22.1
    have f22 : fX12_read s21 (s21.1 0 40) = some (s21, u) := q22.2
    have m40 : s21.1 0 40 = σ.1 0 40 + 1 + 1 := by rw [e21, zsi_nj (by decide), e20, zsi_nj (by decide), q18, q1, zsi_ej, k40]
    have m39 : s21.1 0 39 = s12.1 0 39 := by rw [e21, zsi_nj (by decide), e20, zsi_nj (by decide), q18, q1, zsi_nj (by decide)]
    have n21 : zTn 0 1 s12 s21 := zTn.up m39 (by rw [m40, k40])
    have n22 : zTn 0 1 s21 s22 := zTn.up (by rw [p22, zsi_nj (by decide)]) (by rw [p22, zsi_ej])
    have g41 : s22.1 0 41 = i := by rw [p22, zsi_nj (by decide), e21, zsi_nj (by decide), e20, zsi_nj (by decide), q18, q1, zsi_nj (by decide)]; exact k41
    have g42 : s22.1 0 42 = 1 := by rw [p22, zsi_nj (by decide), e21, zsi_ej]
    have fq : zQ [] [(0, 40, 43)] [] [] σ s21 := by rw [e21, e20, q18, q1, e12, e11]; exact zQ.wi (zQ.wi (zQ.wi (zQ.wi (zQ.wi zQ.rf rfl) rfl) rfl) rfl) rfl
    have em : zEm i 1 s22 := ⟨g41, g42⟩
    rw [m40] at f22
    have main : zpc (zbu (fX12_sayTurn s22 ((u &&& 248) ||| 6)) (fun σ24 => if (u >>> ((6 : Int32) &&& 31)) = 1 then fX12_sayPrefixed_133 σ24 else zck (decide (¬ 8 = 0)) (if (zrem u 8) = 6 then fX12_sayPrefixed_133 σ24 else zbu (fX12_say σ24 83) (fun σ25 => zck (decide (¬ 8 = 0)) (zbu (fX12_sayR σ25 (zrem u 8)) (fun σ26 => some σ26)))))) (zTm (kDC i u) (tDC i u) s22) := by
      unfold fX12_sayPrefixed_133 kDC tDC
      refine zTmb (tm_fX12_sayTurn em) (fun s24 h24 => zTmif (fun _ => zpc_some zTm.rf) (fun _ => zpc_ck (zTmif (fun _ => zpc_some zTm.rf) (fun _ => zTmb (show zpc (fX12_say s24 83) (zTm 1 0 s24) from tm_say) (fun s25 h25 => zpc_ck (zTmb (tm_fX12_sayR ((em.kp h24).kp h25)) (fun s26 h26 => zpc_some zTm.rf)))))))
    refine zpc_mono main (fun r g => ⟨v, e2, Or.inr ⟨c1, c2, c3, Or.inl ⟨c, s21, u, fq, f22, ?_⟩⟩⟩)
    have q := ((n12.tr n21).tr n22).tr g.2
    simp only [Nat.zero_add] at q
    exact q
  · have main : zpc (if (v >>> ((6 : Int32) &&& 31)) = 0 then if (v &&& 7) ≤ 3 then fX12_sayPrefixed_176 s12 v ((v >>> ((3 : Int32) &&& 31)) &&& 7) (v &&& 7) (v >>> ((6 : Int32) &&& 31)) else if 7 ≤ (v &&& 7) then fX12_sayPrefixed_176 s12 v ((v >>> ((3 : Int32) &&& 31)) &&& 7) (v &&& 7) (v >>> ((6 : Int32) &&& 31)) else if ((v >>> ((3 : Int32) &&& 31)) &&& 7) = 6 then fX12_sayPrefixed_214 s12 v else fX12_sayPrefixed_176 s12 v ((v >>> ((3 : Int32) &&& 31)) &&& 7) (v &&& 7) (v >>> ((6 : Int32) &&& 31)) else fX12_sayPrefixed_176 s12 v ((v >>> ((3 : Int32) &&& 31)) &&& 7) (v &&& 7) (v >>> ((6 : Int32) &&& 31))) (zR9 i v s12 (zPlq v)) := by
      unfold fX12_sayPrefixed_214 zPlq
      exact zpJif (R := zR9 i v s12) (fun _ => zpJif (R := zR9 i v s12) (fun _ => tm_176 k41) (fun _ => zpJif (R := zR9 i v s12) (fun _ => tm_176 k41) (fun _ => zpJif (R := zR9 i v s12) (fun _ => tm_219 k41 (Or.inr rfl)) (fun _ => tm_176 k41)))) (fun _ => tm_176 k41)
    refine zpc_mono main (fun r g => ⟨v, e2, Or.inr ⟨c1, c2, c3, Or.inr ⟨c, ?_⟩⟩⟩)
    have q := n12.tr g
    simp only [Nat.zero_add] at q
    exact q
noncomputable def zV2 (A v0 : Int32) (μ : zSt) (r : zSt × Int32) : Prop := (¬ v0 = 221 ∧ ¬ v0 = 253 ∧ ¬ v0 = 203 ∧ ¬ v0 = 237 ∧ zSun (k_fX12_sayPlain 0 0 v0) (1 + t_fX12_sayPlain 0 0 v0) r) ∨ (v0 = 203 ∧ ∃ t1 v, zQ [] [(0, 0, 0), (0, 39, 43)] [] [] μ t1 ∧ fX12_read t1 (A + 1) = some (t1, v) ∧ zSun (k_fX12_sayTurn 0 0 v) (2 + t_fX12_sayTurn 0 0 v) r) ∨ (v0 = 237 ∧ ∃ t1 v, zQ [] [(0, 0, 0), (0, 39, 43)] [] [] μ t1 ∧ fX12_read t1 (A + 1) = some (t1, v) ∧ zSun (k_fX12_sayMore 0 0 v) (2 + t_fX12_sayMore 0 0 v) r) ∨ (∃ i, ((v0 = 221 ∧ i = 1) ∨ (v0 = 253 ∧ i = 2)) ∧ ∃ t1 v, zQ [] [(0, 0, 0), (0, 39, 43)] [] [] μ t1 ∧ fX12_read t1 (A + 1) = some (t1, v) ∧ (((v = 221 ∨ v = 237 ∨ v = 253) ∧ zSun 3 (1 + 0) r) ∨ (¬ v = 221 ∧ ¬ v = 237 ∧ ¬ v = 253 ∧ ((v = 203 ∧ ∃ t3 u, zQ [] [(0, 0, 0), (0, 39, 43)] [] [] μ t3 ∧ fX12_read t3 (A + 1 + 1 + 1) = some (t3, u) ∧ zSun (kDC i u) (1 + (3 + tDC i u)) r) ∨ (¬ v = 203 ∧ zSun (kPP i v) (1 + (1 + tPP i v)) r)))))
theorem zSun_n {m k c : Nat} {s2 : zSt} (h : zTn k c s s2) (hA : zr 0 65535 A) (e39 : s.1 0 39 = 0) (e40 : (s.1 0 40).toInt = A.toInt + (m : Int)) (hm : m ≤ 10) : zSun k (m + c) (s2, zgi s2 0 40 - A) := fun hk hc => by
  have z0 : (0 : Int32).toInt = 0 := rfl
  have A0 := hA.1
  have A1 := hA.2
  obtain ⟨u1, u2⟩ := h (by rw [e39, z0]; omega) (by rw [e39, z0]; omega) (by rw [e40]; omega) (by rw [e40]; omega)
  rw [e39, z0] at u1
  rw [e40] at u2
  refine ⟨by show (s2.1 0 39).toInt = _; omega, ?_⟩
  show (s2.1 0 40 - A).toInt = _
  rw [z_tsub (x := s2.1 0 40) (y := A) (a := 0) (b := 100000) ⟨by omega, by omega⟩ hA (by decide), u2]
  omega
theorem tm_tell : zpc (fX12_tell μ x) (fun r => ∃ t0 v0, zQ [] [(0, 0, 0), (0, 39, 43)] [] [] μ t0 ∧ fX12_read t0 (x &&& 65535) = some (t0, v0) ∧ zV2 (x &&& 65535) v0 μ r) := by
  unfold fX12_tell fX12_tell_52 fX12_tell_65 fX12_tell_112
  refine zpc_bv (fun a2 e2 => zpc_bv (fun a3 e3 => zpc_bv (fun a4 e4 => zpc_bv (fun a5 e5 => zpc_ck (zpc_bv (fun a6 e6 => zpc_bv (fun v7 e7 => zpc_bi tm_takenE (fun s8 v q => ?_))))))))
  have S : a6 = zsi (zsi (zsi (zsi (zsi μ 0 0 0) 0 39 0) 0 40 (x &&& 65535)) 0 41 0) 0 42 0 := by rw [e6, e5, e4, e3, e2]
  have fq : zQ [] [(0, 0, 0), (0, 39, 43)] [] [] μ a6 := by rw [S]; exact zQ.wi (zQ.wi (zQ.wi (zQ.wi (zQ.wi zQ.rf rfl) rfl) rfl) rfl) rfl
  have f40 : a6.1 0 40 = x &&& 65535 := by rw [S]; rfl
  have f39 : a6.1 0 39 = 0 := by rw [S]; rfl
  have f41 : a6.1 0 41 = 0 := by rw [S]; rfl
  have f42 : a6.1 0 42 = 0 := by rw [S]; rfl
  have e7 : v7 = x &&& 65535 := by rw [e7]; exact f40
  have q1 : s8 = zsi a6 0 40 (a6.1 0 40 + 1) := q.1
  have q2 : fX12_read a6 (a6.1 0 40) = some (a6, v) := q.2
  rw [f40] at q1 q2
  rw [e7]
  have hA : zr 0 65535 (x &&& 65535) := z_r16 x
  have c1 : (1 : Int32).toInt = 1 := rfl
  have t1 := z_tadd hA (zr_c (lo := 1) (hi := 1) (x := 1) (by decide)) (by decide)
  have A1 := hA.2
  have A0 := hA.1
  have g39 : s8.1 0 39 = 0 := by rw [q1, zsi_nj (by decide)]; exact f39
  have g40 : s8.1 0 40 = (x &&& 65535) + 1 := by rw [q1, zsi_ej]
  have g41 : s8.1 0 41 = 0 := by rw [q1, zsi_nj (by decide)]; exact f41
  have g42 : s8.1 0 42 = 0 := by rw [q1, zsi_nj (by decide)]; exact f42
  have gq : zQ [] [(0, 0, 0), (0, 39, 43)] [] [] μ s8 := by rw [q1]; exact zQ.wi fq rfl
  have gi : (s8.1 0 40).toInt = (x &&& 65535).toInt + ((1 : Nat) : Int) := by rw [g40, t1, c1]; omega
  refine zpc_mono (P := zV2 (x &&& 65535) v μ) ?_ (fun r g => ⟨a6, v, fq, q2, g⟩)
  have pre : ∀ i : Int32, ((v = 221 ∧ i = 1) ∨ (v = 253 ∧ i = 2)) → zpc (zbu (fX12_sayPrefixed s8 i) (fun σ1 => some (σ1, zgi σ1 0 40 - (x &&& 65535)))) (zV2 (x &&& 65535) v μ) := fun i hi => by
    refine zpc_bu tm_pre (fun s1 h1 => zpc_some ?_)
    obtain ⟨w, f, h1⟩ := h1
    rw [g40] at f
    refine Or.inr (Or.inr (Or.inr ⟨i, hi, s8, w, gq, f, ?_⟩))
    rcases h1 with ⟨h2, h3⟩ | ⟨h2, h3, h4, h5⟩
    · exact Or.inl ⟨h2, zSun_n h3 hA g39 gi (by decide)⟩
    · refine Or.inr ⟨h2, h3, h4, ?_⟩
      rcases h5 with ⟨h6, t3, u, h7, h8, h9⟩ | ⟨h6, h7⟩
      · rw [g40] at h8
        exact Or.inl ⟨h6, t3, u, gq.tr (h7.mono rfl rfl), h8, zSun_n h9 hA g39 gi (by decide)⟩
      · exact Or.inr ⟨h6, zSun_n h7 hA g39 gi (by decide)⟩
  refine zpc_if (fun c => ?_) (fun c1 => zpc_if (fun c => ?_) (fun c2 => ?_))
  · refine zpc_if (fun _ => pre 1 (Or.inl ⟨c, rfl⟩)) (fun z => absurd c z)
  · refine zpc_if (fun z => absurd (c.symm.trans z) (by decide)) (fun _ => pre 2 (Or.inr ⟨c, rfl⟩))
  refine zpc_if (fun c => ?_) (fun c3 => zpc_if (fun c => ?_) (fun c4 => ?_))
  · refine zpc_bi tm_takenE (fun s14 u q14 => zpc_bu (tm_fX12_sayTurn (i := 0) (l := 0) ?_) (fun s16 h16 => zpc_some ?_))
    · have p14 : s14 = zsi s8 0 40 (s8.1 0 40 + 1) := q14.1
      rw [p14]
      exact ⟨by rw [zsi_nj (by decide)]; exact g41, by rw [zsi_nj (by decide)]; exact g42⟩
    have p14 : s14 = zsi s8 0 40 (s8.1 0 40 + 1) := q14.1
    have f14 : fX12_read s8 (s8.1 0 40) = some (s8, u) := q14.2
    rw [g40] at f14
    have n14 : zTn 0 1 s8 s14 := zTn.up (by rw [p14, zsi_nj (by decide)]) (by rw [p14, zsi_ej])
    have n16 := n14.tr h16.2
    simp only [Nat.zero_add] at n16
    have z := zSun_n n16 hA g39 gi (by decide)
    rw [← Nat.add_assoc] at z
    exact Or.inr (Or.inl ⟨c, s8, u, gq, f14, z⟩)
  · refine zpc_bi tm_takenE (fun s14 u q14 => zpc_bu (tm_fX12_sayMore (i := 0) (l := 0) ?_) (fun s16 h16 => zpc_some ?_))
    · have p14 : s14 = zsi s8 0 40 (s8.1 0 40 + 1) := q14.1
      rw [p14]
      exact ⟨by rw [zsi_nj (by decide)]; exact g41, by rw [zsi_nj (by decide)]; exact g42⟩
    have p14 : s14 = zsi s8 0 40 (s8.1 0 40 + 1) := q14.1
    have f14 : fX12_read s8 (s8.1 0 40) = some (s8, u) := q14.2
    rw [g40] at f14
    have n14 : zTn 0 1 s8 s14 := zTn.up (by rw [p14, zsi_nj (by decide)]) (by rw [p14, zsi_ej])
    have n16 := n14.tr h16.2
    simp only [Nat.zero_add] at n16
    have z := zSun_n n16 hA g39 gi (by decide)
    rw [← Nat.add_assoc] at z
    exact Or.inr (Or.inr (Or.inl ⟨c, s8, u, gq, f14, z⟩))
  · refine zpc_bu (tm_fX12_sayPlain (i := 0) (l := 0) ⟨g41, g42⟩) (fun s10 h10 => zpc_some ?_)
    exact Or.inl ⟨c1, c2, c3, c4, zSun_n h10.2 hA g39 gi (by decide)⟩
end ZT5
theorem tk_plain : ∀ n : Fin 256, (Int32.ofNat n.val) = 203 ∨ (Int32.ofNat n.val) = 237 ∨ (Int32.ofNat n.val) = 221 ∨ (Int32.ofNat n.val) = 253 ∨ ((zPkq (zNo (Int32.ofNat n.val)) ((Int32.ofNat n.val) >>> ((6 : Int32) &&& 31)) (((Int32.ofNat n.val) >>> ((3 : Int32) &&& 31)) &&& 7) ((Int32.ofNat n.val) &&& 7) 0 0) = (k_fX12_sayPlain 0 0 (Int32.ofNat n.val)) ∧ (zPc (zNo (Int32.ofNat n.val)) ((Int32.ofNat n.val) >>> ((6 : Int32) &&& 31)) (((Int32.ofNat n.val) >>> ((3 : Int32) &&& 31)) &&& 7) ((Int32.ofNat n.val) &&& 7) 0 0) = (t_fX12_sayPlain 0 0 (Int32.ofNat n.val)) ∧ (zPkq (zNo (Int32.ofNat n.val)) ((Int32.ofNat n.val) >>> ((6 : Int32) &&& 31)) (((Int32.ofNat n.val) >>> ((3 : Int32) &&& 31)) &&& 7) ((Int32.ofNat n.val) &&& 7) 0 0) ≤ 32 ∧ (zPc (zNo (Int32.ofNat n.val)) ((Int32.ofNat n.val) >>> ((6 : Int32) &&& 31)) (((Int32.ofNat n.val) >>> ((3 : Int32) &&& 31)) &&& 7) ((Int32.ofNat n.val) &&& 7) 0 0) ≤ 50) := by decide +kernel
theorem tk_turn : ∀ n : Fin 256, ((zPkq (zNt ((Int32.ofNat n.val) >>> ((6 : Int32) &&& 31))) ((Int32.ofNat n.val) >>> ((6 : Int32) &&& 31)) (((Int32.ofNat n.val) >>> ((3 : Int32) &&& 31)) &&& 7) ((Int32.ofNat n.val) &&& 7) 0 0) = (k_fX12_sayTurn 0 0 (Int32.ofNat n.val)) ∧ (zPc (zNt ((Int32.ofNat n.val) >>> ((6 : Int32) &&& 31))) ((Int32.ofNat n.val) >>> ((6 : Int32) &&& 31)) (((Int32.ofNat n.val) >>> ((3 : Int32) &&& 31)) &&& 7) ((Int32.ofNat n.val) &&& 7) 0 0) = (t_fX12_sayTurn 0 0 (Int32.ofNat n.val)) ∧ (zPkq (zNt ((Int32.ofNat n.val) >>> ((6 : Int32) &&& 31))) ((Int32.ofNat n.val) >>> ((6 : Int32) &&& 31)) (((Int32.ofNat n.val) >>> ((3 : Int32) &&& 31)) &&& 7) ((Int32.ofNat n.val) &&& 7) 0 0) ≤ 32 ∧ (zPc (zNt ((Int32.ofNat n.val) >>> ((6 : Int32) &&& 31))) ((Int32.ofNat n.val) >>> ((6 : Int32) &&& 31)) (((Int32.ofNat n.val) >>> ((3 : Int32) &&& 31)) &&& 7) ((Int32.ofNat n.val) &&& 7) 0 0) ≤ 50) := by decide +kernel
theorem tk_more : ∀ n : Fin 256, ((zPkq (if ((Int32.ofNat n.val) >>> ((6 : Int32) &&& 31)) = 2 then zNb (((Int32.ofNat n.val) >>> ((3 : Int32) &&& 31)) &&& 7) ((Int32.ofNat n.val) &&& 7) else zNeq ((Int32.ofNat n.val) >>> ((6 : Int32) &&& 31)) (((Int32.ofNat n.val) >>> ((3 : Int32) &&& 31)) &&& 7) ((Int32.ofNat n.val) &&& 7)) ((Int32.ofNat n.val) >>> ((6 : Int32) &&& 31)) (((Int32.ofNat n.val) >>> ((3 : Int32) &&& 31)) &&& 7) ((Int32.ofNat n.val) &&& 7) 0 0) = (k_fX12_sayMore 0 0 (Int32.ofNat n.val)) ∧ (zPc (if ((Int32.ofNat n.val) >>> ((6 : Int32) &&& 31)) = 2 then zNb (((Int32.ofNat n.val) >>> ((3 : Int32) &&& 31)) &&& 7) ((Int32.ofNat n.val) &&& 7) else zNeq ((Int32.ofNat n.val) >>> ((6 : Int32) &&& 31)) (((Int32.ofNat n.val) >>> ((3 : Int32) &&& 31)) &&& 7) ((Int32.ofNat n.val) &&& 7)) ((Int32.ofNat n.val) >>> ((6 : Int32) &&& 31)) (((Int32.ofNat n.val) >>> ((3 : Int32) &&& 31)) &&& 7) ((Int32.ofNat n.val) &&& 7) 0 0) = (t_fX12_sayMore 0 0 (Int32.ofNat n.val)) ∧ (zPkq (if ((Int32.ofNat n.val) >>> ((6 : Int32) &&& 31)) = 2 then zNb (((Int32.ofNat n.val) >>> ((3 : Int32) &&& 31)) &&& 7) ((Int32.ofNat n.val) &&& 7) else zNeq ((Int32.ofNat n.val) >>> ((6 : Int32) &&& 31)) (((Int32.ofNat n.val) >>> ((3 : Int32) &&& 31)) &&& 7) ((Int32.ofNat n.val) &&& 7)) ((Int32.ofNat n.val) >>> ((6 : Int32) &&& 31)) (((Int32.ofNat n.val) >>> ((3 : Int32) &&& 31)) &&& 7) ((Int32.ofNat n.val) &&& 7) 0 0) ≤ 32 ∧ (zPc (if ((Int32.ofNat n.val) >>> ((6 : Int32) &&& 31)) = 2 then zNb (((Int32.ofNat n.val) >>> ((3 : Int32) &&& 31)) &&& 7) ((Int32.ofNat n.val) &&& 7) else zNeq ((Int32.ofNat n.val) >>> ((6 : Int32) &&& 31)) (((Int32.ofNat n.val) >>> ((3 : Int32) &&& 31)) &&& 7) ((Int32.ofNat n.val) &&& 7)) ((Int32.ofNat n.val) >>> ((6 : Int32) &&& 31)) (((Int32.ofNat n.val) >>> ((3 : Int32) &&& 31)) &&& 7) ((Int32.ofNat n.val) &&& 7) 0 0) ≤ 50) := by decide +kernel
theorem tk_pre1 : ∀ n : Fin 256, (Int32.ofNat n.val) = 203 ∨ (Int32.ofNat n.val) = 237 ∨ (Int32.ofNat n.val) = 221 ∨ (Int32.ofNat n.val) = 253 ∨ ((zPkq (zNo (Int32.ofNat n.val)) ((Int32.ofNat n.val) >>> ((6 : Int32) &&& 31)) (((Int32.ofNat n.val) >>> ((3 : Int32) &&& 31)) &&& 7) ((Int32.ofNat n.val) &&& 7) 120 (zMp (Int32.ofNat n.val))) = (kPP 1 (Int32.ofNat n.val)) ∧ (zPc (zNo (Int32.ofNat n.val)) ((Int32.ofNat n.val) >>> ((6 : Int32) &&& 31)) (((Int32.ofNat n.val) >>> ((3 : Int32) &&& 31)) &&& 7) ((Int32.ofNat n.val) &&& 7) 120 (zMp (Int32.ofNat n.val))) = (tPP 1 (Int32.ofNat n.val)) ∧ (zPkq (zNo (Int32.ofNat n.val)) ((Int32.ofNat n.val) >>> ((6 : Int32) &&& 31)) (((Int32.ofNat n.val) >>> ((3 : Int32) &&& 31)) &&& 7) ((Int32.ofNat n.val) &&& 7) 120 (zMp (Int32.ofNat n.val))) ≤ 32 ∧ (zPc (zNo (Int32.ofNat n.val)) ((Int32.ofNat n.val) >>> ((6 : Int32) &&& 31)) (((Int32.ofNat n.val) >>> ((3 : Int32) &&& 31)) &&& 7) ((Int32.ofNat n.val) &&& 7) 120 (zMp (Int32.ofNat n.val))) ≤ 50) := by decide +kernel
theorem tk_dc1 : ∀ n : Fin 256, ((zPkq (zNt ((Int32.ofNat n.val) >>> ((6 : Int32) &&& 31))) ((Int32.ofNat n.val) >>> ((6 : Int32) &&& 31)) (((Int32.ofNat n.val) >>> ((3 : Int32) &&& 31)) &&& 7) ((Int32.ofNat n.val) &&& 7) 120 0) = (kDC 1 (Int32.ofNat n.val)) ∧ (zPc (zNt ((Int32.ofNat n.val) >>> ((6 : Int32) &&& 31))) ((Int32.ofNat n.val) >>> ((6 : Int32) &&& 31)) (((Int32.ofNat n.val) >>> ((3 : Int32) &&& 31)) &&& 7) ((Int32.ofNat n.val) &&& 7) 120 0) = (tDC 1 (Int32.ofNat n.val)) ∧ (zPkq (zNt ((Int32.ofNat n.val) >>> ((6 : Int32) &&& 31))) ((Int32.ofNat n.val) >>> ((6 : Int32) &&& 31)) (((Int32.ofNat n.val) >>> ((3 : Int32) &&& 31)) &&& 7) ((Int32.ofNat n.val) &&& 7) 120 0) ≤ 32 ∧ (zPc (zNt ((Int32.ofNat n.val) >>> ((6 : Int32) &&& 31))) ((Int32.ofNat n.val) >>> ((6 : Int32) &&& 31)) (((Int32.ofNat n.val) >>> ((3 : Int32) &&& 31)) &&& 7) ((Int32.ofNat n.val) &&& 7) 120 0) ≤ 50) := by decide +kernel
theorem tk_pre2 : ∀ n : Fin 256, (Int32.ofNat n.val) = 203 ∨ (Int32.ofNat n.val) = 237 ∨ (Int32.ofNat n.val) = 221 ∨ (Int32.ofNat n.val) = 253 ∨ ((zPkq (zNo (Int32.ofNat n.val)) ((Int32.ofNat n.val) >>> ((6 : Int32) &&& 31)) (((Int32.ofNat n.val) >>> ((3 : Int32) &&& 31)) &&& 7) ((Int32.ofNat n.val) &&& 7) 121 (zMp (Int32.ofNat n.val))) = (kPP 2 (Int32.ofNat n.val)) ∧ (zPc (zNo (Int32.ofNat n.val)) ((Int32.ofNat n.val) >>> ((6 : Int32) &&& 31)) (((Int32.ofNat n.val) >>> ((3 : Int32) &&& 31)) &&& 7) ((Int32.ofNat n.val) &&& 7) 121 (zMp (Int32.ofNat n.val))) = (tPP 2 (Int32.ofNat n.val)) ∧ (zPkq (zNo (Int32.ofNat n.val)) ((Int32.ofNat n.val) >>> ((6 : Int32) &&& 31)) (((Int32.ofNat n.val) >>> ((3 : Int32) &&& 31)) &&& 7) ((Int32.ofNat n.val) &&& 7) 121 (zMp (Int32.ofNat n.val))) ≤ 32 ∧ (zPc (zNo (Int32.ofNat n.val)) ((Int32.ofNat n.val) >>> ((6 : Int32) &&& 31)) (((Int32.ofNat n.val) >>> ((3 : Int32) &&& 31)) &&& 7) ((Int32.ofNat n.val) &&& 7) 121 (zMp (Int32.ofNat n.val))) ≤ 50) := by decide +kernel
theorem tk_dc2 : ∀ n : Fin 256, ((zPkq (zNt ((Int32.ofNat n.val) >>> ((6 : Int32) &&& 31))) ((Int32.ofNat n.val) >>> ((6 : Int32) &&& 31)) (((Int32.ofNat n.val) >>> ((3 : Int32) &&& 31)) &&& 7) ((Int32.ofNat n.val) &&& 7) 121 0) = (kDC 2 (Int32.ofNat n.val)) ∧ (zPc (zNt ((Int32.ofNat n.val) >>> ((6 : Int32) &&& 31))) ((Int32.ofNat n.val) >>> ((6 : Int32) &&& 31)) (((Int32.ofNat n.val) >>> ((3 : Int32) &&& 31)) &&& 7) ((Int32.ofNat n.val) &&& 7) 121 0) = (tDC 2 (Int32.ofNat n.val)) ∧ (zPkq (zNt ((Int32.ofNat n.val) >>> ((6 : Int32) &&& 31))) ((Int32.ofNat n.val) >>> ((6 : Int32) &&& 31)) (((Int32.ofNat n.val) >>> ((3 : Int32) &&& 31)) &&& 7) ((Int32.ofNat n.val) &&& 7) 121 0) ≤ 32 ∧ (zPc (zNt ((Int32.ofNat n.val) >>> ((6 : Int32) &&& 31))) ((Int32.ofNat n.val) >>> ((6 : Int32) &&& 31)) (((Int32.ofNat n.val) >>> ((3 : Int32) &&& 31)) &&& 7) ((Int32.ofNat n.val) &&& 7) 121 0) ≤ 50) := by decide +kernel
section ZT6
variable {σ μ : zSt} {x : Int32}
theorem zrd {s t : zSt} {a a' v w : Int32} (h : zM2 s t) (f : fX2_read s a = some (s, v)) (g : fX12_read t a' = some (t, w)) (e : a' = a) : w = v ∧ zr 0 255 v := by
  have q := h.rd (x := a) (y := a') (by rw [e]) _ _ f g
  exact ⟨q.2.2.1, q.2.2.2⟩
theorem zA3 (A : Int32) : A + 1 + 1 + 1 = A + ((0 + 1 + 1) + 1) := by rw [show ((0 : Int32) + 1 + 1) + 1 = 3 by decide, Int32.add_assoc, Int32.add_assoc, show (1 : Int32) + (1 + 1) = 3 by decide]
/-- the same told -/
noncomputable def zTe (r r' : zSt × Int32) : Prop := r.2 = r'.2 ∧ r.1.1 10 2 = r'.1.1 0 39 ∧ zr 0 32 (r.1.1 10 2)
theorem zTe.of {k c k' c' : Nat} {r r' : zSt × Int32} (a : zSumq k c r) (b : zSun k' c' r') (ek : k = k') (ec : c = c') (hk : k ≤ 32) (hc : c ≤ 100) : zTe r r' := by
  obtain ⟨⟨a1, a2⟩, a3⟩ := a hc
  obtain ⟨b1, b2⟩ := b (by omega) (by omega)
  refine ⟨Int32.toInt_inj.mp (by omega), Int32.toInt_inj.mp (by omega), ⟨by omega, by omega⟩⟩
theorem v_tell (h : zM2 σ μ) : zp2 (fX11_tell σ x) (fX12_tell μ x) zTe := by
  unfold fX11_tell
  have hc : zpc (zbi (fX8_write σ x) (fun σ1 v2 => some (σ1, v2))) (fun r => ∃ s0 v0, zQ [10] [] [] [] σ s0 ∧ fX2_read s0 ((x &&& 65535) + 0) = some (s0, v0) ∧ zW2 (x &&& 65535) v0 σ r) := zpc_bi tc_write (fun s1 v q => zpc_some q)
  refine zp2_of hc tm_tell (fun r r' p q => ?_)
  obtain ⟨s0, v0, p1, p2, p3⟩ := p
  obtain ⟨t0, w0, q1, q2, q3⟩ := q
  have kp : ∀ {s t : zSt}, zQ [10] [] [] [] σ s → zQ [] [(0, 0, 0), (0, 39, 43)] [] [] μ t → zM2 s t := fun a b => h.kp a b rfl rfl
  obtain ⟨e0, r0⟩ := zrd (kp p1 q1) p2 q2 (Int32.add_zero _).symm
  subst e0
  obtain ⟨n0, en0⟩ := z_F (m := 256) r0 (by decide)
  have a1 : (x &&& 65535) + 1 = (x &&& 65535) + (0 + 1) := by rw [Int32.zero_add]
  rcases p3 with ⟨c1, c2, c3, c4, g⟩ | ⟨c, s1, v, g1, g2, g3⟩ | ⟨c, s1, v, g1, g2, g3⟩ | ⟨p0, c, s1, v, g1, g2, g3⟩
  · rcases q3 with ⟨_, _, _, _, f⟩ | ⟨d, _⟩ | ⟨d, _⟩ | ⟨i, d, _⟩
    · rw [en0] at c1 c2 c3 c4 f g
      rcases tk_plain n0 with z | z | z | z | ⟨z1, z2, z3, z4⟩
      · exact absurd z c3
      · exact absurd z c4
      · exact absurd z c1
      · exact absurd z c2
      · exact zTe.of g f z1 (by rw [z2]) z3 (by omega)
    · exact absurd d c3
    · exact absurd d c4
    · rcases d with d | d
      · exact absurd d.1 c1
      · exact absurd d.1 c2
  · rcases q3 with ⟨_, _, d, _⟩ | ⟨_, t1, w, f1, f2, f3⟩ | ⟨d, _⟩ | ⟨i, d, _⟩
    · exact absurd c d
    · obtain ⟨e, r1⟩ := zrd (kp g1 f1) g2 f2 a1
      subst e
      obtain ⟨n1, en1⟩ := z_F (m := 256) r1 (by decide)
      rw [en1] at g3 f3
      obtain ⟨z1, z2, z3, z4⟩ := tk_turn n1
      exact zTe.of g3 f3 z1 (by rw [z2]) z3 (by omega)
    · exact absurd (c.symm.trans d) (by decide)
    · rcases d with d | d
      · exact absurd (c.symm.trans d.1) (by decide)
      · exact absurd (c.symm.trans d.1) (by decide)
  · rcases q3 with ⟨_, _, _, d, _⟩ | ⟨d, _⟩ | ⟨_, t1, w, f1, f2, f3⟩ | ⟨i, d, _⟩
    · exact absurd c d
    · exact absurd (c.symm.trans d) (by decide)
    · obtain ⟨e, r1⟩ := zrd (kp g1 f1) g2 f2 a1
      subst e
      obtain ⟨n1, en1⟩ := z_F (m := 256) r1 (by decide)
      rw [en1] at g3 f3
      obtain ⟨z1, z2, z3, z4⟩ := tk_more n1
      exact zTe.of g3 f3 z1 (by rw [z2]) z3 (by omega)
    · rcases d with d | d
      · exact absurd (c.symm.trans d.1) (by decide)
      · exact absurd (c.symm.trans d.1) (by decide)
  · have nn : ¬ w0 = 203 ∧ ¬ w0 = 237 ∧ (w0 = 221 ∨ w0 = 253) := by
      rcases c with c | c
      · exact ⟨fun z => absurd (c.1.symm.trans z) (by decide), fun z => absurd (c.1.symm.trans z) (by decide), Or.inl c.1⟩
      · exact ⟨fun z => absurd (c.1.symm.trans z) (by decide), fun z => absurd (c.1.symm.trans z) (by decide), Or.inr c.1⟩
    rcases q3 with ⟨d1, d2, _⟩ | ⟨d, _⟩ | ⟨d, _⟩ | ⟨i, d, t1, w, f1, f2, f3⟩
    · rcases nn.2.2 with z | z
      · exact absurd z d1
      · exact absurd z d2
    · exact absurd d nn.1
    · exact absurd d nn.2.1
    · obtain ⟨e, r1⟩ := zrd (kp g1 f1) g2 f2 rfl
      subst e
      have pi : (p0 = 120 ∧ i = 1) ∨ (p0 = 121 ∧ i = 2) := by
        rcases c with c | c
        · rcases d with d | d
          · exact Or.inl ⟨c.2, d.2⟩
          · exact absurd (c.1.symm.trans d.1) (by decide)
        · rcases d with d | d
          · exact absurd (c.1.symm.trans d.1) (by decide)
          · exact Or.inr ⟨c.2, d.2⟩
      rcases g3 with ⟨g4, g5⟩ | ⟨g4, g5, g6, s2, w2, g7, g8, g9⟩
      · rcases f3 with ⟨_, f5⟩ | ⟨f4, f5, f6, _⟩
        · exact zTe.of g5 f5 rfl rfl (by decide) (by decide)
        · rcases g4 with z | z | z
          · exact absurd z f4
          · exact absurd z f5
          · exact absurd z f6
      · rcases f3 with ⟨z, _⟩ | ⟨_, _, _, f7⟩
        · rcases z with z | z | z
          · exact absurd z g4
          · exact absurd z g5
          · exact absurd z g6
        · obtain ⟨e, r2⟩ := zrd (kp g7 f1) g8 f2 a1
          subst e
          obtain ⟨n1, en1⟩ := z_F (m := 256) r1 (by decide)
          rcases g9 with ⟨h1, h2, h3⟩ | ⟨h1, s3, u, h2, h3, h4⟩ | h1
          · rcases f7 with ⟨f8, _⟩ | ⟨_, f9⟩
            · exact absurd f8 h1
            · rw [en1] at h1 h2 g4 g6 h3 f9
              rcases pi with ⟨e1, e2⟩ | ⟨e1, e2⟩
              · rw [e1] at h3
                rw [e2] at f9
                rcases tk_pre1 n1 with z | z | z | z | ⟨z1, z2, z3, z4⟩
                · exact absurd z h1
                · exact absurd z h2
                · exact absurd z g4
                · exact absurd z g6
                · exact zTe.of h3 f9 z1 (by rw [z2]; omega) z3 (by omega)
              · rw [e1] at h3
                rw [e2] at f9
                rcases tk_pre2 n1 with z | z | z | z | ⟨z1, z2, z3, z4⟩
                · exact absurd z h1
                · exact absurd z h2
                · exact absurd z g4
                · exact absurd z g6
                · exact zTe.of h3 f9 z1 (by rw [z2]; omega) z3 (by omega)
          · rcases f7 with ⟨_, t3, u2, f8, f9, f10⟩ | ⟨f8, _⟩
            · obtain ⟨e, r3⟩ := zrd (kp h2 f8) h3 f9 (zA3 _)
              subst e
              obtain ⟨n2, en2⟩ := z_F (m := 256) r3 (by decide)
              rw [en2] at h4 f10
              rcases pi with ⟨e1, e2⟩ | ⟨e1, e2⟩
              · rw [e1] at h4
                rw [e2] at f10
                obtain ⟨z1, z2, z3, z4⟩ := tk_dc1 n2
                exact zTe.of h4 f10 z1 (by rw [z2]; omega) z3 (by omega)
              · rw [e1] at h4
                rw [e2] at f10
                obtain ⟨z1, z2, z3, z4⟩ := tk_dc2 n2
                exact zTe.of h4 f10 z1 (by rw [z2]; omega) z3 (by omega)
            · exact absurd h1 f8
          · exact absurd h1 g5
end ZT6
end ZJN6
section ZJN7
/-! WAVES: WHAT A CHANNEL HAS -/
theorem zpWif {α : Type} {σ : zSt} {q : Prop} {d1 d2 : Decidable q} {A B : Option (zSt × α)} {a b : α} (h1 : q → zpc A (fun r => r = (σ, a))) (h2 : ¬ q → zpc B (fun r => r = (σ, b))) : zpc (@ite _ q d1 A B) (fun r => r = (σ, @ite _ q d2 a b)) := by
  by_cases z : q
  · rw [if_pos z, if_pos z]; exact h1 z
  · rw [if_neg z, if_neg z]; exact h2 z
theorem z_ofA {a c : Nat} : Int32.ofNat a + Int32.ofNat c = Int32.ofNat (a + c) := (Int32.ofNat_add a c).symm
theorem z_atk {a m : Nat} (h : a + m < 100000) : (Int32.ofNat a + Int32.ofNat m).toNatClampNeg = a + m := by rw [z_ofA, z_ofC h]
/-- a bit of a byte of a long -/
theorem z_pbit {s : Int64} {i j : Nat} (hi : i < 8) (hj : j < 8) : ((zlushr s (8 * Int32.ofNat i)).toInt32).toBitVec.getLsbD j = s.toBitVec.getLsbD (8 * i + j) := by
  have s2 : (UInt64.mod ((8 * Int32.ofNat i).toInt64.toUInt64 &&& Int64.toUInt64 63) 64).toBitVec.toNat = 8 * i := z_sh2 ⟨i, hi⟩
  have e2 : (zlushr s (8 * Int32.ofNat i)).toInt32.toBitVec = (s.toBitVec >>> (UInt64.mod ((8 * Int32.ofNat i).toInt64.toUInt64 &&& Int64.toUInt64 63) 64).toBitVec.toNat).signExtend 32 := rfl
  rw [e2, s2]
  simp only [BitVec.getLsbD_signExtend, BitVec.getLsbD_ushiftRight, if_pos (show j < 64 by omega), decide_eq_true (show j < 32 by omega), Bool.true_and]
theorem z_b64 : ∀ n : Fin 256, ∀ i : Fin 64, ((Int32.ofNat n.val).toInt64).toBitVec.getLsbD i.val = (decide (i.val < 8) && (Int32.ofNat n.val).toBitVec.getLsbD i.val) := by decide +kernel
theorem z_b64r {b : Int32} (h : zr 0 255 b) {i : Nat} (hi : i < 64) : (b.toInt64).toBitVec.getLsbD i = (decide (i < 8) && b.toBitVec.getLsbD i) := by
  obtain ⟨n, e⟩ := z_F (m := 256) h (by decide)
  rw [e]
  exact z_b64 n ⟨i, hi⟩
theorem z_shl8 {w : Int64} : (zlshl w 8).toBitVec = w.toBitVec <<< 8 := by
  have e : (zlshl w 8).toBitVec = w.toBitVec <<< (((8 : Int32).toInt64 &&& 63).toBitVec.smod 64).toNat := rfl
  rw [e, show (((8 : Int32).toInt64 &&& 63).toBitVec.smod 64).toNat = 8 by decide]
theorem z_own1 {w : Int64} {b : Int32} (h : zr 0 255 b) {i : Nat} (hi : i < 64) : ((zlshl w 8) ||| b.toInt64).toBitVec.getLsbD i = if i < 8 then b.toBitVec.getLsbD i else w.toBitVec.getLsbD (i - 8) := by
  rw [Int64.toBitVec_or, BitVec.getLsbD_or, z_shl8, BitVec.getLsbD_shiftLeft, z_b64r h hi]
  by_cases q : i < 8
  · rw [if_pos q, decide_eq_true q, decide_eq_true hi]
    rfl
  · rw [if_neg q, decide_eq_false q, decide_eq_true hi]
    simp only [Bool.not_false, Bool.true_and, Bool.false_and, Bool.or_false]
theorem z_byand {x : Int32} (h : zr 0 255 x) : x &&& 255 = x := by
  obtain ⟨n, e⟩ := z_F (m := 256) h (by decide)
  have k : ∀ n : Fin 256, Int32.ofNat n.val &&& 255 = Int32.ofNat n.val := by decide +kernel
  rw [e]
  exact k n
/-! the patch -/
noncomputable def zDg (x : Int32) : Int32 := if 97 ≤ x then (x - 97) + 10 else x - 48
noncomputable def zPb (r : Nat → Int32) (s0 : Int32) (k : Nat) : Int32 := if s0 = 0 then r k else (16 * zDg (zkC 70 ((16 * (s0 - 1)) + (2 * Int32.ofNat k)).toNatClampNeg)) + zDg (zkC 70 (((16 * (s0 - 1)) + (2 * Int32.ofNat k)) + 1).toNatClampNeg)
noncomputable def zRy (r : Nat → Int32) (c : Nat) : Int32 := if Int32.ofNat c ≤ 5 then 0 else (if (r 14 &&& 32) = 0 then 0 else 1)
noncomputable def zPsn (r : Nat → Int32) (c : Nat) : Int32 := if zRy r c = 0 then (r (48 + c)) >>> ((4 : Int32) &&& 31) else Int32.ofNat c + 10
noncomputable def zPB (r : Nat → Int32) (c k : Nat) : Int32 := zPb r (zPsn r c) k
noncomputable def zPv (own : Int64) (s0 : Int32) : Int64 := if s0 ≤ 0 then own else if 18 < s0 then own else zt5 (s0 - 1).toNatClampNeg
noncomputable def zOwn (r : Nat → Int32) (w : Int64) : Prop := ∀ m : Nat, m < 8 → ∀ j : Nat, j < 8 → w.toBitVec.getLsbD (8 * m + j) = (r (7 - m)).toBitVec.getLsbD j
noncomputable def zRb (r : Nat → Int32) : Prop := ∀ j : Nat, j < 64 → zr 0 255 (r j)
section ZWA
variable {σ μ s t : zSt} {r : Nat → Int32} {c k : Nat}
theorem pt_tab : ∀ i : Fin 18, ∀ k : Fin 8, ((zlushr (zt5 i.val) (56 - (8 * Int32.ofNat k.val))).toInt32) &&& 255 = (16 * zDg (zkC 70 ((16 * (Int32.ofNat (i.val + 1) - 1)) + (2 * Int32.ofNat k.val)).toNatClampNeg)) + zDg (zkC 70 (((16 * (Int32.ofNat (i.val + 1) - 1)) + (2 * Int32.ofNat k.val)) + 1).toNatClampNeg) := by decide +kernel
theorem pt_tabr : ∀ i : Fin 18, ∀ k : Fin 8, 0 ≤ ((16 * zDg (zkC 70 ((16 * (Int32.ofNat (i.val + 1) - 1)) + (2 * Int32.ofNat k.val)).toNatClampNeg)) + zDg (zkC 70 (((16 * (Int32.ofNat (i.val + 1) - 1)) + (2 * Int32.ofNat k.val)) + 1).toNatClampNeg)).toInt ∧ ((16 * zDg (zkC 70 ((16 * (Int32.ofNat (i.val + 1) - 1)) + (2 * Int32.ofNat k.val)).toNatClampNeg)) + zDg (zkC 70 (((16 * (Int32.ofNat (i.val + 1) - 1)) + (2 * Int32.ofNat k.val)) + 1).toNatClampNeg)).toInt ≤ 255 := by decide +kernel
theorem zPb_r (hb : zRb r) {s0 : Int32} (hs : zr 0 18 s0) (hk : k < 8) : zr 0 255 (zPb r s0 k) := by
  unfold zPb
  by_cases q : s0 = 0
  · rw [if_pos q]; exact hb k (by omega)
  · rw [if_neg q]
    obtain ⟨n, e⟩ := z_F (m := 19) hs (by decide)
    have n0 : ¬ n.val = 0 := fun z => q (by rw [e, z]; rfl)
    have z := pt_tabr ⟨n.val - 1, by omega⟩ ⟨k, hk⟩
    rw [e]
    have e1 : n.val - 1 + 1 = n.val := by omega
    have z : _ ∧ _ := z
    simp only [e1] at z
    exact z
theorem zPv_part (hb : zRb r) {w : Int64} (hw : zOwn r w) {s0 : Int32} (hs : zr 0 18 s0) (hk : k < 8) : ((zlushr (zPv w s0) (56 - (8 * Int32.ofNat k))).toInt32) &&& 255 = zPb r s0 k := by
  obtain ⟨n, e⟩ := z_F (m := 19) hs (by decide)
  unfold zPb
  by_cases q : s0 = 0
  · rw [if_pos q]
    have v : zPv w s0 = w := by unfold zPv; rw [if_pos (by rw [q]; decide)]
    have sh : ∀ k : Fin 8, (56 - (8 * Int32.ofNat k.val) : Int32) = 8 * Int32.ofNat (7 - k.val) := by decide
    rw [v, sh ⟨k, hk⟩, ← z_byand (hb k (by omega))]
    refine z_and255 (fun j hj => ?_)
    rw [z_pbit (by show 7 - k < 8; omega) hj]
    have z := hw (7 - k) (by omega) j hj
    rw [show 7 - (7 - k) = k by omega] at z
    exact z
  · rw [if_neg q]
    have n0 : ¬ n.val = 0 := fun z => q (by rw [e, z]; rfl)
    have g : ∀ n : Fin 19, ¬ n.val = 0 → ¬ Int32.ofNat n.val ≤ 0 ∧ ¬ 18 < Int32.ofNat n.val ∧ (Int32.ofNat n.val - 1).toNatClampNeg = n.val - 1 := by decide
    obtain ⟨g1, g2, g3⟩ := g n n0
    rw [e]
    unfold zPv
    rw [if_neg g1, if_neg g2, g3]
    have z := pt_tab ⟨n.val - 1, by omega⟩ ⟨k, hk⟩
    have e1 : n.val - 1 + 1 = n.val := by omega
    simp only [e1] at z
    exact z
theorem zPsn_r (hb : zRb r) (hc : c < 9) : zr 0 18 (zPsn r c) := by
  unfold zPsn
  by_cases q : zRy r c = 0
  · rw [if_pos q]
    obtain ⟨n, e⟩ := z_F (m := 256) (hb (48 + c) (by omega)) (by decide)
    have g : ∀ n : Fin 256, 0 ≤ (Int32.ofNat n.val >>> ((4 : Int32) &&& 31)).toInt ∧ (Int32.ofNat n.val >>> ((4 : Int32) &&& 31)).toInt ≤ 18 := by decide +kernel
    rw [e]
    exact g n
  · rw [if_neg q]
    have g : ∀ n : Fin 9, 0 ≤ (Int32.ofNat n.val + 10).toInt ∧ (Int32.ofNat n.val + 10).toInt ≤ 18 := by decide
    exact g ⟨c, hc⟩
theorem zPB_r (hb : zRb r) (hc : c < 9) (hk : k < 8) : zr 0 255 (zPB r c k) := zPb_r hb (zPsn_r hb hc) hk
/-! the reference -/
noncomputable def zRm (r : Nat → Int32) (μ : zSt) : Prop := ∀ j : Nat, j < 64 → μ.1 3 (98 + j) = r j
theorem m_wreg (h : zRm r μ) {j : Nat} (hj : j < 64) {x : Int32} (hx : x = Int32.ofNat j) : zpc (fX12_wreg μ x) (fun q => q = (μ, r j)) := by
  subst hx
  unfold fX12_wreg
  rw [show (98 + Int32.ofNat j).toNatClampNeg = 98 + j from z_atk (a := 98) (m := j) (by omega), show zgi μ 3 (98 + j) = r j from h j hj]
  exact zpc_ck (zpc_some rfl)
theorem m_dig {x : Int32} : zpc (fX12_digit μ x) (fun q => q = (μ, zDg x)) := by
  unfold fX12_digit fX12_digit_20 zDg
  exact zpWif (fun _ => zpc_some rfl) (fun _ => zpc_some rfl)
theorem m_rhy (h : zRm r μ) : zpc (fX12_isRhythm μ (Int32.ofNat c)) (fun q => q = (μ, zRy r c)) := by
  unfold fX12_isRhythm fX12_isRhythm_21 fX12_isRhythm_22 zRy
  refine zpWif (fun _ => zpc_ck (zpc_some rfl)) (fun _ => zpc_bi (m_wreg h (j := 14) (by decide) rfl) (fun s1 v1 q => ?_))
  cases q
  exact zpWif (fun _ => zpc_ck (zpc_some rfl)) (fun _ => zpc_ck (zpc_some rfl))
theorem m_pb25 (h : zRm r μ) (hk : k < 8) {x s0 : Int32} (hx : x = Int32.ofNat k) : zpc (fX12_patchByte_25 μ x s0) (fun q => q = (μ, zPb r s0 k)) := by
  unfold fX12_patchByte_25 zPb
  refine zpWif (fun _ => zpc_bi (m_wreg h (j := k) (by omega) hx) (fun s1 v1 q => ?_)) (fun _ => zpc_bv (fun v1 e1 => ?_))
  · cases q
    exact zpc_some rfl
  · subst e1
    subst hx
    refine zpc_ck (zpc_ck (zpc_bi m_dig (fun s2 v3 q3 => ?_)))
    cases q3
    refine zpc_ck (zpc_ck (zpc_bi m_dig (fun s4 v5 q5 => ?_)))
    cases q5
    exact zpc_some rfl
theorem m_pb (h : zRm r μ) (hc : c < 9) (hk : k < 8) {x : Int32} (hx : x = Int32.ofNat k) : zpc (fX12_patchByte μ (Int32.ofNat c) x) (fun q => q = (μ, zPB r c k)) := by
  unfold fX12_patchByte
  refine zpc_bi (m_rhy h) (fun s8 v9 q => ?_)
  cases q
  unfold zPB zPsn
  by_cases z : zRy r c = 0
  · rw [if_pos z, if_pos z]
    refine zpc_bi (m_wreg h (j := 48 + c) (by omega) (show 48 + Int32.ofNat c = Int32.ofNat (48 + c) from z_ofA (a := 48))) (fun s10 v11 q => ?_)
    cases q
    exact m_pb25 h hk hx
  · rw [if_neg z, if_neg z]
    exact m_pb25 h hk hx
/-! the class -/
noncomputable def zRc4 (r : Nat → Int32) (σ : zSt) : Prop := ∀ j : Nat, j < 64 → σ.1 32 j = r j
theorem c_own (h : zRc4 r σ) (hb : zRb r) : zpc (fX10_takeOwnPatch σ ) (fun s => zQ [] [] [] [(5, 7, 7)] σ s ∧ zOwn r (s.2 5 7)) := by
  have go : ∀ (f i : Nat) (s : zSt), i ≤ 8 → zQ [] [] [] [(5, 7, 7)] σ s → (∀ m : Nat, m < i → ∀ j : Nat, j < 8 → (s.2 5 7).toBitVec.getLsbD (8 * m + j) = (r (i - 1 - m)).toBitVec.getLsbD j) → zpc (fX10_takeOwnPatch_7 f s (Int32.ofNat i)) (fun s => zQ [] [] [] [(5, 7, 7)] σ s ∧ zOwn r (s.2 5 7)) := by
    intro f
    induction f with
    | zero => intro i s _ _ _; exact zpc_none
    | succ f ih =>
      intro i s hi hd hin
      show zpc (fX10_takeOwnPatch_7_body (fX10_takeOwnPatch_7 f) s (Int32.ofNat i)) _
      unfold fX10_takeOwnPatch_7_body
      refine zpc_if (fun q => zpc_some ⟨hd, ?_⟩) (fun q => ?_)
      · have q1 := (z_ofL (k := 8) (i := i) (by omega) rfl).mp q
        obtain rfl : i = 8 := by omega
        exact fun m hm j hj => hin m hm j hj
      · have q1 : i < 8 := by
          have : ¬ 8 ≤ i := fun z => q ((z_ofL (c := 8) (k := 8) (i := i) (by omega) rfl).mpr z)
          omega
        rw [z_ofC (by omega), z_ofS (by omega)]
        have e32 : zgi s 32 i = r i := by
          show s.1 32 i = r i
          rw [hd.ro (k := 32) rfl]
          exact h i (by omega)
        rw [e32]
        refine zpc_ck (zpc_bv (fun s1 e1 => zpc_bv (fun v ev => ?_)))
        subst ev
        refine ih (i + 1) s1 (by omega) (by rw [e1]; exact zQ.wl hd rfl) (fun m hm j hj => ?_)
        rw [e1, zsl_ej, z_own1 (hb i (by omega)) (by omega)]
        by_cases z : m = 0
        · subst z
          rw [if_pos (by omega), show i + 1 - 1 - 0 = i by omega, show 8 * 0 + j = j by omega]
        · rw [if_neg (by omega), show 8 * m + j - 8 = 8 * (m - 1) + j by omega]
          have y := hin (m - 1) (by omega) j hj
          rw [show i - 1 - (m - 1) = i + 1 - 1 - m by omega] at y
          exact y
  unfold fX10_takeOwnPatch
  refine zpc_bv (fun s1 e1 => ?_)
  exact go zfuel 0 s1 (by decide) (by rw [e1]; exact zQ.wl zQ.rf rfl) (fun m hm => absurd hm (by omega))
/-- what the class holds of the channel that is being moved -/
noncomputable def zCh (r : Nat → Int32) (c : Nat) (σ : zSt) : Prop := σ.1 5 3 = Int32.ofNat c ∧ σ.1 5 4 = r (16 + c) ||| ((r (32 + c) &&& 1) <<< ((8 : Int32) &&& 31)) ∧ σ.1 5 5 = (r (32 + c) >>> ((1 : Int32) &&& 31)) &&& 7 ∧ ∀ k : Nat, k < 8 → ((zlushr (σ.2 5 6) (56 - (8 * Int32.ofNat k))).toInt32) &&& 255 = zPB r c k
theorem c_chan (h : zRc4 r σ) (hb : zRb r) (hc : c < 9) (hw : zOwn r (σ.2 5 7)) (h2 : σ.1 5 2 = if (r 14 &&& 32) = 0 then 0 else 1) : zpc (fX10_takeChannel σ (Int32.ofNat c)) (fun s => zQ [] [(5, 3, 5)] [] [(5, 6, 6)] σ s ∧ zCh r c s) := by
  unfold fX10_takeChannel fX10_takeChannel_71
  rw [show (16 + Int32.ofNat c).toNatClampNeg = 16 + c from z_atk (a := 16) (m := c) (by omega), show (32 + Int32.ofNat c).toNatClampNeg = 32 + c from z_atk (a := 32) (m := c) (by omega), show (48 + Int32.ofNat c).toNatClampNeg = 48 + c from z_atk (a := 48) (m := c) (by omega)]
  refine zpc_bv (fun s2 e2 => zpc_ck (zpc_ck (zpc_bv (fun s3 e3 => zpc_ck (zpc_bv (fun s4 e4 => ?_))))))
  have g2 : ∀ j : Nat, j < 64 → zgi s2 32 j = r j := fun j hj => by rw [e2]; exact h j hj
  have g3 : ∀ j : Nat, j < 64 → zgi s3 32 j = r j := fun j hj => by rw [e3, e2]; exact h j hj
  have g4 : ∀ j : Nat, j < 64 → zgi s4 32 j = r j := fun j hj => by rw [e4, e3, e2]; exact h j hj
  rw [g2 (16 + c) (by omega), g2 (32 + c) (by omega)] at e3
  rw [g3 (32 + c) (by omega)] at e4
  rw [g4 (48 + c) (by omega)]
  have f2 : zgi s4 5 2 = if (r 14 &&& 32) = 0 then 0 else 1 := by
    rw [e4, e3, e2]
    show (zsi (zsi (zsi σ 5 3 (Int32.ofNat c)) 5 4 (r (16 + c) ||| ((r (32 + c) &&& 1) <<< ((8 : Int32) &&& 31)))) 5 5 ((r (32 + c) >>> ((1 : Int32) &&& 31)) &&& 7)).1 5 2 = _
    rw [zsi_nj (by decide), zsi_nj (by decide), zsi_nj (by decide)]
    exact h2
  have fq : zQ [] [(5, 3, 5)] [] [(5, 6, 6)] σ s4 := by rw [e4, e3, e2]; exact zQ.wi (zQ.wi (zQ.wi zQ.rf rfl) rfl) rfl
  have f3 : s4.1 5 3 = Int32.ofNat c := by rw [e4, zsi_nj (by decide), e3, zsi_nj (by decide), e2, zsi_ej]
  have f4 : s4.1 5 4 = r (16 + c) ||| ((r (32 + c) &&& 1) <<< ((8 : Int32) &&& 31)) := by rw [e4, zsi_nj (by decide), e3, zsi_ej]
  have f5 : s4.1 5 5 = (r (32 + c) >>> ((1 : Int32) &&& 31)) &&& 7 := by rw [e4, zsi_ej]
  have f7 : s4.2 5 7 = σ.2 5 7 := by rw [e4, e3, e2]; rfl
  have go : ∀ s0 : Int32, s0 = zPsn r c → zpc (fX10_takeChannel_82 s4 s0) (fun s => zQ [] [(5, 3, 5)] [] [(5, 6, 6)] σ s ∧ zCh r c s) := fun s0 es => by
    have key : zpc (fX10_takeChannel_82 s4 s0) (fun s => s = zsl s4 5 6 (zPv (s4.2 5 7) s0)) := by
      unfold fX10_takeChannel_82 fX10_takeChannel_106 fX10_takeChannel_110 zPv
      by_cases q1 : s0 ≤ 0
      · rw [if_pos q1, if_pos q1]
        exact zpc_bv (fun s5 e5 => zpc_some e5)
      · rw [if_neg q1, if_neg q1]
        by_cases q2 : 18 < s0
        · rw [if_pos q2, if_pos q2]
          exact zpc_bv (fun s5 e5 => zpc_some e5)
        · rw [if_neg q2, if_neg q2]
          exact zpc_ck (zpc_bv (fun s5 e5 => zpc_some e5))
    refine zpc_mono key (fun s e => ?_)
    have hw' : zOwn r (s4.2 5 7) := by rw [f7]; exact hw
    refine ⟨by rw [e]; exact zQ.wl fq rfl, ?_, ?_, ?_, fun k hk => ?_⟩
    · rw [e]; exact f3
    · rw [e]; exact f4
    · rw [e]; exact f5
    · rw [e, zsl_ej, zPv_part hb hw' (by rw [es]; exact zPsn_r hb hc) hk, es]
      rfl
  rw [f2]
  have c0 : (0 : Int32).toInt = 0 := rfl
  by_cases z : (r 14 &&& 32) = 0
  · rw [if_pos z]
    refine zpc_if (fun _ => zpc_ck (go _ ?_)) (fun q => absurd rfl q)
    unfold zPsn zRy
    by_cases y : Int32.ofNat c ≤ 5
    · rw [if_pos y, if_pos rfl]
    · rw [if_neg y, if_pos z, if_pos rfl]
  · rw [if_neg z]
    refine zpc_if (fun q => absurd q (by decide)) (fun _ => zpc_if (fun q => zpc_ck (go _ ?_)) (fun q => go _ ?_))
    · have k : ∀ n : Fin 9, Int32.ofNat n.val < 6 → Int32.ofNat n.val ≤ 5 := by decide
      unfold zPsn zRy
      rw [if_pos (k ⟨c, hc⟩ q), if_pos rfl]
    · have k : ∀ n : Fin 9, ¬ Int32.ofNat n.val < 6 → ¬ Int32.ofNat n.val ≤ 5 := by decide
      unfold zPsn zRy
      rw [if_neg (k ⟨c, hc⟩ q), if_neg z, if_neg (by decide), Int32.add_comm]
/-- a byte of the patch -/
theorem c_part (h : zCh r c σ) (hk : k < 8) {x : Int32} (hx : x = Int32.ofNat k) : zpc (fX10_part σ x) (fun q => q = (σ, zPB r c k)) := by
  subst hx
  unfold fX10_part
  refine zpc_some ?_
  rw [show zgl σ 5 6 = σ.2 5 6 from rfl, h.2.2.2 k hk]
end ZWA
end ZJN7
section ZJN8
/-! WAVES: VALUES -/
section ZWB
variable {σ μ s t : zSt} {r : Nat → Int32} {c o k : Nat}
/-- is it on -/
noncomputable def zOn (r : Nat → Int32) (c o : Nat) : Int32 := if zRy r c = 0 then ((r (32 + c) >>> ((4 : Int32) &&& 31)) &&& 1) else if Int32.ofNat c = 6 then ((r (32 + c) >>> ((4 : Int32) &&& 31)) &&& 1) ||| ((r 14 >>> ((4 : Int32) &&& 31)) &&& 1) else if Int32.ofNat c = 7 then (if Int32.ofNat o = 0 then ((r (32 + c) >>> ((4 : Int32) &&& 31)) &&& 1) ||| ((r 14 >>> ((0 : Int32) &&& 31)) &&& 1) else ((r (32 + c) >>> ((4 : Int32) &&& 31)) &&& 1) ||| ((r 14 >>> ((3 : Int32) &&& 31)) &&& 1)) else (if Int32.ofNat o = 0 then ((r (32 + c) >>> ((4 : Int32) &&& 31)) &&& 1) ||| ((r 14 >>> ((2 : Int32) &&& 31)) &&& 1) else ((r (32 + c) >>> ((4 : Int32) &&& 31)) &&& 1) ||| ((r 14 >>> ((1 : Int32) &&& 31)) &&& 1))
noncomputable def zOnC (r : Nat → Int32) (c o : Nat) : Int32 := if (r (32 + c) &&& 16) = 0 then (if (if (r 14 &&& 32) = 0 then (0 : Int32) else 1) = 0 then 0 else if Int32.ofNat c = 6 then (if (r 14 &&& 16) = 0 then 0 else 1) else if Int32.ofNat c = 7 then (if Int32.ofNat o = 0 then (if (r 14 &&& 1) = 0 then 0 else 1) else (if (r 14 &&& 8) = 0 then 0 else 1)) else if Int32.ofNat c = 8 then (if Int32.ofNat o = 0 then (if (r 14 &&& 4) = 0 then 0 else 1) else (if (r 14 &&& 2) = 0 then 0 else 1)) else 0) else 1
theorem z_bt4w : ∀ n : Fin 256, (Int32.ofNat n.val >>> ((4 : Int32) &&& 31)) &&& 1 = if (Int32.ofNat n.val &&& 16) = 0 then 0 else 1 := by decide +kernel
theorem zOnC_g : ∀ (m : Fin 256) (o : Fin 2) (c : Fin 9) (B : Fin 2), (if Int32.ofNat B.val = 0 then (if (if (Int32.ofNat m.val &&& 32) = 0 then (0 : Int32) else 1) = 0 then 0 else if Int32.ofNat c.val = 6 then (if (Int32.ofNat m.val &&& 16) = 0 then 0 else 1) else if Int32.ofNat c.val = 7 then (if Int32.ofNat o.val = 0 then (if (Int32.ofNat m.val &&& 1) = 0 then 0 else 1) else (if (Int32.ofNat m.val &&& 8) = 0 then 0 else 1)) else if Int32.ofNat c.val = 8 then (if Int32.ofNat o.val = 0 then (if (Int32.ofNat m.val &&& 4) = 0 then 0 else 1) else (if (Int32.ofNat m.val &&& 2) = 0 then 0 else 1)) else 0) else (1 : Int32)) = (if (if Int32.ofNat c.val ≤ 5 then (0 : Int32) else (if (Int32.ofNat m.val &&& 32) = 0 then 0 else 1)) = 0 then Int32.ofNat B.val else if Int32.ofNat c.val = 6 then Int32.ofNat B.val ||| ((Int32.ofNat m.val >>> ((4 : Int32) &&& 31)) &&& 1) else if Int32.ofNat c.val = 7 then (if Int32.ofNat o.val = 0 then Int32.ofNat B.val ||| ((Int32.ofNat m.val >>> ((0 : Int32) &&& 31)) &&& 1) else Int32.ofNat B.val ||| ((Int32.ofNat m.val >>> ((3 : Int32) &&& 31)) &&& 1)) else (if Int32.ofNat o.val = 0 then Int32.ofNat B.val ||| ((Int32.ofNat m.val >>> ((2 : Int32) &&& 31)) &&& 1) else Int32.ofNat B.val ||| ((Int32.ofNat m.val >>> ((1 : Int32) &&& 31)) &&& 1))) := by decide +kernel
theorem zOnC_eq (hb : zRb r) (hc : c < 9) (ho : o < 2) : zOnC r c o = zOn r c o := by
  obtain ⟨m, em⟩ := z_F (m := 256) (hb 14 (by decide)) (by decide)
  obtain ⟨n, en⟩ := z_F (m := 256) (hb (32 + c) (by omega)) (by decide)
  unfold zOnC zOn zRy
  rw [en, em, z_bt4w n]
  by_cases q : (Int32.ofNat n.val &&& 16) = 0
  · simp only [if_pos q]
    have z := zOnC_g m ⟨o, ho⟩ ⟨c, hc⟩ 0
    rw [if_pos (show Int32.ofNat ((0 : Fin 2).val) = 0 from rfl)] at z
    exact z
  · simp only [if_neg q]
    have z := zOnC_g m ⟨o, ho⟩ ⟨c, hc⟩ 1
    rw [if_neg (show ¬ Int32.ofNat ((1 : Fin 2).val) = 0 by decide)] at z
    exact z
theorem zOn_r (hb : zRb r) (hc : c < 9) (ho : o < 2) : zOn r c o = 0 ∨ zOn r c o = 1 := by
  rw [← zOnC_eq hb hc ho]
  unfold zOnC
  repeat' split
  all_goals first | exact Or.inl rfl | exact Or.inr rfl
theorem m_on (h : zRm r μ) (hc : c < 9) : zpc (fX12_isOn μ (Int32.ofNat c) (Int32.ofNat o)) (fun q => q = (μ, zOn r c o)) := by
  unfold fX12_isOn fX12_isOn_60
  refine zpc_bi (m_wreg h (j := 32 + c) (by omega) (show 32 + Int32.ofNat c = Int32.ofNat (32 + c) from z_ofA (a := 32))) (fun s3 v4 q => ?_)
  cases q
  refine zpc_bv (fun v5 e5 => ?_)
  subst e5
  refine zpc_bi (m_rhy h) (fun s6 v7 q => ?_)
  cases q
  have w : ∀ (B k : Int32), zpc (zbi (fX12_wreg μ 14) (fun σ1 v2 => some (σ1, B ||| ((v2 >>> (k &&& 31)) &&& 1)))) (fun q => q = (μ, B ||| ((r 14 >>> (k &&& 31)) &&& 1))) := fun B k => zpc_bi (m_wreg h (j := 14) (by decide) rfl) (fun s v q => by cases q; exact zpc_some rfl)
  unfold zOn
  exact zpWif (fun _ => zpc_some rfl) (fun _ => zpWif (fun _ => w _ 4) (fun _ => zpWif (fun _ => zpWif (fun _ => w _ 0) (fun _ => w _ 3)) (fun _ => zpWif (fun _ => w _ 2) (fun _ => w _ 1))))
/-- the class: registers, channel -/
noncomputable def zCk (r : Nat → Int32) (c : Nat) (σ : zSt) : Prop := zRc4 r σ ∧ zCh r c σ ∧ σ.1 5 2 = if (r 14 &&& 32) = 0 then 0 else 1
theorem c_on (h : zCk r c σ) (hb : zRb r) (hc : c < 9) (ho : o < 2) : zpc (fX10_isOn σ (Int32.ofNat o)) (fun q => q = (σ, zOn r c o)) := by
  rw [← zOnC_eq hb hc ho]
  unfold fX10_isOn fX10_isOn_78 fX10_isOn_96 fX10_isOn_105 fX10_isOn_122 fX10_isOn_131 zOnC
  rw [show zgi σ 5 3 = Int32.ofNat c from h.2.1.1, show zgi σ 5 2 = (if (r 14 &&& 32) = 0 then 0 else 1) from h.2.2, show (32 + Int32.ofNat c).toNatClampNeg = 32 + c from z_atk (a := 32) (m := c) (by omega), show zgi σ 32 (32 + c) = r (32 + c) from h.1 _ (by omega), show zgi σ 32 (14 : Int32).toNatClampNeg = r 14 from h.1 14 (by decide)]
  have w : ∀ (p : Prop) (d1 d2 : Decidable p), zpc (@ite _ p d1 (zck (zbo 0) (some (σ, (0 : Int32)))) (zck (zbo 1) (some (σ, 1)))) (fun q => q = (σ, @ite _ p d2 0 1)) := fun p d1 d2 => zpWif (fun _ => zpc_ck (zpc_some rfl)) (fun _ => zpc_ck (zpc_some rfl))
  exact zpc_ck (zpWif (fun _ => zpWif (fun _ => zpc_ck (zpc_some rfl)) (fun _ => zpWif (fun _ => zpc_ck (w _ _ _)) (fun _ => zpWif (fun _ => zpc_ck (zpWif (fun _ => w _ _ _) (fun _ => w _ _ _))) (fun _ => zpWif (fun _ => zpc_ck (zpWif (fun _ => w _ _ _) (fun _ => w _ _ _))) (fun _ => zpc_ck (zpc_some rfl)))))) (fun _ => zpc_ck (zpc_some rfl)))
/-! rate -/
noncomputable def zRa7 (r : Nat → Int32) (c o : Nat) (x s0 : Int32) : Int32 := if x = 0 then 12 else if x = 1 then (zPB r c (4 + o) >>> ((4 : Int32) &&& 31)) else if x = 2 then zPB r c (4 + o) &&& 15 else if x = 3 then (if s0 = 0 then zPB r c (6 + o) &&& 15 else 0) else if (r (32 + c) &&& 32) = 0 then (if s0 = 0 then 7 else zPB r c (6 + o) &&& 15) else 5
noncomputable def zRa (r : Nat → Int32) (c o : Nat) (x : Int32) : Int32 := if (zPB r c o &&& 32) = 0 then zRa7 r c o x 0 else zRa7 r c o x 1
theorem m_rate (h : zRm r μ) (hc : c < 9) (ho : o < 2) {x : Int32} : zpc (fX12_rate μ x (Int32.ofNat c) (Int32.ofNat o)) (fun q => q = (μ, zRa r c o x)) := by
  unfold fX12_rate
  refine zpc_bi (m_pb h hc (k := o) (by omega) rfl) (fun s v q => ?_)
  cases q
  have e4 : 4 + Int32.ofNat o = Int32.ofNat (4 + o) := z_ofA (a := 4)
  have e6 : 6 + Int32.ofNat o = Int32.ofNat (6 + o) := z_ofA (a := 6)
  have go : ∀ s0, zpc (fX12_rate_17 μ x (Int32.ofNat c) (Int32.ofNat o) s0) (fun q => q = (μ, zRa7 r c o x s0)) := fun s0 => by
    unfold fX12_rate_17 fX12_rate_140 fX12_rate_99 zRa7
    refine zpWif (fun _ => zpc_some rfl) (fun _ => zpWif (fun _ => zpc_bi (m_pb h hc (k := 4 + o) (by omega) e4) (fun s v q => ?_)) (fun _ => zpWif (fun _ => zpc_bi (m_pb h hc (k := 4 + o) (by omega) e4) (fun s v q => ?_)) (fun _ => zpWif (fun _ => zpWif (fun _ => zpc_bi (m_pb h hc (k := 6 + o) (by omega) e6) (fun s v q => ?_)) (fun _ => zpc_some rfl)) (fun _ => zpc_bi (m_wreg h (j := 32 + c) (by omega) (show 32 + Int32.ofNat c = Int32.ofNat (32 + c) from z_ofA (a := 32))) (fun s v q => ?_)))))
    · cases q; exact zpc_some rfl
    · cases q; exact zpc_some rfl
    · cases q; exact zpc_some rfl
    · cases q
      refine zpWif (fun _ => zpWif (fun _ => zpc_some rfl) (fun _ => zpc_bi (m_pb h hc (k := 6 + o) (by omega) e6) (fun s v q => ?_))) (fun _ => zpc_some rfl)
      cases q; exact zpc_some rfl
  unfold zRa
  exact zpWif (fun _ => go 0) (fun _ => go 1)
theorem c_rate (h : zCk r c σ) (hc : c < 9) (ho : o < 2) {x : Int32} : zpc (fX10_rateIn σ x (Int32.ofNat o)) (fun q => q = (σ, zRa r c o x)) := by
  unfold fX10_rateIn
  refine zpc_bi (c_part h.2.1 (k := o) (by omega) rfl) (fun s v q => ?_)
  cases q
  have e4 : 4 + Int32.ofNat o = Int32.ofNat (4 + o) := z_ofA (a := 4)
  have e6 : 6 + Int32.ofNat o = Int32.ofNat (6 + o) := z_ofA (a := 6)
  have go : ∀ s0, zpc (fX10_rateIn_16 σ x (Int32.ofNat o) s0) (fun q => q = (σ, zRa7 r c o x s0)) := fun s0 => by
    unfold fX10_rateIn_16 fX10_rateIn_126 fX10_rateIn_94 zRa7
    refine zpc_bi (c_part h.2.1 (k := 6 + o) (by omega) e6) (fun s v q => ?_)
    cases q
    refine zpc_bv (fun v3 e3 => ?_)
    subst e3
    rw [show zgi σ 5 3 = Int32.ofNat c from h.2.1.1, show (32 + Int32.ofNat c).toNatClampNeg = 32 + c from z_atk (a := 32) (m := c) (by omega), show zgi σ 32 (32 + c) = r (32 + c) from h.1 _ (by omega)]
    refine zpWif (fun _ => zpc_some rfl) (fun _ => zpWif (fun _ => zpc_bi (c_part h.2.1 (k := 4 + o) (by omega) e4) (fun s v q => ?_)) (fun _ => zpWif (fun _ => zpc_bi (c_part h.2.1 (k := 4 + o) (by omega) e4) (fun s v q => ?_)) (fun _ => zpWif (fun _ => zpWif (fun _ => zpc_some rfl) (fun _ => zpc_some rfl)) (fun _ => zpc_ck (zpWif (fun _ => zpWif (fun _ => zpc_some rfl) (fun _ => zpc_some rfl)) (fun _ => zpc_some rfl))))))
    · cases q; exact zpc_some rfl
    · cases q; exact zpc_some rfl
  unfold zRa
  exact zpWif (fun _ => go 0) (fun _ => go 1)
theorem z_nib : ∀ n : Fin 256, (0 ≤ ((Int32.ofNat n.val >>> ((4 : Int32) &&& 31))).toInt ∧ ((Int32.ofNat n.val >>> ((4 : Int32) &&& 31))).toInt ≤ 15) ∧ (0 ≤ (Int32.ofNat n.val &&& 15).toInt ∧ (Int32.ofNat n.val &&& 15).toInt ≤ 15) := by decide +kernel
theorem zRa_r (hb : zRb r) (hc : c < 9) (ho : o < 2) {x : Int32} : zr 0 15 (zRa r c o x) := by
  have n1 : ∀ k : Nat, k < 8 → zr 0 15 ((zPB r c k) >>> ((4 : Int32) &&& 31)) ∧ zr 0 15 (zPB r c k &&& 15) := fun k hk => by
    obtain ⟨n, e⟩ := z_F (m := 256) (zPB_r hb hc hk) (by decide)
    rw [e]
    exact z_nib n
  have a4 := n1 (4 + o) (by omega)
  have a6 := n1 (6 + o) (by omega)
  have key : ∀ s0 : Int32, zr 0 15 (zRa7 r c o x s0) := fun s0 => by
    unfold zRa7
    by_cases h0 : x = 0
    · rw [if_pos h0]; exact zr_c (by decide)
    rw [if_neg h0]
    by_cases h1 : x = 1
    · rw [if_pos h1]; exact a4.1
    rw [if_neg h1]
    by_cases h2 : x = 2
    · rw [if_pos h2]; exact a4.2
    rw [if_neg h2]
    by_cases h3 : x = 3
    · rw [if_pos h3]
      by_cases h4 : s0 = 0
      · rw [if_pos h4]; exact a6.2
      · rw [if_neg h4]; exact zr_c (by decide)
    rw [if_neg h3]
    by_cases h5 : (r (32 + c) &&& 32) = 0
    · rw [if_pos h5]
      by_cases h4 : s0 = 0
      · rw [if_pos h4]; exact zr_c (by decide)
      · rw [if_neg h4]; exact a6.2
    · rw [if_neg h5]; exact zr_c (by decide)
  unfold zRa
  by_cases q : (zPB r c o &&& 32) = 0
  · rw [if_pos q]; exact key 0
  · rw [if_neg q]; exact key 1
/-! f, block, key -/
noncomputable def zFq (r : Nat → Int32) (c : Nat) : Int32 := r (16 + c) ||| ((r (32 + c) &&& 1) <<< ((8 : Int32) &&& 31))
noncomputable def zBkw (r : Nat → Int32) (c : Nat) : Int32 := (r (32 + c) >>> ((1 : Int32) &&& 31)) &&& 7
theorem m_f (h : zRm r μ) (hc : c < 9) : zpc (fX12_f μ (Int32.ofNat c)) (fun q => q = (μ, zFq r c)) := by
  unfold fX12_f
  refine zpc_bi (m_wreg h (j := 16 + c) (by omega) (show 16 + Int32.ofNat c = Int32.ofNat (16 + c) from z_ofA (a := 16))) (fun s v q => ?_)
  cases q
  refine zpc_bi (m_wreg h (j := 32 + c) (by omega) (show 32 + Int32.ofNat c = Int32.ofNat (32 + c) from z_ofA (a := 32))) (fun s v q => ?_)
  cases q
  exact zpc_some rfl
theorem m_blk (h : zRm r μ) (hc : c < 9) : zpc (fX12_block μ (Int32.ofNat c)) (fun q => q = (μ, zBkw r c)) := by
  unfold fX12_block
  refine zpc_bi (m_wreg h (j := 32 + c) (by omega) (show 32 + Int32.ofNat c = Int32.ofNat (32 + c) from z_ofA (a := 32))) (fun s v q => ?_)
  cases q
  exact zpc_some rfl
theorem z_f9 : ∀ n : Fin 256, (0 ≤ (Int32.ofNat n.val ||| ((0 : Int32) <<< ((8 : Int32) &&& 31))).toInt ∧ (Int32.ofNat n.val ||| ((0 : Int32) <<< ((8 : Int32) &&& 31))).toInt ≤ 511) ∧ (0 ≤ (Int32.ofNat n.val ||| ((1 : Int32) <<< ((8 : Int32) &&& 31))).toInt ∧ (Int32.ofNat n.val ||| ((1 : Int32) <<< ((8 : Int32) &&& 31))).toInt ≤ 511) := by decide +kernel
theorem z_lo1 : ∀ n : Fin 256, Int32.ofNat n.val &&& 1 = 0 ∨ Int32.ofNat n.val &&& 1 = 1 := by decide +kernel
theorem zFq_r (hb : zRb r) (hc : c < 9) : zr 0 511 (zFq r c) := by
  obtain ⟨n, en⟩ := z_F (m := 256) (hb (16 + c) (by omega)) (by decide)
  obtain ⟨m, em⟩ := z_F (m := 256) (hb (32 + c) (by omega)) (by decide)
  unfold zFq
  rw [en, em]
  rcases z_lo1 m with z | z
  · rw [z]; exact (z_f9 n).1
  · rw [z]; exact (z_f9 n).2
theorem z_bk7 : ∀ n : Fin 256, 0 ≤ ((Int32.ofNat n.val >>> ((1 : Int32) &&& 31)) &&& 7).toInt ∧ ((Int32.ofNat n.val >>> ((1 : Int32) &&& 31)) &&& 7).toInt ≤ 7 := by decide +kernel
theorem zBk_r (hb : zRb r) (hc : c < 9) : zr 0 7 (zBkw r c) := by
  obtain ⟨m, em⟩ := z_F (m := 256) (hb (32 + c) (by omega)) (by decide)
  unfold zBkw
  rw [em]
  exact z_bk7 m
theorem z_f256 {x : Int32} (h : zr 0 511 x) : (x >>> ((8 : Int32) &&& 31)) = x / 256 ∧ zr 0 1 (x / 256) := by
  obtain ⟨n, e⟩ := z_F (m := 512) h (by decide)
  have k : ∀ n : Fin 512, (Int32.ofNat n.val >>> ((8 : Int32) &&& 31)) = Int32.ofNat n.val / 256 ∧ (0 ≤ (Int32.ofNat n.val / 256).toInt ∧ (Int32.ofNat n.val / 256).toInt ≤ 1) := by decide +kernel
  rw [e]
  exact k n
/-- the key, parted by four where the patch says so -/
noncomputable def zKey (r : Nat → Int32) (c o : Nat) : Int32 := if (zPB r c o &&& 16) = 0 then ((2 * zBkw r c) + (zFq r c / 256)) / 4 else (2 * zBkw r c) + (zFq r c / 256)
theorem z_k15 : ∀ (a : Fin 8) (b : Fin 2), (0 ≤ ((2 * Int32.ofNat a.val) + Int32.ofNat b.val).toInt ∧ ((2 * Int32.ofNat a.val) + Int32.ofNat b.val).toInt ≤ 15) ∧ (0 ≤ (((2 * Int32.ofNat a.val) + Int32.ofNat b.val) / 4).toInt ∧ (((2 * Int32.ofNat a.val) + Int32.ofNat b.val) / 4).toInt ≤ 15) := by decide +kernel
theorem zKey_r (hb : zRb r) (hc : c < 9) : zr 0 15 (zKey r c o) := by
  obtain ⟨a, ea⟩ := z_F (m := 8) (zBk_r hb hc) (by decide)
  obtain ⟨b, eb⟩ := z_F (m := 2) (z_f256 (zFq_r hb hc)).2 (by decide)
  unfold zKey
  rw [ea, eb]
  split
  · exact (z_k15 a b).2
  · exact (z_k15 a b).1
end ZWB
end ZJN8
section ZJN9
/-! WAVES: TICKS, LEVEL -/
section ZWC
variable {σ μ s t : zSt} {r : Nat → Int32} {c o m h l : Nat}
noncomputable def zTi9 (i l : Int32) : Int32 := if l ≤ 1 then 0 else if i = 2 then 1 else if i = 6 then 1 else 0
noncomputable def zTiw (i l : Int32) : Int32 := if zrem i 2 = 1 then 1 else if zrem l 2 = 1 then (if i = 4 then 1 else zTi9 i l) else zTi9 i l
theorem m_t {i l : Int32} : zpc (fX12_t μ i l) (fun q => q = (μ, zTiw i l)) := by
  have g : zpc (fX12_t_19 μ i l) (fun q => q = (μ, zTi9 i l)) := by
    unfold fX12_t_19 fX12_t_39 fX12_t_35 fX12_t_40 zTi9
    exact zpWif (fun _ => zpc_some rfl) (fun _ => zpWif (fun _ => zpc_some rfl) (fun _ => zpWif (fun _ => zpc_some rfl) (fun _ => zpc_some rfl)))
  unfold fX12_t fX12_t_35 fX12_t_40 zTiw
  exact zpc_ck (zpWif (fun _ => zpc_some rfl) (fun _ => zpc_ck (zpWif (fun _ => zpWif (fun _ => zpc_some rfl) (fun _ => g)) (fun _ => g))))
theorem z_tick : ∀ (i : Fin 8) (l : Fin 4), (zt6 l.val >>> (Int32.ofNat i.val &&& 31)) &&& 1 = zTiw (Int32.ofNat i.val) (Int32.ofNat l.val) := by decide +kernel
theorem zTi_01 {i l : Int32} : zTiw i l = 0 ∨ zTiw i l = 1 := by
  unfold zTiw zTi9
  repeat' split
  all_goals first | exact Or.inl rfl | exact Or.inr rfl
theorem zNn_i (hm : m ≤ 1000000000) : (Int32.ofNat m).toInt = (m : Int) := Int32.toInt_ofNat_of_lt (by omega)
theorem zNn_q (hm : m ≤ 1000000000) {sh : Int32} {e : Nat} (hs : (sh.toBitVec.smod 32).toNat = e) : Int32.ofNat m >>> sh = Int32.ofNat (m / 2 ^ e) := by
  refine z_ofN ?_
  rw [z_quo (by rw [zNn_i hm]; omega) hs, zNn_i hm]
  exact (Int.natCast_ediv m (2 ^ e)).symm
theorem zNn_a (hm : m ≤ 1000000000) {ma : Int32} {e : Nat} (he : e < 31) (hs : ma.toBitVec.toNat = 2 ^ e - 1) : Int32.ofNat m &&& ma = Int32.ofNat (m % 2 ^ e) := by
  refine z_ofN ?_
  rw [z_mask (by rw [zNn_i hm]; omega) hs he, zNn_i hm]
  exact (Int.natCast_emod m (2 ^ e)).symm
theorem zNn_o {a : Nat} (ha : a ≤ 1000000000) : Int32.ofNat a = 0 ↔ a = 0 := by
  constructor
  · intro z
    have y := congrArg Int32.toInt z
    rw [zNn_i ha, show (0 : Int32).toInt = 0 from rfl] at y
    omega
  · intro z
    rw [z]
    rfl
/-- the slow count -/
noncomputable def zUu (m : Nat) : Int32 := Int32.ofNat (2 * (m / 4 % 4))
theorem z_u4 : ∀ v : Fin 4, 2 * Int32.ofNat v.val = Int32.ofNat (2 * v.val) ∧ (2 * Int64.ofNat v.val).toInt32 = Int32.ofNat (2 * v.val) := by decide +kernel
theorem z_of64 {x : Int64} {v : Nat} (h : x.toInt = (v : Int)) (hv : v < 1000000) : x = Int64.ofNat v := Int64.toInt_inj.mp (by rw [h, Int64.toInt_ofNat_of_lt (by omega)])
theorem c_slow (hn : σ.1 32 66 = Int32.ofNat m) (hm : m ≤ 1000000000) : zpc (fX10_slowTick σ ) (fun q => q = (σ, zUu m)) := by
  unfold fX10_slowTick
  rw [show zgi σ 32 (66 : Int32).toNatClampNeg = Int32.ofNat m from hn, zNn_q hm (e := 2) (by decide), zNn_a (m := m / 2 ^ 2) (e := 2) (by omega) (by decide) (by decide)]
  refine zpc_ck (zpc_some ?_)
  have z := (z_u4 ⟨m / 2 ^ 2 % 2 ^ 2, by omega⟩).1
  unfold zUu
  rw [show m / 4 % 4 = m / 2 ^ 2 % 2 ^ 2 from rfl, ← z]
theorem m_slow {L : Int64} (hL : L.toInt = (m : Int)) (hm : m ≤ 1000000000) : (2 * (zreml (L / 4) 4)).toInt32 = zUu m := by
  have d := z_tldiv (x := L) (y := 4) (a := 0) (b := 1000000000) 4 rfl ⟨by omega, by omega⟩ (by decide)
  have e := z_tlrem (x := L / 4) (y := 4) (a := 0) (b := 1000000000) 4 rfl ⟨by rw [d]; omega, by rw [d]; omega⟩ (by decide)
  have f : zreml (L / 4) 4 = Int64.ofNat (m / 4 % 4) := z_of64 (by rw [e, d, hL]; omega) (by omega)
  rw [f, (z_u4 ⟨m / 4 % 4, by omega⟩).2]
  rfl
/-- the tick that comes at h -/
noncomputable def zTkw (m h l : Nat) : Int32 := if m % 2 ^ (13 - h) = 0 then zTiw (Int32.ofNat (m / 2 ^ (13 - h) % 8)) (Int32.ofNat l) else 0
theorem z_h13 : ∀ h : Fin 13, ((1 <<< ((13 - Int32.ofNat h.val) &&& 31)) - 1 : Int32).toBitVec.toNat = 2 ^ (13 - h.val) - 1 ∧ (((13 - Int32.ofNat h.val) &&& 31 : Int32).toBitVec.smod 32).toNat = 13 - h.val ∧ (zlshl 1 (13 - Int32.ofNat h.val)).toInt = ((2 ^ (13 - h.val) : Nat) : Int) := by decide +kernel
theorem z_pw : ∀ h : Fin 13, 0 < 2 ^ (13 - h.val) ∧ 2 ^ (13 - h.val) ≤ 8192 := by decide
theorem c_tick (hn : σ.1 32 66 = Int32.ofNat m) (hm : m ≤ 1000000000) (hh : h < 13) (hl : l < 4) : zpc (fX10_tickAt σ (Int32.ofNat h) (zt6 l)) (fun q => q = (σ, zTkw m h l)) := by
  obtain ⟨f1, f2, _⟩ := z_h13 ⟨h, hh⟩
  obtain ⟨p1, p2⟩ := z_pw ⟨h, hh⟩
  have f1 : ((1 <<< ((13 - Int32.ofNat h) &&& 31)) - 1 : Int32).toBitVec.toNat = 2 ^ (13 - h) - 1 := f1
  have f2 : (((13 - Int32.ofNat h) &&& 31 : Int32).toBitVec.smod 32).toNat = 13 - h := f2
  have dl : m / 2 ^ (13 - h) ≤ 1000000000 := Nat.le_trans (Nat.div_le_self _ _) hm
  have ml : m % 2 ^ (13 - h) ≤ 1000000000 := Nat.le_trans (Nat.mod_le _ _) hm
  unfold fX10_tickAt fX10_tickAt_26 fX10_tickAt_53 zTkw
  refine zpc_bv (fun v1 e1 => ?_)
  subst e1
  rw [show zgi σ 32 (66 : Int32).toNatClampNeg = Int32.ofNat m from hn, zNn_a hm (by omega) f1, zNn_q hm f2, zNn_a (m := m / 2 ^ (13 - h)) (e := 3) dl (by decide) (by decide)]
  refine zpc_ck ?_
  by_cases q : m % 2 ^ (13 - h) = 0
  · rw [if_pos q, if_pos ((zNn_o ml).mpr q)]
    refine zpc_if (fun z => absurd z (by decide)) (fun _ => zpc_ck (zpc_some ?_))
    rw [show m / 2 ^ (13 - h) % 2 ^ 3 = m / 2 ^ (13 - h) % 8 from rfl]
    have z := z_tick ⟨m / 2 ^ (13 - h) % 8, by omega⟩ ⟨l, hl⟩
    have z : (zt6 l >>> (Int32.ofNat (m / 2 ^ (13 - h) % 8) &&& 31)) &&& 1 = zTiw (Int32.ofNat (m / 2 ^ (13 - h) % 8)) (Int32.ofNat l) := z
    rw [z]
  · rw [if_neg q, if_neg (fun z => q ((zNn_o ml).mp z))]
    exact zpc_if (fun _ => zpc_some rfl) (fun z => absurd rfl z)
/-- the same count of the reference -/
theorem m_tick {L : Int64} (hL : L.toInt = (m : Int)) (hm : m ≤ 1000000000) (hh : h < 13) : (lg_cmp (zreml L (zlshl 1 (13 - Int32.ofNat h))) 0 = 0 ↔ m % 2 ^ (13 - h) = 0) ∧ (zreml (L / (zlshl 1 (13 - Int32.ofNat h))) 8).toInt32 = Int32.ofNat (m / 2 ^ (13 - h) % 8) := by
  obtain ⟨_, _, f3⟩ := z_h13 ⟨h, hh⟩
  obtain ⟨p1, p2⟩ := z_pw ⟨h, hh⟩
  have f3 : (zlshl 1 (13 - Int32.ofNat h)).toInt = ((2 ^ (13 - h) : Nat) : Int) := f3
  have p1 : 0 < 2 ^ (13 - h) := p1
  have d := z_tldiv (x := L) (a := 0) (b := 1000000000) _ f3 ⟨by omega, by omega⟩ ⟨by decide, by exact_mod_cast p1⟩
  have e := z_tlrem (x := L) (a := 0) (b := 1000000000) _ f3 ⟨by omega, by omega⟩ ⟨by decide, by exact_mod_cast p1⟩
  rw [hL, ← Int.natCast_ediv] at d
  rw [hL, ← Int.natCast_emod] at e
  refine ⟨?_, ?_⟩
  · generalize m % 2 ^ (13 - h) = E at e ⊢
    rw [z_cmp_eq]
    constructor
    · intro z
      rw [z, show (0 : Int64).toInt = 0 from rfl] at e
      omega
    · intro z
      rw [z] at e
      exact Int64.toInt_inj.mp e
  · have dl : m / 2 ^ (13 - h) ≤ 1000000000 := Nat.le_trans (Nat.div_le_self _ _) hm
    generalize m / 2 ^ (13 - h) = D at d dl ⊢
    have g := z_tlrem (x := L / (zlshl 1 (13 - Int32.ofNat h))) (y := 8) (a := 0) (b := 1000000000) 8 rfl ⟨by rw [d]; omega, by rw [d]; omega⟩ (by decide)
    refine z_ofN ?_
    rw [Int64.toInt_toInt32, g, d, Int.bmod_eq_of_le (by omega) (by omega)]
    omega
/-! the level -/
/-- u, and the odd one behind it -/
noncomputable def zLn2 (m h l : Nat) (v x : Int32) : Int32 := if x = 1 then (if h = 15 then 0 else if h < 12 then (if zTkw m h l = 1 then (v - (v / 16)) - 1 else v) else (v - (v >>> (((16 - Int32.ofNat h) - zTiw (zUu m) (Int32.ofNat l)) &&& 31))) - 1) else v + (if h = 13 then zTiw (Int32.ofNat (2 * (m / 4 % 4) + m % 2)) (Int32.ofNat l) else if h = 14 then zTiw (zUu m) (Int32.ofNat l) + 1 else if h = 15 then 2 else zTkw m h l)
/-- the level, held within its bounds -/
noncomputable def zLn3 (m h l : Nat) (v x : Int32) : Int32 := if x = 1 then zmax 0 (zLn2 m h l v x) else zmin 127 (zLn2 m h l v x)
theorem z_u8 : ∀ (v : Fin 4) (b : Fin 2) (l : Fin 4), (zt6 l.val >>> (Int32.ofNat (2 * v.val) &&& 31)) &&& 1 = zTiw (Int32.ofNat (2 * v.val)) (Int32.ofNat l.val) ∧ (zt6 l.val >>> ((Int32.ofNat (2 * v.val) + Int32.ofNat b.val) &&& 31)) &&& 1 = zTiw (Int32.ofNat (2 * v.val + b.val)) (Int32.ofNat l.val) := by decide +kernel
theorem z_hq : ∀ h : Fin 16, (Int32.ofNat h.val = 15 ↔ h.val = 15) ∧ (Int32.ofNat h.val = 14 ↔ h.val = 14) ∧ (Int32.ofNat h.val = 13 ↔ h.val = 13) ∧ (Int32.ofNat h.val < 12 ↔ h.val < 12) ∧ (12 ≤ Int32.ofNat h.val ↔ ¬ h.val < 12) ∧ (13 ≤ Int32.ofNat h.val ↔ ¬ h.val < 13) := by decide
theorem c_louder (hn : σ.1 32 66 = Int32.ofNat m) (hm : m ≤ 1000000000) (hh : h < 16) (hl : l < 4) {v : Int32} : zpc (fX10_louder σ v (Int32.ofNat h) (zt6 l)) (fun q => q = (σ, zLn2 m h l v 1)) := by
  obtain ⟨h15, _, _, h12, _, _⟩ := z_hq ⟨h, hh⟩
  have h15 : Int32.ofNat h = 15 ↔ h = 15 := h15
  have h12 : Int32.ofNat h < 12 ↔ h < 12 := h12
  have u1 := (z_u8 ⟨m / 4 % 4, by omega⟩ 0 ⟨l, hl⟩).1
  have u1 : (zt6 l >>> (zUu m &&& 31)) &&& 1 = zTiw (zUu m) (Int32.ofNat l) := u1
  unfold fX10_louder fX10_louder_56 zLn2
  rw [if_pos rfl]
  by_cases q : h = 15
  · rw [if_pos q, if_pos (h15.mpr q)]
    exact zpc_some rfl
  rw [if_neg q, if_neg (fun z => q (h15.mp z))]
  by_cases y : h < 12
  · rw [if_pos y, if_pos (h12.mpr y)]
    refine zpc_bi (c_tick hn hm (by omega) hl) (fun s v q => ?_)
    cases q
    exact zpWif (fun _ => zpc_ck (zpc_some rfl)) (fun _ => zpc_some rfl)
  · rw [if_neg y, if_neg (fun z => y (h12.mp z))]
    refine zpc_bi (c_slow hn hm) (fun s v q => ?_)
    cases q
    rw [u1]
    exact zpc_some rfl
theorem c_softer (hn : σ.1 32 66 = Int32.ofNat m) (hm : m ≤ 1000000000) (hh : h < 16) (hl : l < 4) : zpc (fX10_softer σ (Int32.ofNat h) (zt6 l)) (fun q => q = (σ, if h = 13 then zTiw (Int32.ofNat (2 * (m / 4 % 4) + m % 2)) (Int32.ofNat l) else if h = 14 then zTiw (zUu m) (Int32.ofNat l) + 1 else if h = 15 then 2 else zTkw m h l)) := by
  obtain ⟨h15, h14, h13, _, _, _⟩ := z_hq ⟨h, hh⟩
  have h15 : Int32.ofNat h = 15 ↔ h = 15 := h15
  have h14 : Int32.ofNat h = 14 ↔ h = 14 := h14
  have h13 : Int32.ofNat h = 13 ↔ h = 13 := h13
  have u1 := (z_u8 ⟨m / 4 % 4, by omega⟩ 0 ⟨l, hl⟩).1
  have u1 : (zt6 l >>> (zUu m &&& 31)) &&& 1 = zTiw (zUu m) (Int32.ofNat l) := u1
  have u2 := (z_u8 ⟨m / 4 % 4, by omega⟩ ⟨m % 2, by omega⟩ ⟨l, hl⟩).2
  have u2 : (zt6 l >>> ((zUu m + Int32.ofNat (m % 2)) &&& 31)) &&& 1 = zTiw (Int32.ofNat (2 * (m / 4 % 4) + m % 2)) (Int32.ofNat l) := u2
  unfold fX10_softer
  by_cases q : h = 13
  · rw [if_pos q, if_pos (h13.mpr q)]
    refine zpc_bi (c_slow hn hm) (fun s v q => ?_)
    cases q
    rw [show zgi σ 32 (66 : Int32).toNatClampNeg = Int32.ofNat m from hn, zNn_a hm (e := 1) (by decide) (by decide), show m % 2 ^ 1 = m % 2 from rfl, u2]
    exact zpc_ck (zpc_some rfl)
  rw [if_neg q, if_neg (fun z => q (h13.mp z))]
  by_cases q2 : h = 14
  · rw [if_pos q2, if_pos (h14.mpr q2)]
    refine zpc_bi (c_slow hn hm) (fun s v q => ?_)
    cases q
    rw [u1]
    exact zpc_some rfl
  rw [if_neg q2, if_neg (fun z => q2 (h14.mp z))]
  by_cases q3 : h = 15
  · rw [if_pos q3, if_pos (h15.mpr q3)]
    exact zpc_some rfl
  rw [if_neg q3, if_neg (fun z => q3 (h15.mp z))]
  refine zpc_bi (c_tick hn hm (by omega) hl) (fun s v q => ?_)
  cases q
  exact zpc_some rfl
end ZWC
end ZJN9
section ZJN10
/-! WAVES: A LEVEL MOVES -/
section ZWD
variable {σ μ s t : zSt} {r : Nat → Int32} {c o m h l a k A : Nat}
noncomputable def zHh (a k : Nat) : Nat := if a + k / 4 ≤ 15 then a + k / 4 else 15
theorem z_hh : ∀ (a k : Fin 16), zmin 15 (Int32.ofNat a.val + (Int32.ofNat k.val / 4)) = Int32.ofNat (zHh a.val k.val) ∧ (if Int32.ofNat a.val + (Int32.ofNat k.val / 4) ≤ 15 then Int32.ofNat a.val + (Int32.ofNat k.val / 4) else (15 : Int32)) = Int32.ofNat (zHh a.val k.val) := by decide +kernel
theorem z_kk : ∀ k : Fin 16, (Int32.ofNat k.val &&& 3).toNatClampNeg = k.val % 4 ∧ zrem (Int32.ofNat k.val) 4 = Int32.ofNat (k.val % 4) := by decide +kernel
theorem zHh_r (a k : Nat) : zHh a k < 16 := by
  unfold zHh
  split <;> omega
theorem z_mx {v : Int32} : (if 0 ≤ v then v else 0) = zmax 0 v := by
  unfold zmax
  by_cases q : (0 : Int32) < v
  · rw [if_pos q, if_pos (Int32.le_iff_toInt_le.mpr (Int.le_of_lt (Int32.lt_iff_toInt_lt.mp q)))]
  · rw [if_neg q]
    by_cases y : (0 : Int32) ≤ v
    · rw [if_pos y]
      have y1 := Int32.le_iff_toInt_le.mp y
      have q1 := Int32.le_iff_toInt_le.mp (z_nlt q)
      exact Int32.toInt_inj.mp (by omega)
    · rw [if_neg y]
theorem z_mn {v : Int32} : (if v ≤ 127 then v else 127) = zmin 127 v := by
  unfold zmin
  by_cases q : v < (127 : Int32)
  · rw [if_pos q, if_pos (Int32.le_iff_toInt_le.mpr (Int.le_of_lt (Int32.lt_iff_toInt_lt.mp q)))]
  · rw [if_neg q]
    by_cases y : v ≤ (127 : Int32)
    · rw [if_pos y]
      have y1 := Int32.le_iff_toInt_le.mp y
      have q1 := Int32.le_iff_toInt_le.mp (z_nlt q)
      exact Int32.toInt_inj.mp (by omega)
    · rw [if_neg y]
theorem c_52 (hn : σ.1 32 66 = Int32.ofNat m) (hm : m ≤ 1000000000) (ha : a < 16) (hk : k < 16) (hA : A < 300) : zpc (fX10_moveLevel_52 σ (Int32.ofNat A) (Int32.ofNat a) (Int32.ofNat k)) (fun s => s = zsi σ 32 A (zLn3 m (zHh a k) (k % 4) (σ.1 32 A) (σ.1 32 (A + 1)))) := by
  have e1 := (z_hh ⟨a, ha⟩ ⟨k, hk⟩).1
  have e1 : zmin 15 (Int32.ofNat a + (Int32.ofNat k / 4)) = Int32.ofNat (zHh a k) := e1
  have e2 := (z_kk ⟨k, hk⟩).1
  have e2 : (Int32.ofNat k &&& 3).toNatClampNeg = k % 4 := e2
  have i0 : (Int32.ofNat A + 0).toNatClampNeg = A := z_atk (m := 0) (by omega)
  have i1 : (Int32.ofNat A + 1).toNatClampNeg = A + 1 := z_atk (m := 1) (by omega)
  unfold fX10_moveLevel_52 fX10_moveLevel_148
  rw [e1, e2, i0, i1]
  refine zpc_ck (zpc_bv (fun v1 f1 => zpc_ck (zpc_bv (fun v2 f2 => zpc_ck ?_))))
  subst f1
  subst f2
  unfold zLn3
  by_cases q : σ.1 32 (A + 1) = 1
  · rw [if_pos q]
    refine zpc_if (fun _ => zpc_ck (zpc_bi (c_louder hn hm (zHh_r a k) (by omega)) (fun s6 v7 e => ?_))) (fun z => absurd q z)
    cases e
    refine zpc_ck (zpc_bv (fun s8 e8 => zpc_some ?_))
    rw [e8, q]
    rfl
  · rw [if_neg q]
    refine zpc_if (fun z => absurd z q) (fun _ => zpc_ck (zpc_bi (c_softer hn hm (zHh_r a k) (by omega)) (fun s3 v4 e => ?_)))
    cases e
    refine zpc_ck (zpc_bv (fun s5 e5 => zpc_some ?_))
    rw [e5]
    unfold zLn2
    rw [if_neg q]
    rfl
theorem c_lvl (hc : zCk r c σ) (h9 : c < 9) (ho : o < 2) (hb : zRb r) (hn : σ.1 32 66 = Int32.ofNat m) (hm : m ≤ 1000000000) (ea : zRa r c o (σ.1 32 (A + 1)) = Int32.ofNat a) (ha : a < 16) (ek : zKey r c o = Int32.ofNat k) (hk : k < 16) (hA : A < 300) : zpc (fX10_moveLevel σ (Int32.ofNat A) (Int32.ofNat o)) (fun s => s = if Int32.ofNat a = 0 then σ else zsi σ 32 A (zLn3 m (zHh a k) (k % 4) (σ.1 32 A) (σ.1 32 (A + 1)))) := by
  have i1 : (Int32.ofNat A + 1).toNatClampNeg = A + 1 := z_atk (m := 1) (by omega)
  unfold fX10_moveLevel
  rw [i1]
  refine zpc_ck (zpc_bi (c_rate hc h9 ho) (fun s9 v10 e => ?_))
  cases e
  rw [show zgi σ 32 (A + 1) = σ.1 32 (A + 1) from rfl, ea]
  by_cases q : Int32.ofNat a = 0
  · rw [if_pos q, if_pos q]
    exact zpc_some rfl
  · rw [if_neg q, if_neg q]
    refine zpc_bv (fun v11 e11 => zpc_bi (c_part hc.2.1 (k := o) (by omega) rfl) (fun s12 v13 e => ?_))
    cases e
    have g : v11 = (2 * zBkw r c) + (zFq r c / 256) := by
      rw [e11, show zgi σ 5 5 = zBkw r c from hc.2.1.2.2.1, show zgi σ 5 4 = zFq r c from hc.2.1.2.1, (z_f256 (zFq_r hb h9)).1]
    unfold zKey at ek
    by_cases y : (zPB r c o &&& 16) = 0
    · rw [if_pos y] at ek
      refine zpc_if (fun _ => zpc_ck (zpc_bv (fun v14 e14 => ?_))) (fun z => absurd y z)
      rw [e14, g, ek]
      exact c_52 hn hm ha hk hA
    · rw [if_neg y] at ek
      refine zpc_if (fun z => absurd z y) (fun _ => ?_)
      rw [g, ek]
      exact c_52 hn hm ha hk hA
/-! the reference -/
theorem m_159 {L : Int64} (hL : L.toInt = (m : Int)) (hm : m ≤ 1000000000) (hh : h < 16) (hA : A < 1000) {x w : Int32} (hw : h < 13 → w = zTkw m h l) : zpc (fX12_envelope_159 μ (Int32.ofNat A) x (Int32.ofNat h) (Int32.ofNat l) L w) (fun t => t = zsi μ 3 A (zLn3 m h l (μ.1 3 A) x)) := by
  obtain ⟨h15, h14, h13, _, h12, h13'⟩ := z_hq ⟨h, hh⟩
  have h15 : Int32.ofNat h = 15 ↔ h = 15 := h15
  have h14 : Int32.ofNat h = 14 ↔ h = 14 := h14
  have h13 : Int32.ofNat h = 13 ↔ h = 13 := h13
  have h12 : 12 ≤ Int32.ofNat h ↔ ¬ h < 12 := h12
  have h13' : 13 ≤ Int32.ofNat h ↔ ¬ h < 13 := h13'
  have iA : (Int32.ofNat A).toNatClampNeg = A := z_ofC (by omega)
  have odd : (zreml L 2).toInt32 = Int32.ofNat (m % 2) := by
    have e := z_tlrem (x := L) (y := 2) (a := 0) (b := 1000000000) 2 rfl ⟨by omega, by omega⟩ (by decide)
    refine z_ofN ?_
    rw [Int64.toInt_toInt32, e, hL, Int.bmod_eq_of_le (by omega) (by omega)]
    omega
  have w275 : ∀ v : Int32, zpc (fX12_envelope_259 μ (Int32.ofNat A) v) (fun t => t = zsi μ 3 A (zmax 0 v)) := fun v => by
    unfold fX12_envelope_259 fX12_envelope_275
    rw [iA, ← z_mx]
    by_cases q : 0 ≤ v
    · rw [if_pos q, if_pos q]
      exact zpc_ck (zpc_bv (fun s e => zpc_some e))
    · rw [if_neg q, if_neg q]
      exact zpc_ck (zpc_bv (fun s e => zpc_some e))
  have w336 : ∀ v u : Int32, zpc (fX12_envelope_336 μ (Int32.ofNat A) v u) (fun t => t = zsi μ 3 A (zmin 127 (u + v))) := fun v u => by
    unfold fX12_envelope_336 fX12_envelope_358
    refine zpc_bv (fun v3 e3 => ?_)
    subst e3
    rw [iA, ← z_mn]
    by_cases q : u + v ≤ 127
    · rw [if_pos q, if_pos q]
      exact zpc_ck (zpc_bv (fun s e => zpc_some e))
    · rw [if_neg q, if_neg q]
      exact zpc_ck (zpc_bv (fun s e => zpc_some e))
  unfold fX12_envelope_159 fX12_envelope_257 fX12_envelope_220
  rw [iA, m_slow hL hm, odd]
  refine zpc_ck (zpc_ck (zpc_bv (fun v4 e4 => zpc_ck (zpc_bv (fun v5 e5 => ?_)))))
  subst e4
  subst e5
  unfold zLn3
  by_cases q : x = 1
  · rw [if_pos q, if_pos q]
    unfold zLn2
    rw [if_pos q]
    by_cases y : h < 12
    · rw [if_neg (fun z => (h12.mp z) y), if_neg (show ¬ h = 15 by omega), if_pos y, hw (by omega)]
      by_cases z : zTkw m h l = 1
      · rw [if_pos z, if_pos z]
        exact zpc_ck (w275 _)
      · rw [if_neg z, if_neg z]
        exact w275 _
    · rw [if_pos (h12.mpr y)]
      by_cases z : h = 15
      · rw [if_pos (h15.mpr z), if_pos z]
        exact w275 _
      · rw [if_neg (fun u => z (h15.mp u)), if_neg z, if_neg y]
        refine zpc_bi m_t (fun s10 v11 e => ?_)
        cases e
        exact w275 _
  · rw [if_neg q, if_neg q]
    unfold zLn2
    rw [if_neg q]
    by_cases y : h < 13
    · rw [if_neg (fun z => (h13'.mp z) y), if_neg (show ¬ h = 13 by omega), if_neg (show ¬ h = 14 by omega), if_neg (show ¬ h = 15 by omega), hw y]
      exact w336 _ _
    · rw [if_pos (h13'.mpr y)]
      by_cases z : h = 13
      · rw [if_pos (h13.mpr z), if_pos z]
        refine zpc_ck (zpc_bi m_t (fun s8 v9 e => ?_))
        cases e
        rw [show zUu m + Int32.ofNat (m % 2) = Int32.ofNat (2 * (m / 4 % 4) + m % 2) from z_ofA]
        exact w336 _ _
      · rw [if_neg (fun u => z (h13.mp u)), if_neg z]
        by_cases z2 : h = 14
        · rw [if_pos (h14.mpr z2), if_pos z2]
          refine zpc_bi m_t (fun s8 v9 e => ?_)
          cases e
          exact w336 _ _
        · rw [if_neg (fun u => z2 (h14.mp u)), if_neg z2, if_pos (show h = 15 by omega)]
          exact w336 _ _
theorem m_63 (hL : (μ.2 4 4).toInt = (m : Int)) (hm : m ≤ 1000000000) (ha : a < 16) (hk : k < 16) (hA : A < 1000) {x : Int32} : zpc (fX12_envelope_63 μ (Int32.ofNat A) x (Int32.ofNat a) (Int32.ofNat k)) (fun t => t = zsi μ 3 A (zLn3 m (zHh a k) (k % 4) (μ.1 3 A) x)) := by
  have e1 := (z_hh ⟨a, ha⟩ ⟨k, hk⟩).2
  have e1 : (if Int32.ofNat a + (Int32.ofNat k / 4) ≤ 15 then Int32.ofNat a + (Int32.ofNat k / 4) else (15 : Int32)) = Int32.ofNat (zHh a k) := e1
  have e2 := (z_kk ⟨k, hk⟩).2
  have e2 : zrem (Int32.ofNat k) 4 = Int32.ofNat (k % 4) := e2
  have hh := zHh_r a k
  have go : zpc (fX12_envelope_87 μ (Int32.ofNat A) x (Int32.ofNat k) (Int32.ofNat (zHh a k))) (fun t => t = zsi μ 3 A (zLn3 m (zHh a k) (k % 4) (μ.1 3 A) x)) := by
    generalize zHh a k = h at hh ⊢
    obtain ⟨_, _, _, _, _, h13'⟩ := z_hq ⟨h, hh⟩
    have h13' : 13 ≤ Int32.ofNat h ↔ ¬ h < 13 := h13'
    unfold fX12_envelope_87 fX12_envelope_121 fX12_envelope_158
    rw [e2]
    refine zpc_ck (zpc_bv (fun v14 f14 => zpc_ck (zpc_bv (fun v15 f15 => ?_))))
    subst f14
    have f15 : v15 = μ.2 4 4 := f15
    subst f15
    by_cases y : h < 13
    · rw [if_neg (fun z => (h13'.mp z) y), if_neg (fun z => (h13'.mp z) y)]
      obtain ⟨t1, t2⟩ := m_tick hL hm y
      refine zpc_ck ?_
      by_cases z : m % 2 ^ (13 - h) = 0
      · rw [if_pos (t1.mpr z), t2]
        refine zpc_ck (zpc_ck (zpc_bi m_t (fun s12 v13 e => ?_)))
        cases e
        exact m_159 hL hm hh hA (fun _ => by unfold zTkw; rw [if_pos z])
      · rw [if_neg (fun u => z (t1.mp u))]
        exact m_159 hL hm hh hA (fun _ => by unfold zTkw; rw [if_neg z])
    · rw [if_pos (h13'.mpr y), if_pos (h13'.mpr y)]
      exact m_159 hL hm hh hA (fun z => absurd z y)
  unfold fX12_envelope_63
  refine zpc_ck ?_
  by_cases q : Int32.ofNat a + (Int32.ofNat k / 4) ≤ 15
  · rw [if_pos q] at e1 ⊢
    rw [e1]
    exact zpc_ck go
  · rw [if_neg q] at e1 ⊢
    rw [e1]
    exact go
theorem m_lvl (hr : zRm r μ) (h9 : c < 9) (ho : o < 2) (hL : (μ.2 4 4).toInt = (m : Int)) (hm : m ≤ 1000000000) (ea : zRa r c o (μ.1 3 (A + 1)) = Int32.ofNat a) (ha : a < 16) (ek : zKey r c o = Int32.ofNat k) (hk : k < 16) (hA : A < 900) : zpc (fX12_envelope μ (Int32.ofNat A) (Int32.ofNat c) (Int32.ofNat o)) (fun t => t = if Int32.ofNat a = 0 then μ else zsi μ 3 A (zLn3 m (zHh a k) (k % 4) (μ.1 3 A) (μ.1 3 (A + 1)))) := by
  have i1 : (Int32.ofNat A + 1).toNatClampNeg = A + 1 := z_atk (m := 1) (by omega)
  unfold fX12_envelope
  rw [i1]
  refine zpc_ck (zpc_bv (fun v16 e16 => zpc_bi (m_rate hr h9 ho) (fun s17 v18 e => ?_)))
  cases e
  have e16 : v16 = μ.1 3 (A + 1) := e16
  subst e16
  rw [ea]
  by_cases q : Int32.ofNat a = 0
  · rw [if_pos q, if_pos q]
    exact zpc_some rfl
  · rw [if_neg q, if_neg q]
    refine zpc_bi (m_blk hr h9) (fun s19 v20 e => ?_)
    cases e
    refine zpc_bi (m_f hr h9) (fun s21 v22 e => ?_)
    cases e
    refine zpc_ck (zpc_bv (fun v23 e23 => zpc_bi (m_pb hr h9 (k := o) (by omega) rfl) (fun s24 v25 e => ?_)))
    cases e
    unfold zKey at ek
    by_cases y : (zPB r c o &&& 16) = 0
    · rw [if_pos y] at ek
      refine zpc_if (fun _ => zpc_ck (zpc_bv (fun v26 e26 => ?_))) (fun z => absurd y z)
      rw [e26, e23, ek]
      exact m_63 hL hm ha hk (by omega)
    · rw [if_neg y] at ek
      refine zpc_if (fun z => absurd z y) (fun _ => ?_)
      rw [e23, ek]
      exact m_63 hL hm ha hk (by omega)
end ZWD
end ZJN10
section ZJN11
/-! WAVES: ON, LEVEL, STATE OF ONE OPERATOR -/
theorem zsi_id {s : zSt} {k j : Nat} : zsi s k j (s.1 k j) = s := by
  refine Prod.ext (funext fun a => funext fun b => ?_) rfl
  rw [zsi_at]
  by_cases q : a = k ∧ b = j
  · rw [if_pos q, q.1, q.2]
  · rw [if_neg q]
theorem zsi_cm {s : zSt} {k i j : Nat} {v w : Int32} (h : ¬ i = j) : zsi (zsi s k i v) k j w = zsi (zsi s k j w) k i v := by
  refine Prod.ext (funext fun a => funext fun b => ?_) rfl
  rw [zsi_at, zsi_at, zsi_at, zsi_at]
  by_cases q : a = k ∧ b = j
  · rw [if_pos q, if_neg (fun z => h (by omega)), if_pos q]
  · rw [if_neg q]
    by_cases y : a = k ∧ b = i
    · rw [if_pos y, if_pos y]
    · rw [if_neg y, if_neg y, if_neg q]
section ZWE
variable {σ μ s t : zSt} {r g : Nat → Int32} {c o m h l a k q j : Nat} {Q : zSt → zSt → Prop}
noncomputable def zFmw (σ μ : zSt) : Prop := (∀ q j : Nat, q < 18 → j < 6 → σ.1 32 (128 + 8 * q + j) = μ.1 3 (172 + 6 * q + j)) ∧ (∀ q : Nat, q < 18 → zr 0 127 (σ.1 32 (128 + 8 * q)) ∧ zr 0 4 (σ.1 32 (128 + 8 * q + 1)) ∧ zr 0 524287 (σ.1 32 (128 + 8 * q + 2)) ∧ zr (-4084) 4084 (σ.1 32 (128 + 8 * q + 3)))
noncomputable def zOg (j : Nat) (v : Int32) : Prop := (j = 0 → zr 0 127 v) ∧ (j = 1 → zr 0 4 v) ∧ (j = 2 → zr 0 524287 v) ∧ (j = 3 → zr (-4084) 4084 v)
theorem zFmw.w (h : zFmw σ μ) (hq : q < 18) (hj : j < 6) {v : Int32} (og : zOg j v) : zFmw (zsi σ 32 (128 + 8 * q + j) v) (zsi μ 3 (172 + 6 * q + j) v) := by
  obtain ⟨h1, h2⟩ := h
  have gt : ∀ q' j' : Nat, q' < 18 → j' < 6 → (zsi σ 32 (128 + 8 * q + j) v).1 32 (128 + 8 * q' + j') = if q' = q ∧ j' = j then v else σ.1 32 (128 + 8 * q' + j') := fun q' j' h3 h4 => by
    rw [zsi_at]
    by_cases z : q' = q ∧ j' = j
    · rw [if_pos z, if_pos ⟨rfl, by rw [z.1, z.2]⟩]
    · rw [if_neg z, if_neg (fun y => z (by have := y.2; omega))]
  have gm : ∀ q' j' : Nat, q' < 18 → j' < 6 → (zsi μ 3 (172 + 6 * q + j) v).1 3 (172 + 6 * q' + j') = if q' = q ∧ j' = j then v else μ.1 3 (172 + 6 * q' + j') := fun q' j' h3 h4 => by
    rw [zsi_at]
    by_cases z : q' = q ∧ j' = j
    · rw [if_pos z, if_pos ⟨rfl, by rw [z.1, z.2]⟩]
    · rw [if_neg z, if_neg (fun y => z (by have := y.2; omega))]
  refine ⟨fun q' j' h3 h4 => ?_, fun q' h3 => ?_⟩
  · rw [gt q' j' h3 h4, gm q' j' h3 h4]
    by_cases z : q' = q ∧ j' = j
    · rw [if_pos z, if_pos z]
    · rw [if_neg z, if_neg z]; exact h1 q' j' h3 h4
  · have e0 := gt q' 0 h3 (by decide)
    have e1 := gt q' 1 h3 (by decide)
    have e2 := gt q' 2 h3 (by decide)
    have e3 := gt q' 3 h3 (by decide)
    rw [Nat.add_zero] at e0
    obtain ⟨r0, r1, r2, r3⟩ := h2 q' h3
    refine ⟨?_, ?_, ?_, ?_⟩
    · rw [e0]
      by_cases z : q' = q ∧ 0 = j
      · rw [if_pos z]; exact og.1 z.2.symm
      · rw [if_neg z]; exact r0
    · rw [e1]
      by_cases z : q' = q ∧ 1 = j
      · rw [if_pos z]; exact og.2.1 z.2.symm
      · rw [if_neg z]; exact r1
    · rw [e2]
      by_cases z : q' = q ∧ 2 = j
      · rw [if_pos z]; exact og.2.2.1 z.2.symm
      · rw [if_neg z]; exact r2
    · rw [e3]
      by_cases z : q' = q ∧ 3 = j
      · rw [if_pos z]; exact og.2.2.2 z.2.symm
      · rw [if_neg z]; exact r3
/-- what an operator's move rests on, on both sides -/
noncomputable def zWo (r g : Nat → Int32) (c m : Nat) (σ μ : zSt) : Prop := zCk r c σ ∧ zRm r μ ∧ zFmw σ μ ∧ σ.1 32 66 = Int32.ofNat m ∧ (μ.2 4 4).toInt = (m : Int) ∧ σ.1 32 65 = μ.1 3 164 ∧ (∀ j : Nat, 128 ≤ j → j < 128 + 16 * c → σ.1 32 j = g j) ∧ zOwn r (σ.2 5 7)
theorem zWo.w (h : zWo r g c m σ μ) (hq : q < 18 ∧ 2 * c ≤ q) (hj : j < 6) {v : Int32} (og : zOg j v) : zWo r g c m (zsi σ 32 (128 + 8 * q + j) v) (zsi μ 3 (172 + 6 * q + j) v) := by
  obtain ⟨⟨h1, h2, h3⟩, h4, h5, h6, h7, h8, h9, h10⟩ := h
  refine ⟨⟨fun i hi => ?_, ⟨?_, ?_, ?_, h2.2.2.2⟩, ?_⟩, fun i hi => ?_, h5.w hq.1 hj og, ?_, h7, ?_, fun i h1 h2 => ?_, h10⟩
  · rw [zsi_nj (by omega)]; exact h1 i hi
  · rw [zsi_ne (by decide)]; exact h2.1
  · rw [zsi_ne (by decide)]; exact h2.2.1
  · rw [zsi_ne (by decide)]; exact h2.2.2.1
  · rw [zsi_ne (by decide)]; exact h3
  · rw [zsi_nj (by omega)]; exact h4 i hi
  · rw [zsi_nj (by omega)]; exact h6
  · rw [zsi_nj (by omega), zsi_nj (by omega)]; exact h8
  · rw [zsi_nj (by omega)]; exact h9 i h1 h2
theorem zOg_o {v : Int32} (h : 3 < j) : zOg j v := ⟨fun z => by omega, fun z => by omega, fun z => by omega, fun z => by omega⟩
theorem zOg_1 {v : Int32} (h : zr 0 4 v) : zOg 1 v := ⟨fun z => absurd z (by decide), fun _ => h, fun z => absurd z (by decide), fun z => absurd z (by decide)⟩
theorem zOg_0 {v : Int32} (h : zr 0 127 v) : zOg 0 v := ⟨fun _ => h, fun z => absurd z (by decide), fun z => absurd z (by decide), fun z => absurd z (by decide)⟩
theorem zOg_2 {v : Int32} (h : zr 0 524287 v) : zOg 2 v := ⟨fun z => absurd z (by decide), fun z => absurd z (by decide), fun _ => h, fun z => absurd z (by decide)⟩
theorem zOg_3 {v : Int32} (h : zr (-4084) 4084 v) : zOg 3 v := ⟨fun z => absurd z (by decide), fun z => absurd z (by decide), fun z => absurd z (by decide), fun _ => h⟩
theorem zWo.at (h : zWo r g c m σ μ) (hq : q < 18 ∧ 2 * c ≤ q) (hj : j < 6) : μ.1 3 (172 + 6 * q + j) = σ.1 32 (128 + 8 * q + j) := (h.2.2.1.1 q j hq.1 hj).symm
theorem zWo.lv (h : zWo r g c m σ μ) (hq : q < 18 ∧ 2 * c ≤ q) : zr 0 127 (σ.1 32 (128 + 8 * q)) := (h.2.2.1.2 q hq.1).1
theorem zWo.st (h : zWo r g c m σ μ) (hq : q < 18 ∧ 2 * c ≤ q) : zr 0 4 (σ.1 32 (128 + 8 * q + 1)) := (h.2.2.1.2 q hq.1).2.1
theorem zWo.ph (h : zWo r g c m σ μ) (hq : q < 18 ∧ 2 * c ≤ q) : zr 0 524287 (σ.1 32 (128 + 8 * q + 2)) := (h.2.2.1.2 q hq.1).2.2.1
noncomputable def zTr (c o A : Nat) (σ20 : zSt) : Option zSt := zck (zin (Int32.ofNat A + 1) 1048) (if (zgi σ20 3 (Int32.ofNat A + 1).toNatClampNeg) = 0 then zck (zin (Int32.ofNat A) 1048) (if (zgi σ20 3 (Int32.ofNat A).toNatClampNeg) < 124 then fX12_operator_113 σ20 (Int32.ofNat c) (Int32.ofNat o) (Int32.ofNat A) else zck (zin (Int32.ofNat A + 1) 1048) (zbv (zsi σ20 3 ((Int32.ofNat A + 1).toNatClampNeg) 1) (fun σ21 => zck (zin (Int32.ofNat A + 2) 1048) (zbv (zsi σ21 3 ((Int32.ofNat A + 2).toNatClampNeg) 0) (fun σ22 => fX12_operator_190 σ22 (Int32.ofNat c) (Int32.ofNat o) (Int32.ofNat A)))))) else fX12_operator_113 σ20 (Int32.ofNat c) (Int32.ofNat o) (Int32.ofNat A))
theorem zp2_uck {α β : Type} {b : Bool} {X : Option zSt} {F : zSt → Option α} {p : Option β} {Q : α → β → Prop} (h : zp2 (zbu X F) p Q) : zp2 (zbu (zck b X) F) p Q := by
  cases b with
  | true => exact h
  | false => exact zp2_nl
theorem zp2_uif {α β : Type} {c : Prop} {d : Decidable c} {X Y : Option zSt} {F : zSt → Option α} {p : Option β} {Q : α → β → Prop} (h1 : c → zp2 (zbu X F) p Q) (h2 : ¬ c → zp2 (zbu Y F) p Q) : zp2 (zbu (@ite _ c d X Y) F) p Q := by
  by_cases z : c
  · rw [if_pos z]; exact h1 z
  · rw [if_neg z]; exact h2 z
theorem zp2_ubv {α β γ : Type} {x : γ} {f : γ → Option zSt} {F : zSt → Option α} {p : Option β} {Q : α → β → Prop} (h : ∀ y, y = x → zp2 (zbu (f y) F) p Q) : zp2 (zbu (zbv x f) F) p Q := h x rfl
theorem zp2_uso {α β : Type} {s : zSt} {F : zSt → Option α} {p : Option β} {Q : α → β → Prop} (h : zp2 (F s) p Q) : zp2 (zbu (some s) F) p Q := h
/-! on -/
theorem w_on (hb : zRb r) (h9 : c < 9) (ho : o < 2) (eq : q = 2 * c + o) (h : zWo r g c m σ μ) (K : ∀ s t, zWo r g c m s t → zp2 (fX10_moveOperator_53 s (Int32.ofNat (128 + 8 * q)) (Int32.ofNat o)) (zbu (fX12_envelope t (Int32.ofNat (172 + 6 * q)) (Int32.ofNat c) (Int32.ofNat o)) (zTr c o (172 + 6 * q))) Q) : zp2 (fX10_moveOperator σ (Int32.ofNat (128 + 8 * q)) (Int32.ofNat o)) (fX12_operator μ (Int32.ofNat c) (Int32.ofNat o)) Q := by
  have hq : q < 18 ∧ 2 * c ≤ q := ⟨by omega, by omega⟩
  have e24 : ∀ (c : Fin 9) (o : Fin 2), 172 + (6 * ((2 * Int32.ofNat c.val) + Int32.ofNat o.val)) = Int32.ofNat (172 + 6 * (2 * c.val + o.val)) := by decide
  have e24 : 172 + (6 * ((2 * Int32.ofNat c) + Int32.ofNat o)) = Int32.ofNat (172 + 6 * q) := by rw [eq]; exact e24 ⟨c, h9⟩ ⟨o, ho⟩
  have i1 : (Int32.ofNat (172 + 6 * q) + 1).toNatClampNeg = 172 + 6 * q + 1 := z_atk (m := 1) (by omega)
  have i5 : (Int32.ofNat (172 + 6 * q) + 5).toNatClampNeg = 172 + 6 * q + 5 := z_atk (m := 5) (by omega)
  have j1 : (Int32.ofNat (128 + 8 * q) + 1).toNatClampNeg = 128 + 8 * q + 1 := z_atk (m := 1) (by omega)
  have j5 : (Int32.ofNat (128 + 8 * q) + 5).toNatClampNeg = 128 + 8 * q + 5 := z_atk (m := 5) (by omega)
  unfold fX10_moveOperator fX12_operator
  refine zp2_bil (c_on h.1 hb h9 ho) (fun s1 v1 e => ?_)
  cases e
  refine zp2_bvr (fun v24 f24 => ?_)
  rw [f24, e24]
  refine zp2_bir (m_on h.2.1 h9) (fun t1 w1 e => ?_)
  cases e
  rw [i5, show zgi μ 3 (172 + 6 * q + 5) = σ.1 32 (128 + 8 * q + 5) from h.at hq (by decide)]
  refine zp2_ckr ?_
  have go : ∀ v : Int32, (v = 0 ∨ v = 1) → zp2 (fX10_moveOperator_13 σ (Int32.ofNat (128 + 8 * q)) (Int32.ofNat o) v) (if v = σ.1 32 (128 + 8 * q + 5) then fX12_operator_53 μ (Int32.ofNat c) (Int32.ofNat o) (Int32.ofNat (172 + 6 * q)) v else if v = 1 then fX12_operator_52 μ (Int32.ofNat c) (Int32.ofNat o) (Int32.ofNat (172 + 6 * q)) v 0 (Int32.ofNat (172 + 6 * q) + 1) else fX12_operator_52 μ (Int32.ofNat c) (Int32.ofNat o) (Int32.ofNat (172 + 6 * q)) v 4 (Int32.ofNat (172 + 6 * q) + 1)) Q := fun v hv => by
    have two : ∀ w : Int32, zr 0 4 w → zp2 (fX10_moveOperator_52 (zsi σ 32 (128 + 8 * q + 5) v) (Int32.ofNat (128 + 8 * q)) (Int32.ofNat o) w (Int32.ofNat (128 + 8 * q) + 1)) (fX12_operator_52 μ (Int32.ofNat c) (Int32.ofNat o) (Int32.ofNat (172 + 6 * q)) v w (Int32.ofNat (172 + 6 * q) + 1)) Q := fun w hw => by
      unfold fX10_moveOperator_52 fX12_operator_52
      rw [j1, i1]
      refine zp2_ckl (zp2_bvl (fun s2 e2 => zp2_ckr (zp2_bvr (fun t2 f2 => ?_))))
      unfold fX12_operator_53
      rw [i5]
      refine zp2_ckr (zp2_bvr (fun t3 f3 => ?_))
      rw [zsi_cm (by omega)] at e2
      refine K s2 t3 ?_
      rw [e2, f3, f2]
      exact (h.w hq (by decide) (zOg_1 hw)).w hq (by decide) (zOg_o (by decide))
    unfold fX10_moveOperator_13
    rw [j5, show zgi σ 32 (128 + 8 * q + 5) = σ.1 32 (128 + 8 * q + 5) from rfl]
    refine zp2_ckl (zp2_if (fun z => ?_) (fun z => zp2_ckl (zp2_bvl (fun s2 e2 => ?_))))
    · unfold fX12_operator_53
      rw [i5]
      refine zp2_ckr (zp2_bvr (fun t2 f2 => ?_))
      have f3 : t2 = μ := by
        rw [f2, z, ← h.at hq (by decide)]
        exact zsi_id
      rw [f3]
      exact K σ μ h
    · subst e2
      exact zp2_if (fun _ => two 0 (zr_c (by decide))) (fun _ => two 4 (zr_c (by decide)))
  rcases zOn_r hb h9 ho with z | z
  · refine zp2_ifl (fun _ => ?_) (fun y => absurd z y)
    rw [z]
    exact go 0 (Or.inl rfl)
  · refine zp2_ifl (fun y => absurd (z.symm.trans y) (by decide)) (fun _ => ?_)
    rw [z]
    exact go 1 (Or.inr rfl)
/-! level and state -/
theorem zLn3_r {v x : Int32} (hv : zr 0 127 v) : zr 0 127 (zLn3 m h l v x) := by
  have c0 : (0 : Int32).toInt = 0 := rfl
  have c1 : (1 : Int32).toInt = 1 := rfl
  have c127 : (127 : Int32).toInt = 127 := rfl
  have v0 := hv.1
  have v1 := hv.2
  have low : ∀ w : Int32, zr 0 127 w → zr (-128) 127 (v - w - 1) := fun w hw => by
    have w0 := hw.1
    have w1 := hw.2
    have t1 := z_tsub hv hw (by decide)
    have t2 := z_tsub (x := v - w) (y := 1) (a := -127) (b := 127) ⟨by omega, by omega⟩ (zr_c (lo := 1) (hi := 1) (x := 1) (by decide)) (by decide)
    exact ⟨by rw [t2, t1, c1]; omega, by rw [t2, t1, c1]; omega⟩
  have mx : ∀ w : Int32, zr (-128) 127 w → zr 0 127 (zmax 0 w) := fun w hw => by
    unfold zmax
    by_cases q : (0 : Int32) < w
    · rw [if_pos q]
      have q1 := Int32.lt_iff_toInt_lt.mp q
      exact ⟨by omega, hw.2⟩
    · rw [if_neg q]; exact zr_c (by decide)
  have mn : ∀ w : Int32, zr 0 3 w → zr 0 127 (zmin 127 (v + w)) := fun w hw => by
    have w0 := hw.1
    have t1 := z_tadd hv hw (by decide)
    unfold zmin
    by_cases q : v + w < (127 : Int32)
    · rw [if_pos q]
      have q1 := Int32.lt_iff_toInt_lt.mp q
      exact ⟨by rw [t1]; omega, by omega⟩
    · rw [if_neg q]; exact zr_c (by decide)
  have t01 : ∀ i j : Int32, zr 0 1 (zTiw i j) := fun i j => by
    rcases zTi_01 (i := i) (l := j) with z | z
    · rw [z]; exact zr_c (by decide)
    · rw [z]; exact zr_c (by decide)
  have k01 : zr 0 1 (zTkw m h l) := by
    unfold zTkw
    by_cases z : m % 2 ^ (13 - h) = 0
    · rw [if_pos z]; exact t01 _ _
    · rw [if_neg z]; exact zr_c (by decide)
  unfold zLn3
  by_cases q : x = 1
  · rw [if_pos q]
    refine mx _ ?_
    unfold zLn2
    rw [if_pos q]
    by_cases h1 : h = 15
    · rw [if_pos h1]; exact zr_c (by decide)
    rw [if_neg h1]
    by_cases h2 : h < 12
    · rw [if_pos h2]
      by_cases h3 : zTkw m h l = 1
      · rw [if_pos h3]
        refine low _ ?_
        have d := z_tdiv (x := v) (y := 16) 16 rfl hv (by decide)
        exact ⟨by rw [d]; omega, by rw [d]; omega⟩
      · rw [if_neg h3]; exact zr_w hv (by decide)
    · rw [if_neg h2]
      refine low _ ?_
      have d := z_quo (x := v) (s := ((16 - Int32.ofNat h) - zTiw (zUu m) (Int32.ofNat l)) &&& 31) v0 rfl
      have p : (0 : Int) < ((2 ^ ((((16 - Int32.ofNat h) - zTiw (zUu m) (Int32.ofNat l)) &&& 31).toBitVec.smod 32).toNat : Nat) : Int) := by exact_mod_cast Nat.two_pow_pos _
      exact ⟨by rw [d]; exact Int.ediv_nonneg v0 (Int.le_of_lt p), by rw [d]; exact Int.le_trans (Int.ediv_le_self _ v0) v1⟩
  · rw [if_neg q]
    unfold zLn2
    rw [if_neg q]
    refine mn _ ?_
    by_cases h1 : h = 13
    · rw [if_pos h1]; exact zr_w (t01 _ _) (by decide)
    rw [if_neg h1]
    by_cases h2 : h = 14
    · rw [if_pos h2]
      rcases zTi_01 (i := zUu m) (l := Int32.ofNat l) with z | z
      · rw [z]; exact zr_c (by decide)
      · rw [z]; exact zr_c (by decide)
    rw [if_neg h2]
    by_cases h3 : h = 15
    · rw [if_pos h3]; exact zr_c (by decide)
    · rw [if_neg h3]; exact zr_w k01 (by decide)
/-- what is silent stays silent -/
theorem zLn3_4 {v : Int32} (hv : v = 127) : zLn3 m h l v 4 = 127 := by
  subst hv
  have t01 : ∀ i j : Int32, zTiw i j = 0 ∨ zTiw i j = 1 := fun i j => zTi_01
  have k01 : zTkw m h l = 0 ∨ zTkw m h l = 1 := by
    unfold zTkw
    by_cases z : m % 2 ^ (13 - h) = 0
    · rw [if_pos z]; exact t01 _ _
    · rw [if_neg z]; exact Or.inl rfl
  have d : ∀ w : Int32, w = 0 ∨ w = 1 ∨ w = 2 → zmin 127 (127 + w) = 127 := fun w hw => by
    rcases hw with z | z | z <;> rw [z] <;> decide
  unfold zLn3 zLn2
  rw [if_neg (by decide), if_neg (by decide)]
  refine d _ ?_
  by_cases h1 : h = 13
  · rw [if_pos h1]
    rcases t01 (Int32.ofNat (2 * (m / 4 % 4) + m % 2)) (Int32.ofNat l) with z | z
    · exact Or.inl z
    · exact Or.inr (Or.inl z)
  rw [if_neg h1]
  by_cases h2 : h = 14
  · rw [if_pos h2]
    rcases t01 (zUu m) (Int32.ofNat l) with z | z
    · rw [z]; exact Or.inr (Or.inl rfl)
    · rw [z]; exact Or.inr (Or.inr rfl)
  rw [if_neg h2]
  by_cases h3 : h = 15
  · rw [if_pos h3]; exact Or.inr (Or.inr rfl)
  rw [if_neg h3]
  rcases k01 with z | z
  · exact Or.inl z
  · exact Or.inr (Or.inl z)
theorem w_ls (hb : zRb r) (hm : m ≤ 1000000000) (h9 : c < 9) (ho : o < 2) (eq : q = 2 * c + o) (h : zWo r g c m σ μ) (K : ∀ s t, zWo r g c m s t → zp2 (fX10_moveOperator_99 s (Int32.ofNat (128 + 8 * q)) (Int32.ofNat o)) (fX12_operator_190 t (Int32.ofNat c) (Int32.ofNat o) (Int32.ofNat (172 + 6 * q))) Q) : zp2 (fX10_moveOperator_53 σ (Int32.ofNat (128 + 8 * q)) (Int32.ofNat o)) (zbu (fX12_envelope μ (Int32.ofNat (172 + 6 * q)) (Int32.ofNat c) (Int32.ofNat o)) (zTr c o (172 + 6 * q))) Q := by
  have hq : q < 18 ∧ 2 * c ≤ q := ⟨by omega, by omega⟩
  have i0 : (Int32.ofNat (172 + 6 * q)).toNatClampNeg = 172 + 6 * q := z_ofC (by omega)
  have i1 : (Int32.ofNat (172 + 6 * q) + 1).toNatClampNeg = 172 + 6 * q + 1 := z_atk (m := 1) (by omega)
  have i2 : (Int32.ofNat (172 + 6 * q) + 2).toNatClampNeg = 172 + 6 * q + 2 := z_atk (m := 2) (by omega)
  have j0 : (Int32.ofNat (128 + 8 * q) + 0).toNatClampNeg = 128 + 8 * q := z_atk (m := 0) (by omega)
  have j1 : (Int32.ofNat (128 + 8 * q) + 1).toNatClampNeg = 128 + 8 * q + 1 := z_atk (m := 1) (by omega)
  have j2 : (Int32.ofNat (128 + 8 * q) + 2).toNatClampNeg = 128 + 8 * q + 2 := z_atk (m := 2) (by omega)
  obtain ⟨a, ea⟩ := z_F (m := 16) (zRa_r (x := σ.1 32 (128 + 8 * q + 1)) hb h9 ho) (by decide)
  obtain ⟨k, ek⟩ := z_F (m := 16) (zKey_r (o := o) hb h9) (by decide)
  have em1 : μ.1 3 (172 + 6 * q + 1) = σ.1 32 (128 + 8 * q + 1) := h.at hq (by decide)
  have em0 : μ.1 3 (172 + 6 * q) = σ.1 32 (128 + 8 * q) := h.at (j := 0) hq (by decide)
  have hl := m_lvl (A := 172 + 6 * q) (k := k.val) (a := a.val) h.2.1 h9 ho h.2.2.2.2.1 hm (by rw [em1]; exact ea) a.2 ek k.2 (by omega)
  rw [em1, em0] at hl
  -- the states of both
  have ms : ∀ s t, zWo r g c m s t → zp2 (zbu (fX10_moveState s (Int32.ofNat (128 + 8 * q)) (zPB r c (6 + o) >>> ((4 : Int32) &&& 31))) (fun σ8 => fX10_moveOperator_99 σ8 (Int32.ofNat (128 + 8 * q)) (Int32.ofNat o))) (zTr c o (172 + 6 * q) t) Q := fun s t h => by
    have em1 : zgi t 3 (172 + 6 * q + 1) = s.1 32 (128 + 8 * q + 1) := h.at hq (by decide)
    have em0 : zgi t 3 (172 + 6 * q) = s.1 32 (128 + 8 * q) := h.at (j := 0) hq (by decide)
    have h73 : zp2 (zbu (fX10_moveState_73 s (Int32.ofNat (128 + 8 * q)) (zPB r c (6 + o) >>> ((4 : Int32) &&& 31)) (s.1 32 (128 + 8 * q)) (s.1 32 (128 + 8 * q + 1))) (fun σ8 => fX10_moveOperator_99 σ8 (Int32.ofNat (128 + 8 * q)) (Int32.ofNat o))) (fX12_operator_146 t (Int32.ofNat c) (Int32.ofNat o) (Int32.ofNat (172 + 6 * q))) Q := by
      unfold fX10_moveState_73 fX10_moveState_96 fX12_operator_146
      rw [i0, i1, em1, em0, j1]
      refine zp2_ckr ?_
      by_cases z : s.1 32 (128 + 8 * q + 1) = 2
      · refine zp2_uif (fun _ => zp2_uck ?_) (fun y => absurd z y)
        refine zp2_ifr (fun _ => zp2_ckr (zp2_ckr (zp2_bir (m_pb h.2.1 h9 (k := 6 + o) (by omega) (z_ofA (a := 6))) (fun t15 v16 e => ?_)))) (fun y => absurd z y)
        cases e
        by_cases y : (s.1 32 (128 + 8 * q) / 8) < (zPB r c (6 + o) >>> ((4 : Int32) &&& 31))
        · exact zp2_uif (fun _ => zp2_uso (zp2_ifr (fun _ => K s t h) (fun u => absurd y u))) (fun u => absurd y u)
        · refine zp2_uif (fun u => absurd u y) (fun _ => zp2_uck (zp2_ubv (fun s1 e1 => zp2_uso ?_)))
          refine zp2_ifr (fun u => absurd u y) (fun _ => zp2_ckr (zp2_bvr (fun t17 e17 => ?_)))
          rw [e1, e17]
          exact K _ _ (h.w hq (by decide) (zOg_1 (zr_c (by decide))))
      · exact zp2_uif (fun y => absurd y z) (fun _ => zp2_uso (zp2_ifr (fun y => absurd y z) (fun _ => K s t h)))
    have h51 : zp2 (zbu (fX10_moveState_51 s (Int32.ofNat (128 + 8 * q)) (zPB r c (6 + o) >>> ((4 : Int32) &&& 31)) (s.1 32 (128 + 8 * q)) (s.1 32 (128 + 8 * q + 1))) (fun σ8 => fX10_moveOperator_99 σ8 (Int32.ofNat (128 + 8 * q)) (Int32.ofNat o))) (fX12_operator_113 t (Int32.ofNat c) (Int32.ofNat o) (Int32.ofNat (172 + 6 * q))) Q := by
      unfold fX10_moveState_51 fX10_moveState_96 fX12_operator_113
      rw [i0, i1, em1, em0, j1]
      refine zp2_ckr ?_
      by_cases z : s.1 32 (128 + 8 * q + 1) = 1
      · refine zp2_uif (fun _ => ?_) (fun y => absurd z y)
        refine zp2_ifr (fun _ => zp2_ckr ?_) (fun y => absurd z y)
        by_cases y : s.1 32 (128 + 8 * q) = 0
        · refine zp2_uif (fun _ => zp2_uck (zp2_ubv (fun s2 e2 => zp2_uso ?_))) (fun u => absurd y u)
          refine zp2_ifr (fun _ => zp2_ckr (zp2_bvr (fun t18 e18 => ?_))) (fun u => absurd y u)
          rw [e2, e18]
          exact K _ _ (h.w hq (by decide) (zOg_1 (zr_c (by decide))))
        · exact zp2_uif (fun u => absurd u y) (fun _ => zp2_ifr (fun u => absurd u y) (fun _ => h73))
      · exact zp2_uif (fun y => absurd y z) (fun _ => zp2_ifr (fun y => absurd y z) (fun _ => h73))
    unfold fX10_moveState fX10_moveState_96 zTr
    rw [j0, j1, j2, i0, i1, i2, em1, em0]
    refine zp2_uck (zp2_ubv (fun v3 e3 => zp2_uck (zp2_ubv (fun v4 e4 => zp2_ckr ?_))))
    have e3 : v3 = s.1 32 (128 + 8 * q) := e3
    have e4 : v4 = s.1 32 (128 + 8 * q + 1) := e4
    subst e3
    subst e4
    by_cases z : s.1 32 (128 + 8 * q + 1) = 0
    · refine zp2_uif (fun _ => ?_) (fun y => absurd z y)
      refine zp2_ifr (fun _ => zp2_ckr ?_) (fun y => absurd z y)
      by_cases y : s.1 32 (128 + 8 * q) < 124
      · exact zp2_uif (fun _ => zp2_ifr (fun _ => h51) (fun u => absurd y u)) (fun u => absurd y u)
      · refine zp2_uif (fun u => absurd u y) (fun _ => zp2_uck (zp2_ubv (fun s5 e5 => zp2_uck (zp2_ubv (fun s6 e6 => zp2_uso ?_)))))
        refine zp2_ifr (fun u => absurd u y) (fun _ => zp2_ckr (zp2_bvr (fun t21 e21 => zp2_ckr (zp2_bvr (fun t22 e22 => ?_)))))
        rw [e6, e5, e22, e21]
        exact K _ _ ((h.w hq (by decide) (zOg_1 (zr_c (by decide)))).w hq (by decide) (zOg_2 (zr_c (by decide))))
    · exact zp2_uif (fun y => absurd y z) (fun _ => zp2_ifr (fun y => absurd y z) (fun _ => h51))
  -- behind the level
  have lv : ∀ s t, zWo r g c m s t → zp2 (zbi (fX10_part s (6 + Int32.ofNat o)) (fun σ6 v7 => zbu (fX10_moveState σ6 (Int32.ofNat (128 + 8 * q)) (v7 >>> ((4 : Int32) &&& 31))) (fun σ8 => fX10_moveOperator_99 σ8 (Int32.ofNat (128 + 8 * q)) (Int32.ofNat o)))) (zTr c o (172 + 6 * q) t) Q := fun s t h => by
    refine zp2_bil (c_part h.1.2.1 (k := 6 + o) (by omega) (z_ofA (a := 6))) (fun s6 v7 e => ?_)
    cases e
    exact ms s t h
  have both : zp2 (fX10_moveOperator_78 σ (Int32.ofNat (128 + 8 * q)) (Int32.ofNat o)) (zbu (fX12_envelope μ (Int32.ofNat (172 + 6 * q)) (Int32.ofNat c) (Int32.ofNat o)) (zTr c o (172 + 6 * q))) Q := by
    unfold fX10_moveOperator_78
    refine zp2_bul (c_lvl (A := 128 + 8 * q) (k := k.val) (a := a.val) h.1 h9 ho hb h.2.2.2.1 hm ea a.2 ek k.2 (by omega)) (fun s5 e5 => ?_)
    refine zp2_bur hl (fun t5 f5 => ?_)
    rw [e5, f5]
    by_cases z : Int32.ofNat a.val = 0
    · rw [if_pos z, if_pos z]
      exact lv σ μ h
    · rw [if_neg z, if_neg z]
      exact lv _ _ (h.w (j := 0) hq (by decide) (zOg_0 (zLn3_r (h.lv hq))))
  unfold fX10_moveOperator_53
  rw [j0, j1]
  refine zp2_ckl ?_
  by_cases z : zgi σ 32 (128 + 8 * q + 1) = 4
  · refine zp2_ifl (fun _ => zp2_ckl ?_) (fun y => absurd z y)
    by_cases y : 127 ≤ zgi σ 32 (128 + 8 * q)
    · refine zp2_ifl (fun _ => ?_) (fun u => absurd y u)
      have z : σ.1 32 (128 + 8 * q + 1) = 4 := z
      have v127 : σ.1 32 (128 + 8 * q) = 127 := by
        have y1 : (127 : Int32).toInt ≤ (σ.1 32 (128 + 8 * q)).toInt := Int32.le_iff_toInt_le.mp y
        have y2 := (h.lv hq).2
        exact Int32.toInt_inj.mp (by rw [show (127 : Int32).toInt = 127 from rfl] at y1 ⊢; omega)
      refine zp2_bur hl (fun t5 f5 => ?_)
      have e5 : t5 = μ := by
        rw [f5, z, zLn3_4 v127]
        by_cases u : Int32.ofNat a.val = 0
        · rw [if_pos u]
        · rw [if_neg u, ← v127, ← em0]
          exact zsi_id
      rw [e5]
      unfold zTr fX12_operator_113 fX12_operator_146
      have n1 : zgi μ 3 (172 + 6 * q + 1) = 4 := em1.trans z
      rw [i1, n1]
      exact zp2_ckr (zp2_ifr (fun u => absurd u (by decide)) (fun _ => zp2_ckr (zp2_ifr (fun u => absurd u (by decide)) (fun _ => zp2_ckr (zp2_ifr (fun u => absurd u (by decide)) (fun _ => K σ μ h))))))
    · exact zp2_ifl (fun u => absurd u y) (fun _ => both)
  · exact zp2_ifl (fun y => absurd y z) (fun _ => both)
end ZWE
end ZJN11
section ZJN12
/-! WAVES: THE PHASE MOVES -/
section ZWF
variable {σ μ s t : zSt} {r : Nat → Int32} {c o m h l a k q j A : Nat} {Q : zSt → zSt → Prop}
noncomputable def zSz (G x : Int32) : Int32 := if zrem G 4 = 0 then 0 else if zrem G 4 = 2 then x else x / 2
noncomputable def zSw (G x : Int32) : Int32 := if 4 ≤ G then -(zSz G x) else zSz G x
noncomputable def zSwC (G x : Int32) : Int32 := if G = 1 then x / 2 else if G = 2 then x else if G = 3 then x / 2 else if G = 4 then 0 else if G = 5 then -(x / 2) else if G = 6 then -x else if G = 7 then -(x / 2) else 0
theorem z_sway (g : Fin 8) (x : Int32) : zSwC (Int32.ofNat g.val) x = zSw (Int32.ofNat g.val) x := by
  obtain ⟨g, hg⟩ := g
  rcases (show g = 0 ∨ g = 1 ∨ g = 2 ∨ g = 3 ∨ g = 4 ∨ g = 5 ∨ g = 6 ∨ g = 7 by omega) with rfl | rfl | rfl | rfl | rfl | rfl | rfl | rfl
  all_goals simp (decide := true) [zSwC, zSw, zSz]
noncomputable def zMuw (v : Int32) : Int32 := if v = 0 then 1 else if 11 ≤ v then (if v = 11 then 20 else if 14 ≤ v then 30 else 24) else 2 * v
theorem z_mul7 : ∀ n : Fin 256, zt7 (Int32.ofNat n.val &&& 15).toNatClampNeg = zMuw (Int32.ofNat n.val &&& 15) := by decide +kernel
noncomputable def zG8 (m : Nat) : Int32 := Int32.ofNat (m / 1024 % 8)
noncomputable def zWw (r : Nat → Int32) (c o m : Nat) : Int32 := if (zPB r c o &&& 64) = 0 then 0 else zSw (zG8 m) (zFq r c / 64)
noncomputable def zNp (r : Nat → Int32) (c o m : Nat) (p : Int32) : Int32 := (p + (((((2 * zFq r c) + zWw r c o m) * zMuw (zPB r c o &&& 15)) <<< (zBkw r c &&& 31)) / 4)) &&& 524287
theorem zNp_r {p : Int32} : zr 0 524287 (zNp r c o m p) := zr_andr (lo := 0) (hi := 524287) (zr_c (lo := 524287) (hi := 524287) (by decide)) (by decide)
theorem c_ph (hc : zCk r c σ) (hb : zRb r) (h9 : c < 9) (ho : o < 2) (hn : σ.1 32 66 = Int32.ofNat m) (hm : m ≤ 1000000000) (hA : A < 300) : zpc (fX10_movePhase σ (Int32.ofNat A) (zPB r c o)) (fun s => s = zsi σ 32 (A + 2) (zNp r c o m (σ.1 32 (A + 2)))) := by
  have j2 : (Int32.ofNat A + 2).toNatClampNeg = A + 2 := z_atk (m := 2) (by omega)
  obtain ⟨n, en⟩ := z_F (m := 256) (zPB_r (k := o) hb h9 (by omega)) (by decide)
  have mu : zt7 (zPB r c o &&& 15).toNatClampNeg = zMuw (zPB r c o &&& 15) := by rw [en]; exact z_mul7 n
  have go : ∀ w : Int32, w = zWw r c o m → zpc (fX10_movePhase_22 σ (Int32.ofNat A) (zPB r c o) w) (fun s => s = zsi σ 32 (A + 2) (zNp r c o m (σ.1 32 (A + 2)))) := fun w ew => by
    unfold fX10_movePhase_22
    rw [j2, mu, show zgi σ 5 4 = zFq r c from hc.2.1.2.1, show zgi σ 5 5 = zBkw r c from hc.2.1.2.2.1]
    refine zpc_ck (zpc_ck (zpc_bv (fun v1 e1 => zpc_ck (zpc_ck (zpc_bv (fun s2 e2 => zpc_some ?_))))))
    rw [e2, e1, ew]
    rfl
  unfold fX10_movePhase
  by_cases q : (zPB r c o &&& 64) = 0
  · refine zpc_if (fun _ => go 0 ?_) (fun y => absurd q y)
    unfold zWw
    rw [if_pos q]
  · refine zpc_if (fun y => absurd y q) (fun _ => zpc_ck (zpc_bi (P := fun z => z = (σ, zSwC (zG8 m) (zFq r c / 64))) ?_ (fun s3 v4 e => ?_)))
    · rw [show zgi σ 5 4 = zFq r c from hc.2.1.2.1]
      unfold fX10_sway fX10_sway_56 fX10_sway_62 fX10_sway_70 zSwC zG8
      rw [show zgi σ 32 (66 : Int32).toNatClampNeg = Int32.ofNat m from hn, zNn_q hm (e := 10) (by decide), zNn_a (m := m / 2 ^ 10) (e := 3) (Nat.le_trans (Nat.div_le_self _ _) hm) (by decide) (by decide), show m / 2 ^ 10 % 2 ^ 3 = m / 1024 % 8 from rfl]
      exact zpc_ck (zpWif (fun _ => zpc_ck (zpc_some rfl)) (fun _ => zpWif (fun _ => zpc_some rfl) (fun _ => zpWif (fun _ => zpc_ck (zpc_some rfl)) (fun _ => zpWif (fun _ => zpc_some rfl) (fun _ => zpWif (fun _ => zpc_ck (zpc_some rfl)) (fun _ => zpWif (fun _ => zpc_some rfl) (fun _ => zpWif (fun _ => zpc_ck (zpc_some rfl)) (fun _ => zpc_some rfl))))))))
    · cases e
      refine go _ ?_
      unfold zWw
      rw [if_neg q]
      exact z_sway ⟨m / 1024 % 8, by omega⟩ _
theorem m_ph (hr : zRm r μ) (hb : zRb r) (h9 : c < 9) (ho : o < 2) (hL : (μ.2 4 4).toInt = (m : Int)) (hm : m ≤ 1000000000) (hA : A < 900) : zpc (fX12_phase μ (Int32.ofNat A) (Int32.ofNat c) (Int32.ofNat o)) (fun t => t = zsi μ 3 (A + 2) (zNp r c o m (μ.1 3 (A + 2)))) := by
  have j2 : (Int32.ofNat A + 2).toNatClampNeg = A + 2 := z_atk (m := 2) (by omega)
  have g8 : (zreml (μ.2 4 4 / 1024) 8).toInt32 = zG8 m := by
    have d := z_tldiv (x := μ.2 4 4) (y := 1024) (a := 0) (b := 1000000000) 1024 rfl ⟨by omega, by omega⟩ (by decide)
    have e := z_tlrem (x := μ.2 4 4 / 1024) (y := 8) (a := 0) (b := 1000000000) 8 rfl ⟨by rw [d]; omega, by rw [d]; omega⟩ (by decide)
    refine z_ofN ?_
    rw [Int64.toInt_toInt32, e, d, hL, Int.bmod_eq_of_le (by omega) (by omega)]
    omega
  have p150 : ∀ mu w : Int32, mu = zMuw (zPB r c o &&& 15) → w = zWw r c o m → zpc (fX12_phase_150 μ (Int32.ofNat A) (Int32.ofNat c) mu w) (fun t => t = zsi μ 3 (A + 2) (zNp r c o m (μ.1 3 (A + 2)))) := fun mu w e1 e2 => by
    unfold fX12_phase_150
    rw [j2]
    refine zpc_ck (zpc_bi (m_f hr h9) (fun s1 v2 e => ?_))
    cases e
    refine zpc_bi (m_blk hr h9) (fun s3 v4 e => ?_)
    cases e
    refine zpc_ck (zpc_ck (zpc_bv (fun s5 e5 => zpc_some ?_)))
    rw [e5, e1, e2]
    rfl
  have p60 : ∀ mu : Int32, mu = zMuw (zPB r c o &&& 15) → zpc (fX12_phase_60 μ (Int32.ofNat A) (Int32.ofNat c) (Int32.ofNat o) mu) (fun t => t = zsi μ 3 (A + 2) (zNp r c o m (μ.1 3 (A + 2)))) := fun mu e1 => by
    unfold fX12_phase_60
    refine zpc_bi (m_pb hr h9 (k := o) (by omega) rfl) (fun s6 v7 e => ?_)
    cases e
    by_cases q : (zPB r c o &&& 64) = 0
    · refine zpc_if (fun _ => p150 mu 0 e1 ?_) (fun y => absurd q y)
      unfold zWw
      rw [if_pos q]
    · refine zpc_if (fun y => absurd y q) (fun _ => zpc_ck (zpc_ck (zpc_ck (zpc_bv (fun v8 e8 => ?_)))))
      have e8 : v8 = zG8 m := e8.trans g8
      subst e8
      refine zpc_bi (m_f hr h9) (fun s9 v10 e => ?_)
      cases e
      refine zpc_ck (zpc_bv (fun v11 e11 => zpc_ck ?_))
      have w132 : ∀ z : Int32, z = zSz (zG8 m) (zFq r c / 64) → zpc (fX12_phase_132 μ (Int32.ofNat A) (Int32.ofNat c) mu (zG8 m) z) (fun t => t = zsi μ 3 (A + 2) (zNp r c o m (μ.1 3 (A + 2)))) := fun z ez => by
        unfold fX12_phase_132 fX12_phase_148
        have ww : zWw r c o m = if 4 ≤ zG8 m then -z else z := by
          unfold zWw zSw
          rw [if_neg q, ez]
        by_cases y : 4 ≤ zG8 m
        · refine zpc_if (fun _ => p150 mu (-z) e1 ?_) (fun u => absurd y u)
          rw [ww, if_pos y]
        · refine zpc_if (fun u => absurd u y) (fun _ => p150 mu z e1 ?_)
          rw [ww, if_neg y]
      refine zpc_if (fun y => w132 0 ?_) (fun y => zpc_ck (zpc_if (fun y2 => w132 v11 ?_) (fun y2 => zpc_ck (w132 (v11 / 2) ?_))))
      · unfold zSz
        rw [if_pos y]
      · unfold zSz
        rw [if_neg y, if_pos y2, e11]
      · unfold zSz
        rw [if_neg y, if_neg y2, e11]
  unfold fX12_phase
  refine zpc_bi (m_pb hr h9 (k := o) (by omega) rfl) (fun s12 v13 e => ?_)
  cases e
  refine zpc_bv (fun v14 e14 => ?_)
  subst e14
  have mm : ∀ v : Int32, zMuw v = if v = 0 then 1 else if 11 ≤ v then (if v = 11 then 20 else if 14 ≤ v then 30 else 24) else 2 * v := fun v => rfl
  refine zpc_if (fun y => p60 1 ?_) (fun y => zpc_if (fun y2 => zpc_if (fun y3 => p60 20 ?_) (fun y3 => zpc_if (fun y4 => p60 30 ?_) (fun y4 => p60 24 ?_))) (fun y2 => p60 _ ?_))
  · rw [mm, if_pos y]
  · rw [mm, if_neg y, if_pos y2, if_pos y3]
  · rw [mm, if_neg y, if_pos y2, if_neg y3, if_pos y4]
  · rw [mm, if_neg y, if_pos y2, if_neg y3, if_neg y4]
  · rw [mm, if_neg y, if_neg y2]
end ZWF
end ZJN12
section ZJN13
/-! WAVES: WHAT AN OPERATOR GIVES -/
section ZWG
variable {σ μ s t : zSt} {r : Nat → Int32} {c o m h l a k q j A : Nat} {Q : zSt → zSt → Prop}
/-! drums -/
noncomputable def zDx (a b : Int32) : Int32 := if ((a >>> ((2 : Int32) &&& 31)) &&& 1) = ((a >>> ((7 : Int32) &&& 31)) &&& 1) then (if ((a >>> ((3 : Int32) &&& 31)) &&& 1) = ((b >>> ((5 : Int32) &&& 31)) &&& 1) then (if ((b >>> ((3 : Int32) &&& 31)) &&& 1) = ((b >>> ((5 : Int32) &&& 31)) &&& 1) then 0 else 1) else 1) else 1
theorem z_d5w : ∀ a b c d e : Fin 2, ((((Int32.ofNat a.val ^^^ Int32.ofNat b.val) ||| (Int32.ofNat c.val ^^^ Int32.ofNat d.val)) ||| (Int32.ofNat e.val ^^^ Int32.ofNat d.val)) = 0) ↔ (Int32.ofNat a.val = Int32.ofNat b.val ∧ Int32.ofNat c.val = Int32.ofNat d.val ∧ Int32.ofNat e.val = Int32.ofNat d.val) := by decide +kernel
theorem z_lo2 (x : Int32) : ∃ n : Fin 2, x &&& 1 = Int32.ofNat n.val := by
  have h : zr 0 1 (x &&& 1) := zr_andr (lo := 0) (hi := 1) (zr_c (lo := 1) (hi := 1) (by decide)) (by decide)
  exact z_F (m := 2) h (by decide)
theorem z_oad2 (x y m : Int32) : (x ||| y) &&& m = (x &&& m) ||| (y &&& m) := by rw [Int32.and_comm, z_oad, Int32.and_comm m x, Int32.and_comm m y]
theorem z_dx (a b : Int32) : ((((((a >>> ((2 : Int32) &&& 31)) ^^^ (a >>> ((7 : Int32) &&& 31))) ||| ((a >>> ((3 : Int32) &&& 31)) ^^^ (b >>> ((5 : Int32) &&& 31)))) ||| ((b >>> ((3 : Int32) &&& 31)) ^^^ (b >>> ((5 : Int32) &&& 31)))) &&& 1) = 0) ↔ zDx a b = 0 := by
  rw [z_oad2, z_oad2, z_xad, z_xad, z_xad]
  unfold zDx
  obtain ⟨n1, e1⟩ := z_lo2 (a >>> ((2 : Int32) &&& 31))
  obtain ⟨n2, e2⟩ := z_lo2 (a >>> ((7 : Int32) &&& 31))
  obtain ⟨n3, e3⟩ := z_lo2 (a >>> ((3 : Int32) &&& 31))
  obtain ⟨n4, e4⟩ := z_lo2 (b >>> ((5 : Int32) &&& 31))
  obtain ⟨n5, e5⟩ := z_lo2 (b >>> ((3 : Int32) &&& 31))
  rw [e1, e2, e3, e4, e5, z_d5w]
  by_cases q1 : Int32.ofNat n1.val = Int32.ofNat n2.val
  · rw [if_pos q1]
    by_cases q2 : Int32.ofNat n3.val = Int32.ofNat n4.val
    · rw [if_pos q2]
      by_cases q3 : Int32.ofNat n5.val = Int32.ofNat n4.val
      · rw [if_pos q3]; exact ⟨fun _ => rfl, fun _ => ⟨q1, q2, q3⟩⟩
      · rw [if_neg q3]; exact ⟨fun z => absurd z.2.2 q3, fun z => absurd z (by decide)⟩
    · rw [if_neg q2]; exact ⟨fun z => absurd z.2.1 q2, fun z => absurd z (by decide)⟩
  · rw [if_neg q1]; exact ⟨fun z => absurd z.1 q1, fun z => absurd z (by decide)⟩
theorem zDx_01 (a b : Int32) : zDx a b = 0 ∨ zDx a b = 1 := by
  unfold zDx
  repeat' split
  all_goals first | exact Or.inl rfl | exact Or.inr rfl
/-- x, y: what the drums turn by -/
noncomputable def zDr8 (c o : Nat) (p x y : Int32) : Int32 := if c = 8 then (if o = 0 then p else if x = 0 then 256 else 768) else if o = 0 then (if x = 0 then (if y = 0 then 208 else 52) else (if y = 0 then 564 else 720)) else (if (p &&& 512) = 0 then (if y = 0 then 256 else 0) else (if y = 0 then 512 else 768))
noncomputable def zDy (d : Int32) : Int32 := if (d &&& 1) = 1 then 1 else 0
theorem z_c78 : ∀ c : Fin 9, (Int32.ofNat c.val = 8 ↔ c.val = 8) ∧ (Int32.ofNat c.val = 7 ↔ c.val = 7) ∧ (Int32.ofNat c.val < 7 ↔ c.val < 7) ∧ (Int32.ofNat c.val ≤ 6 ↔ c.val < 7) ∧ (Int32.ofNat c.val ≤ 5 ↔ c.val < 6) := by decide
theorem z_o01 : ∀ o : Fin 2, (Int32.ofNat o.val = 0 ↔ o.val = 0) ∧ (Int32.ofNat o.val = 1 ↔ ¬ o.val = 0) := by decide
theorem c_drum (e3 : σ.1 5 3 = Int32.ofNat c) (h9 : c < 9) (h7 : 7 ≤ c) (ho : o < 2) {p : Int32} : zpc (fX10_drumPhase σ p (Int32.ofNat o)) (fun z => z = (σ, zDr8 c o p (zDx ((σ.1 32 242) >>> ((9 : Int32) &&& 31)) ((σ.1 32 266) >>> ((9 : Int32) &&& 31))) (zDy (σ.1 32 65)))) := by
  obtain ⟨c8, c7, _, _, _⟩ := z_c78 ⟨c, h9⟩
  have c8 : Int32.ofNat c = 8 ↔ c = 8 := c8
  obtain ⟨o0, _⟩ := z_o01 ⟨o, ho⟩
  have o0 : Int32.ofNat o = 0 ↔ o = 0 := o0
  unfold fX10_drumPhase
  rw [show zgi σ 32 (242 : Int32).toNatClampNeg = σ.1 32 242 from rfl, show zgi σ 32 (266 : Int32).toNatClampNeg = σ.1 32 266 from rfl]
  refine zpc_ck (zpc_bv (fun v1 e1 => zpc_ck (zpc_bv (fun v2 e2 => ?_))))
  subst e1
  subst e2
  have g82 : ∀ x y : Int32, zpc (fX10_drumPhase_82 σ p (Int32.ofNat o) x y) (fun z => z = (σ, zDr8 c o p x y)) := fun x y => by
    unfold fX10_drumPhase_82 fX10_drumPhase_115 fX10_drumPhase_155 fX10_drumPhase_193 zDr8
    rw [show zgi σ 5 3 = Int32.ofNat c from e3]
    by_cases z8 : c = 8
    · rw [if_pos z8, if_pos (c8.mpr z8)]
      by_cases z0 : o = 0
      · rw [if_pos z0, if_pos (o0.mpr z0)]
        exact zpc_some rfl
      · rw [if_neg z0, if_neg (fun u => z0 (o0.mp u))]
        exact zpWif (fun _ => zpc_some rfl) (fun _ => zpc_some rfl)
    · rw [if_neg z8, if_neg (fun u => z8 (c8.mp u))]
      by_cases z0 : o = 0
      · rw [if_pos z0, if_pos (o0.mpr z0)]
        exact zpWif (fun _ => zpWif (fun _ => zpc_some rfl) (fun _ => zpc_some rfl)) (fun _ => zpWif (fun _ => zpc_some rfl) (fun _ => zpc_some rfl))
      · rw [if_neg z0, if_neg (fun u => z0 (o0.mp u))]
        exact zpWif (fun _ => zpWif (fun _ => zpc_some rfl) (fun _ => zpc_some rfl)) (fun _ => zpWif (fun _ => zpc_some rfl) (fun _ => zpc_some rfl))
  have g62 : ∀ x : Int32, zpc (fX10_drumPhase_62 σ p (Int32.ofNat o) x) (fun z => z = (σ, zDr8 c o p x (zDy (σ.1 32 65)))) := fun x => by
    unfold fX10_drumPhase_62 zDy
    rw [show zgi σ 32 (65 : Int32).toNatClampNeg = σ.1 32 65 from rfl]
    by_cases z : (σ.1 32 65 &&& 1) = 1
    · rw [if_pos z, if_pos z]; exact zpc_ck (g82 x 1)
    · rw [if_neg z, if_neg z]; exact zpc_ck (g82 x 0)
  have dx := z_dx ((σ.1 32 242) >>> ((9 : Int32) &&& 31)) ((σ.1 32 266) >>> ((9 : Int32) &&& 31))
  rcases zDx_01 ((σ.1 32 242) >>> ((9 : Int32) &&& 31)) ((σ.1 32 266) >>> ((9 : Int32) &&& 31)) with z | z
  · rw [z]
    exact zpc_if (fun _ => g62 0) (fun y => absurd (dx.mpr z) y)
  · rw [z]
    exact zpc_if (fun y => absurd (z.symm.trans (dx.mp y)) (by decide)) (fun _ => g62 1)
theorem m_drum (h9 : c < 9) (h7 : 7 ≤ c) (ho : o < 2) {p : Int32} : zpc (fX12_drum μ (Int32.ofNat c) (Int32.ofNat o) p) (fun z => z = (μ, zDr8 c o p (zDx (μ.1 3 258 / 512) (μ.1 3 276 / 512)) (zDy (μ.1 3 164)))) := by
  obtain ⟨c8, c7, _, _, _⟩ := z_c78 ⟨c, h9⟩
  have c7 : Int32.ofNat c = 7 ↔ c = 7 := c7
  obtain ⟨o0, _⟩ := z_o01 ⟨o, ho⟩
  have o0 : Int32.ofNat o = 0 ↔ o = 0 := o0
  unfold fX12_drum
  rw [show zgi μ 3 (258 : Int32).toNatClampNeg = μ.1 3 258 from rfl, show zgi μ 3 (276 : Int32).toNatClampNeg = μ.1 3 276 from rfl]
  refine zpc_ck (zpc_ck (zpc_bv (fun v1 e1 => zpc_ck (zpc_ck (zpc_bv (fun v2 e2 => ?_))))))
  subst e1
  subst e2
  have g100 : ∀ x y : Int32, zpc (fX12_drum_100 μ (Int32.ofNat c) (Int32.ofNat o) p x y) (fun z => z = (μ, zDr8 c o p x y)) := fun x y => by
    unfold fX12_drum_100 fX12_drum_148 fX12_drum_147 fX12_drum_191 fX12_drum_214 zDr8
    by_cases z8 : c = 8
    · have n7 : ¬ Int32.ofNat c = 7 := fun u => by have := c7.mp u; omega
      rw [if_pos z8, if_neg n7, if_neg n7]
      by_cases z0 : o = 0
      · rw [if_pos z0, if_pos (o0.mpr z0)]
        exact zpc_some rfl
      · rw [if_neg z0, if_neg (fun u => z0 (o0.mp u))]
        exact zpWif (fun _ => zpc_some rfl) (fun _ => zpc_some rfl)
    · have y7 : Int32.ofNat c = 7 := c7.mpr (by omega)
      rw [if_neg z8, if_pos y7]
      by_cases z0 : o = 0
      · rw [if_pos z0, if_pos (o0.mpr z0)]
        exact zpWif (fun _ => zpWif (fun _ => zpc_some rfl) (fun _ => zpc_some rfl)) (fun _ => zpWif (fun _ => zpc_some rfl) (fun _ => zpc_some rfl))
      · rw [if_neg z0, if_neg (fun u => z0 (o0.mp u)), if_pos y7]
        exact zpWif (fun _ => zpWif (fun _ => zpc_some rfl) (fun _ => zpc_some rfl)) (fun _ => zpWif (fun _ => zpc_some rfl) (fun _ => zpc_some rfl))
  have g79 : ∀ x : Int32, zpc (fX12_drum_79 μ (Int32.ofNat c) (Int32.ofNat o) p x) (fun z => z = (μ, zDr8 c o p x (zDy (μ.1 3 164)))) := fun x => by
    unfold fX12_drum_79 zDy
    rw [show zgi μ 3 (164 : Int32).toNatClampNeg = μ.1 3 164 from rfl]
    by_cases z : (μ.1 3 164 &&& 1) = 1
    · rw [if_pos z, if_pos z]; exact zpc_ck (g100 x 1)
    · rw [if_neg z, if_neg z]; exact zpc_ck (g100 x 0)
  unfold fX12_drum_74 zDx
  by_cases q1 : (((μ.1 3 258 / 512) >>> ((2 : Int32) &&& 31)) &&& 1) = (((μ.1 3 258 / 512) >>> ((7 : Int32) &&& 31)) &&& 1)
  · rw [if_pos q1, if_pos q1]
    by_cases q2 : (((μ.1 3 258 / 512) >>> ((3 : Int32) &&& 31)) &&& 1) = (((μ.1 3 276 / 512) >>> ((5 : Int32) &&& 31)) &&& 1)
    · rw [if_pos q2, if_pos q2]
      by_cases q3 : (((μ.1 3 276 / 512) >>> ((3 : Int32) &&& 31)) &&& 1) = (((μ.1 3 276 / 512) >>> ((5 : Int32) &&& 31)) &&& 1)
      · rw [if_pos q3, if_pos q3]; exact g79 0
      · rw [if_neg q3, if_neg q3]; exact g79 1
    · rw [if_neg q2, if_neg q2]; exact g79 1
  · rw [if_neg q1, if_neg q1]; exact g79 1
theorem z_ph9 {x : Int32} (h : zr 0 524287 x) : (x >>> ((9 : Int32) &&& 31)) = x / 512 ∧ zr 0 1023 (x / 512) := by
  have a : ((x >>> ((9 : Int32) &&& 31))).toInt = x.toInt / 512 := z_quo (k := 9) (s := (9 : Int32) &&& 31) h.1 rfl
  have b := z_tdiv (x := x) (y := 512) 512 rfl h (by decide)
  have h0 := h.1
  have h1 := h.2
  exact ⟨Int32.toInt_inj.mp (by rw [a, b]), ⟨by rw [b]; omega, by rw [b]; omega⟩⟩
/-! the phase turned -/
noncomputable def zBd (r : Nat → Int32) (c o : Nat) (u v w : Int32) : Int32 := if o = 0 then (if (zPB r c 3 &&& 7) = 0 then 0 else (v + w) >>> ((9 - (zPB r c 3 &&& 7)) &&& 31)) else u
noncomputable def zTp (r : Nat → Int32) (c o : Nat) (p d x y : Int32) : Int32 := if zRy r c = 0 then p + d else if c < 7 then p + d else zDr8 c o p x y
/-! softness -/
noncomputable def zKp (x : Int32) : Int32 := if x = 0 then 0 else if x = 1 then 48 else if x = 2 then 64 else if x = 3 then 74 else if x = 4 then 80 else if x = 5 then 86 else if x = 6 then 90 else if x = 7 then 94 else if x = 8 then 96 else 82 + (2 * x)
theorem m_kept {x : Int32} : zpc (fX12_kept μ x) (fun z => z = (μ, zKp x)) := by
  unfold fX12_kept fX12_kept_97 zKp
  exact zpWif (fun _ => zpc_some rfl) (fun _ => zpWif (fun _ => zpc_some rfl) (fun _ => zpWif (fun _ => zpc_some rfl) (fun _ => zpWif (fun _ => zpc_some rfl) (fun _ => zpWif (fun _ => zpc_some rfl) (fun _ => zpWif (fun _ => zpc_some rfl) (fun _ => zpWif (fun _ => zpc_some rfl) (fun _ => zpWif (fun _ => zpc_some rfl) (fun _ => zpWif (fun _ => zpc_some rfl) (fun _ => zpc_some rfl)))))))))
theorem z_kp : ∀ n : Fin 512, zt8 ((Int32.ofNat n.val >>> ((5 : Int32) &&& 31)) &&& 15).toNatClampNeg = zKp (Int32.ofNat n.val / 32) ∧ (0 ≤ (zKp (Int32.ofNat n.val / 32)).toInt ∧ (zKp (Int32.ofNat n.val / 32)).toInt ≤ 112) := by decide +kernel
noncomputable def zGk (r : Nat → Int32) (c : Nat) : Int32 := zKp (zFq r c / 32) - (16 * (7 - zBkw r c))
noncomputable def zGs (g s : Int32) : Int32 := if g < 0 then 0 else if s = 0 then 0 else if s = 1 then g / 4 else if s = 2 then g / 2 else g
theorem z_gs : ∀ (n : Fin 226) (s : Fin 4), (if Int32.ofNat s.val = 0 then (0 : Int32) else if (Int32.ofNat n.val - 113) ≤ 0 then 0 else (Int32.ofNat n.val - 113) >>> ((3 - Int32.ofNat s.val) &&& 31)) = zGs (Int32.ofNat n.val - 113) (Int32.ofNat s.val) := by decide +kernel
theorem zGk_r (hb : zRb r) (h9 : c < 9) : zr (-112) 112 (zGk r c) := by
  obtain ⟨n, en⟩ := z_F (m := 512) (zFq_r hb h9) (by decide)
  obtain ⟨b, eb⟩ := z_F (m := 8) (zBk_r hb h9) (by decide)
  have k1 : zr 0 112 (zKp (zFq r c / 32)) := by rw [en]; exact (z_kp n).2
  have k2 : ∀ b : Fin 8, 0 ≤ (16 * (7 - Int32.ofNat b.val)).toInt ∧ (16 * (7 - Int32.ofNat b.val)).toInt ≤ 112 := by decide
  have k3 : zr 0 112 (16 * (7 - zBkw r c)) := by rw [eb]; exact k2 b
  have t := z_tsub k1 k3 (by decide)
  have a0 := k1.1
  have a1 := k1.2
  have b0 := k3.1
  have b1 := k3.2
  exact ⟨by show -112 ≤ (zKp (zFq r c / 32) - (16 * (7 - zBkw r c))).toInt; rw [t]; omega, by show (zKp (zFq r c / 32) - (16 * (7 - zBkw r c))).toInt ≤ 112; rw [t]; omega⟩
theorem z_s6 : ∀ n : Fin 256, 0 ≤ ((Int32.ofNat n.val >>> ((6 : Int32) &&& 31))).toInt ∧ ((Int32.ofNat n.val >>> ((6 : Int32) &&& 31))).toInt ≤ 3 := by decide +kernel
theorem c_scal (hc : zCk r c σ) (hb : zRb r) (h9 : c < 9) (hk : k < 8) : zpc (fX10_scaled σ ((zPB r c k) >>> ((6 : Int32) &&& 31))) (fun z => z = (σ, zGs (zGk r c) ((zPB r c k) >>> ((6 : Int32) &&& 31)))) := by
  obtain ⟨n, en⟩ := z_F (m := 512) (zFq_r hb h9) (by decide)
  obtain ⟨p, ep⟩ := z_F (m := 256) (zPB_r hb h9 hk) (by decide)
  have s4 : zr 0 3 ((zPB r c k) >>> ((6 : Int32) &&& 31)) := by rw [ep]; exact z_s6 p
  obtain ⟨s, es⟩ := z_F (m := 4) s4 (by decide)
  have gr := zGk_r hb h9
  have g0 := gr.1
  have g1 := gr.2
  have t := z_tadd gr (zr_c (lo := 113) (hi := 113) (x := 113) (by decide)) (by decide)
  have c113 : (113 : Int32).toInt = 113 := rfl
  obtain ⟨g, eg⟩ := z_F (m := 226) (x := zGk r c + 113) (b := 225) ⟨by rw [t]; omega, by rw [t]; omega⟩ (by decide)
  have eg2 : zGk r c = Int32.ofNat g.val - 113 := by rw [← eg, Int32.add_sub_cancel]
  have key := z_gs g s
  rw [← eg2, ← es] at key
  rw [← key]
  unfold fX10_scaled fX10_scaled_44
  have e8 : zt8 ((((zgi σ 5 4) >>> ((5 : Int32) &&& 31)) &&& 15).toNatClampNeg) = zKp (zFq r c / 32) := by
    rw [show zgi σ 5 4 = zFq r c from hc.2.1.2.1, en]
    exact (z_kp n).1
  rw [e8, show zgi σ 5 5 = zBkw r c from hc.2.1.2.2.1]
  refine zpWif (fun _ => zpc_some rfl) (fun _ => zpc_ck (zpc_bv (fun v1 e1 => ?_)))
  have e1 : v1 = zGk r c := e1
  subst e1
  exact zpWif (fun _ => zpc_some rfl) (fun _ => zpc_some rfl)
/-- loudness of the channel -/
noncomputable def zLd (r : Nat → Int32) (c o : Nat) : Int32 := if o = 0 then (if zRy r c = 0 then 2 * (zPB r c 2 &&& 63) else if c < 7 then 2 * (zPB r c 2 &&& 63) else 8 * (r (48 + c) >>> ((4 : Int32) &&& 31))) else 8 * (r (48 + c) &&& 15)
theorem z_low : ∀ n : Fin 256, (8 * ((Int32.ofNat n.val &&& 63) / 4)) + (2 * (zrem (Int32.ofNat n.val &&& 63) 4)) = 2 * (Int32.ofNat n.val &&& 63) := by decide +kernel
noncomputable def zQ210 (m : Nat) : Int32 := Int32.ofNat (m / 64 % 210)
noncomputable def zAm (r : Nat → Int32) (c o m : Nat) : Int32 := if (zPB r c o &&& 128) = 0 then 0 else if 105 ≤ zQ210 m then (210 - zQ210 m) / 8 else zQ210 m / 8
noncomputable def zSf (r : Nat → Int32) (c o m : Nat) (v : Int32) : Int32 := zmin 127 (((v + zGs (zGk r c) ((zPB r c (2 + o)) >>> ((6 : Int32) &&& 31))) + zLd r c o) + zAm r c o m)
end ZWG
end ZJN13
section ZJN14
/-! WAVES: ONE OPERATOR OF BOTH -/
section ZWH
variable {σ μ s t : zSt} {r : Nat → Int32} {c o m h l a k q j A : Nat} {Q : zSt → zSt → Prop}
theorem zRy_0 (z : (r 14 &&& 32) = 0) : zRy r c = 0 := by
  unfold zRy
  by_cases y : Int32.ofNat c ≤ 5
  · rw [if_pos y]
  · rw [if_neg y, if_pos z]
theorem z_ofB {a b : Nat} (h : b ≤ a) (ha : a < 100000) : Int32.ofNat a - Int32.ofNat b = Int32.ofNat (a - b) := by
  refine z_ofN ?_
  rw [z_tsub (x := Int32.ofNat a) (y := Int32.ofNat b) (a := 0) (b := 100000) (c := 0) (d := 100000) ⟨by rw [z_ofI ha]; omega, by rw [z_ofI ha]; omega⟩ ⟨by rw [z_ofI (by omega)]; omega, by rw [z_ofI (by omega)]; omega⟩ (by decide), z_ofI ha, z_ofI (by omega)]
  omega
theorem c_tp (hc : zCk r c σ) (h9 : c < 9) (ho : o < 2) (eq : q = 2 * c + o) : zpc (fX10_turnedPhase σ (Int32.ofNat (128 + 8 * q)) (Int32.ofNat o)) (fun z => z = (σ, zTp r c o ((σ.1 32 (128 + 8 * q + 2)) >>> ((9 : Int32) &&& 31)) (zBd r c o (σ.1 32 (128 + 8 * q - 5)) (σ.1 32 (128 + 8 * q + 3)) (σ.1 32 (128 + 8 * q + 4))) (zDx ((σ.1 32 242) >>> ((9 : Int32) &&& 31)) ((σ.1 32 266) >>> ((9 : Int32) &&& 31))) (zDy (σ.1 32 65)))) := by
  have j2 : (Int32.ofNat (128 + 8 * q) + 2).toNatClampNeg = 128 + 8 * q + 2 := z_atk (m := 2) (by omega)
  have j3 : (Int32.ofNat (128 + 8 * q) + 3).toNatClampNeg = 128 + 8 * q + 3 := z_atk (m := 3) (by omega)
  have j4 : (Int32.ofNat (128 + 8 * q) + 4).toNatClampNeg = 128 + 8 * q + 4 := z_atk (m := 4) (by omega)
  have j5 : ((Int32.ofNat (128 + 8 * q) - 8) + 3).toNatClampNeg = 128 + 8 * q - 5 := by
    rw [show Int32.ofNat (128 + 8 * q) - 8 = Int32.ofNat (128 + 8 * q - 8) from z_ofB (b := 8) (by omega) (by omega)]
    rw [show (Int32.ofNat (128 + 8 * q - 8) + 3).toNatClampNeg = 128 + 8 * q - 8 + 3 from z_atk (m := 3) (by omega)]
    omega
  obtain ⟨o0, o1⟩ := z_o01 ⟨o, ho⟩
  have o1 : Int32.ofNat o = 1 ↔ ¬ o = 0 := o1
  obtain ⟨_, _, c7, _, c5⟩ := z_c78 ⟨c, h9⟩
  have c7 : Int32.ofNat c < 7 ↔ c < 7 := c7
  have c5 : Int32.ofNat c ≤ 5 ↔ c < 6 := c5
  unfold fX10_turnedPhase
  rw [j2, show zgi σ 5 2 = (if (r 14 &&& 32) = 0 then 0 else 1) from hc.2.2, show zgi σ 5 3 = Int32.ofNat c from hc.2.1.1]
  refine zpc_ck (zpc_bv (fun v4 e4 => ?_))
  have e4 : v4 = ((σ.1 32 (128 + 8 * q + 2)) >>> ((9 : Int32) &&& 31)) := e4
  subst e4
  have g35 : ∀ p : Int32, zpc (fX10_turnedPhase_35 σ (Int32.ofNat (128 + 8 * q)) (Int32.ofNat o) p) (fun z => z = (σ, p + zBd r c o (σ.1 32 (128 + 8 * q - 5)) (σ.1 32 (128 + 8 * q + 3)) (σ.1 32 (128 + 8 * q + 4)))) := fun p => by
    unfold fX10_turnedPhase_35 fX10_turnedPhase_98 zBd
    rw [j3, j4, j5]
    by_cases z : o = 0
    · rw [if_pos z]
      refine zpc_if (fun u => absurd z (o1.mp u)) (fun _ => zpc_bi (c_part hc.2.1 (k := 3) (by decide) rfl) (fun s1 v2 e => ?_))
      cases e
      refine zpc_bv (fun v3 e3 => ?_)
      subst e3
      by_cases y : (zPB r c 3 &&& 7) = 0
      · rw [if_pos y, if_pos y, Int32.add_zero]
        exact zpc_some rfl
      · rw [if_neg y, if_neg y]
        exact zpc_ck (zpc_ck (zpc_some rfl))
    · rw [if_neg z]
      exact zpc_if (fun _ => zpc_ck (zpc_some rfl)) (fun u => absurd (o1.mpr z) u)
  unfold zTp
  by_cases z : (r 14 &&& 32) = 0
  · have y : zRy r c = 0 := zRy_0 z
    rw [if_pos z, if_pos y]
    exact zpc_if (fun _ => g35 _) (fun u => absurd rfl u)
  · rw [if_neg z]
    refine zpc_if (fun u => absurd u (by decide)) (fun _ => ?_)
    by_cases y : c < 7
    · have w : (if zRy r c = 0 then ((σ.1 32 (128 + 8 * q + 2)) >>> ((9 : Int32) &&& 31)) + zBd r c o (σ.1 32 (128 + 8 * q - 5)) (σ.1 32 (128 + 8 * q + 3)) (σ.1 32 (128 + 8 * q + 4)) else if c < 7 then ((σ.1 32 (128 + 8 * q + 2)) >>> ((9 : Int32) &&& 31)) + zBd r c o (σ.1 32 (128 + 8 * q - 5)) (σ.1 32 (128 + 8 * q + 3)) (σ.1 32 (128 + 8 * q + 4)) else zDr8 c o ((σ.1 32 (128 + 8 * q + 2)) >>> ((9 : Int32) &&& 31)) (zDx ((σ.1 32 242) >>> ((9 : Int32) &&& 31)) ((σ.1 32 266) >>> ((9 : Int32) &&& 31))) (zDy (σ.1 32 65))) = ((σ.1 32 (128 + 8 * q + 2)) >>> ((9 : Int32) &&& 31)) + zBd r c o (σ.1 32 (128 + 8 * q - 5)) (σ.1 32 (128 + 8 * q + 3)) (σ.1 32 (128 + 8 * q + 4)) := by
        rw [if_pos y]
        split <;> rfl
      rw [w]
      exact zpc_if (fun _ => g35 _) (fun u => absurd (c7.mpr y) u)
    · have nz : ¬ zRy r c = 0 := by
        unfold zRy
        rw [if_neg (fun u => y (by have := c5.mp u; omega)), if_neg z]
        decide
      rw [if_neg nz, if_neg y]
      refine zpc_if (fun u => absurd (c7.mp u) y) (fun _ => zpc_bi (c_drum hc.2.1.1 h9 (by omega) ho) (fun s5 v6 e => ?_))
      cases e
      exact zpc_some rfl
theorem c_trem (hn : σ.1 32 66 = Int32.ofNat m) (hm : m ≤ 1000000000) : zpc (fX10_tremble σ ) (fun z => z = (σ, if 105 ≤ zQ210 m then (210 - zQ210 m) / 8 else zQ210 m / 8)) := by
  have e : zrem (Int32.ofNat m / 64) 210 = zQ210 m := by
    have i := zNn_i hm
    have d := z_tdiv (x := Int32.ofNat m) (y := 64) (a := 0) (b := 1000000000) 64 rfl ⟨by rw [i]; omega, by rw [i]; omega⟩ (by decide)
    have f := z_trem (x := Int32.ofNat m / 64) (y := 210) (a := 0) (b := 1000000000) 210 rfl ⟨by rw [d, i]; omega, by rw [d, i]; omega⟩ (by decide)
    refine z_ofN ?_
    rw [f, d, i]
    omega
  unfold fX10_tremble fX10_tremble_30
  rw [show zgi σ 32 (66 : Int32).toNatClampNeg = Int32.ofNat m from hn, e]
  refine zpc_ck (zpc_ck (zpc_ck (zpc_bv (fun v1 e1 => ?_))))
  subst e1
  exact zpWif (fun _ => zpc_ck (zpc_some rfl)) (fun _ => zpc_ck (zpc_some rfl))
theorem c_soft (hc : zCk r c σ) (hb : zRb r) (h9 : c < 9) (ho : o < 2) (hn : σ.1 32 66 = Int32.ofNat m) (hm : m ≤ 1000000000) (hA : A < 300) : zpc (fX10_softness σ (Int32.ofNat A) (Int32.ofNat o)) (fun z => z = (σ, zSf r c o m (σ.1 32 A))) := by
  have j0 : (Int32.ofNat A + 0).toNatClampNeg = A := z_atk (m := 0) (by omega)
  obtain ⟨o0, o1⟩ := z_o01 ⟨o, ho⟩
  have o1 : Int32.ofNat o = 1 ↔ ¬ o = 0 := o1
  obtain ⟨_, _, c7, _, c5⟩ := z_c78 ⟨c, h9⟩
  have c7 : Int32.ofNat c < 7 ↔ c < 7 := c7
  have c5 : Int32.ofNat c ≤ 5 ↔ c < 6 := c5
  have g103 : ∀ x : Int32, zpc (fX10_softness_103 σ (Int32.ofNat o) x) (fun z => z = (σ, zmin 127 (x + zAm r c o m))) := fun x => by
    unfold fX10_softness_103 fX10_softness_124 zAm
    refine zpc_bi (c_part hc.2.1 (k := o) (by omega) rfl) (fun s1 v2 e => ?_)
    cases e
    by_cases y : (zPB r c o &&& 128) = 0
    · rw [if_pos y, if_pos y, Int32.add_zero]
      exact zpc_some rfl
    · rw [if_neg y, if_neg y]
      refine zpc_bi (c_trem hn hm) (fun s3 v4 e => ?_)
      cases e
      refine zpc_bv (fun v5 e5 => ?_)
      subst e5
      exact zpc_some rfl
  unfold fX10_softness
  rw [j0, show zgi σ 5 3 = Int32.ofNat c from hc.2.1.1, show (48 + Int32.ofNat c).toNatClampNeg = 48 + c from z_atk (a := 48) (m := c) (by omega), show zgi σ 32 (48 + c) = r (48 + c) from hc.1 _ (by omega)]
  refine zpc_ck (zpc_bv (fun v9 e9 => zpc_ck (zpc_bi (c_part hc.2.1 (k := 2 + o) (by omega) (z_ofA (a := 2))) (fun s10 v11 e => ?_))))
  subst e9
  cases e
  refine zpc_bi (c_scal hc hb h9 (k := 2 + o) (by omega)) (fun s12 v13 e => ?_)
  cases e
  refine zpc_bv (fun v14 e14 => ?_)
  have e14 : v14 = σ.1 32 A + zGs (zGk r c) ((zPB r c (2 + o)) >>> ((6 : Int32) &&& 31)) := e14
  subst e14
  have g88 : zLd r c o = 2 * (zPB r c 2 &&& 63) → zpc (fX10_softness_88 σ (Int32.ofNat o) (σ.1 32 A + zGs (zGk r c) ((zPB r c (2 + o)) >>> ((6 : Int32) &&& 31)))) (fun z => z = (σ, zSf r c o m (σ.1 32 A))) := fun el => by
    unfold fX10_softness_88 zSf
    rw [el]
    refine zpc_bi (c_part hc.2.1 (k := 2) (by decide) rfl) (fun s6 v7 e => ?_)
    cases e
    refine zpc_bv (fun v8 e8 => ?_)
    subst e8
    exact g103 _
  rw [show zgi σ 5 2 = (if (r 14 &&& 32) = 0 then 0 else 1) from hc.2.2, show zgi σ 5 3 = Int32.ofNat c from hc.2.1.1]
  by_cases z : o = 0
  · refine zpc_if (fun u => absurd z (o1.mp u)) (fun _ => ?_)
    by_cases y : (r 14 &&& 32) = 0
    · rw [if_pos y]
      refine zpc_if (fun _ => g88 ?_) (fun u => absurd rfl u)
      have w : zRy r c = 0 := zRy_0 y
      unfold zLd
      rw [if_pos z, if_pos w]
    · rw [if_neg y]
      refine zpc_if (fun u => absurd u (by decide)) (fun _ => ?_)
      by_cases x : c < 7
      · refine zpc_if (fun _ => g88 ?_) (fun u => absurd (c7.mpr x) u)
        unfold zLd
        rw [if_pos z, if_pos x]
        split <;> rfl
      · refine zpc_if (fun u => absurd (c7.mp u) x) (fun _ => zpc_bv (fun v15 e15 => ?_))
        subst e15
        have nz : ¬ zRy r c = 0 := by
          unfold zRy
          rw [if_neg (fun u => x (by have := c5.mp u; omega)), if_neg y]
          decide
        unfold zSf zLd
        rw [if_pos z, if_neg nz, if_neg x]
        exact g103 _
  · refine zpc_if (fun _ => zpc_bv (fun v16 e16 => ?_)) (fun u => absurd (o1.mpr z) u)
    subst e16
    unfold zSf zLd
    rw [if_neg z]
    exact g103 _
/-! ranges -/
theorem zGs_r {g s : Int32} (h : zr (-112) 112 g) : zr 0 112 (zGs g s) := by
  have h0 := h.1
  have h1 := h.2
  unfold zGs
  by_cases q : g < 0
  · rw [if_pos q]; exact zr_c (by decide)
  · rw [if_neg q]
    have q1 := Int32.le_iff_toInt_le.mp (z_nlt q)
    rw [show (0 : Int32).toInt = 0 from rfl] at q1
    have d4 := z_tdiv (x := g) (y := 4) (a := 0) (b := 112) 4 rfl ⟨q1, h1⟩ (by decide)
    have d2 := z_tdiv (x := g) (y := 2) (a := 0) (b := 112) 2 rfl ⟨q1, h1⟩ (by decide)
    split
    · exact zr_c (by decide)
    split
    · exact ⟨by rw [d4]; omega, by rw [d4]; omega⟩
    split
    · exact ⟨by rw [d2]; omega, by rw [d2]; omega⟩
    · exact ⟨q1, h1⟩
theorem z_ldr : ∀ n : Fin 256, (0 ≤ (2 * (Int32.ofNat n.val &&& 63)).toInt ∧ (2 * (Int32.ofNat n.val &&& 63)).toInt ≤ 126) ∧ (0 ≤ (8 * (Int32.ofNat n.val >>> ((4 : Int32) &&& 31))).toInt ∧ (8 * (Int32.ofNat n.val >>> ((4 : Int32) &&& 31))).toInt ≤ 126) ∧ (0 ≤ (8 * (Int32.ofNat n.val &&& 15)).toInt ∧ (8 * (Int32.ofNat n.val &&& 15)).toInt ≤ 126) := by decide +kernel
theorem zLd_r (hb : zRb r) (h9 : c < 9) : zr 0 126 (zLd r c o) := by
  obtain ⟨n, en⟩ := z_F (m := 256) (zPB_r (k := 2) hb h9 (by decide)) (by decide)
  obtain ⟨p, ep⟩ := z_F (m := 256) (hb (48 + c) (by omega)) (by decide)
  unfold zLd
  rw [en, ep]
  by_cases z : o = 0
  · rw [if_pos z]
    by_cases y : zRy r c = 0
    · rw [if_pos y]; exact (z_ldr n).1
    · rw [if_neg y]
      by_cases x : c < 7
      · rw [if_pos x]; exact (z_ldr n).1
      · rw [if_neg x]; exact (z_ldr p).2.1
  · rw [if_neg z]; exact (z_ldr p).2.2
theorem zAm_r : zr 0 26 (zAm r c o m) := by
  have k : ∀ n : Fin 210, (0 ≤ ((210 - Int32.ofNat n.val) / 8).toInt ∧ ((210 - Int32.ofNat n.val) / 8).toInt ≤ 26) ∧ (0 ≤ (Int32.ofNat n.val / 8).toInt ∧ (Int32.ofNat n.val / 8).toInt ≤ 26) := by decide +kernel
  have kk := k ⟨m / 64 % 210, by omega⟩
  unfold zAm zQ210
  by_cases z : (zPB r c o &&& 128) = 0
  · rw [if_pos z]; exact zr_c (by decide)
  · rw [if_neg z]
    by_cases y : 105 ≤ Int32.ofNat (m / 64 % 210)
    · rw [if_pos y]; exact kk.1
    · rw [if_neg y]; exact kk.2
theorem zSf_r (hb : zRb r) (h9 : c < 9) {v : Int32} (hv : zr 0 127 v) : zr 0 127 (zSf r c o m v) := by
  have g := zGs_r (s := ((zPB r c (2 + o)) >>> ((6 : Int32) &&& 31))) (zGk_r hb h9)
  have l := zLd_r (o := o) hb h9
  have a := zAm_r (r := r) (c := c) (o := o) (m := m)
  have s1 := zr_add (lo := 0) (hi := 239) hv g (by decide)
  have s2 := zr_add (lo := 0) (hi := 365) s1 l (by decide)
  have s3 := zr_add (lo := 0) (hi := 391) s2 a (by decide)
  unfold zSf zmin
  by_cases q : (((v + zGs (zGk r c) ((zPB r c (2 + o)) >>> ((6 : Int32) &&& 31))) + zLd r c o) + zAm r c o m) < (127 : Int32)
  · rw [if_pos q]
    have q1 := Int32.lt_iff_toInt_lt.mp q
    rw [show (127 : Int32).toInt = 127 from rfl] at q1
    exact ⟨s3.1, by omega⟩
  · rw [if_neg q]; exact zr_c (by decide)
/-! the wave -/
noncomputable def zWiw (p : Int32) : Int32 := if (p &&& 256) = 0 then p &&& 255 else 255 - (p &&& 255)
noncomputable def zWqw (p t : Int32) : Int32 := 2 * ((1024 + (zt10 (255 - (((zt9 (zWiw p).toNatClampNeg) + (16 * t)) &&& 255)).toNatClampNeg)) >>> ((((zt9 (zWiw p).toNatClampNeg) + (16 * t)) >>> ((8 : Int32) &&& 31)) &&& 31))
noncomputable def zWv (p t hv : Int32) : Int32 := if (p &&& 512) = 0 then zWqw p t else if hv = 0 then -(zWqw p t) else 0
theorem c_wave {p t hv : Int32} : zpc (fX10_waveAt σ p t hv) (fun z => z = (σ, zWv p t hv)) := by
  have g24 : ∀ b : Int32, zpc (fX10_waveAt_24 σ p t b) (fun z => z = (σ, if b = 0 then zWqw p t else -(zWqw p t))) := fun b => by
    have g49 : ∀ i : Int32, i = zWiw p → zpc (fX10_waveAt_49 σ t b i) (fun z => z = (σ, if b = 0 then zWqw p t else -(zWqw p t))) := fun i ei => by
      subst ei
      unfold fX10_waveAt_49 fX10_waveAt_104
      refine zpc_ck (zpc_bv (fun v1 e1 => zpc_ck (zpc_bv (fun v2 e2 => ?_))))
      subst e1
      subst e2
      exact zpWif (fun _ => zpc_some rfl) (fun _ => zpc_some rfl)
    unfold fX10_waveAt_24
    by_cases z : (p &&& 256) = 0
    · refine zpc_if (fun _ => g49 _ ?_) (fun u => absurd z u)
      unfold zWiw
      rw [if_pos z]
    · refine zpc_if (fun u => absurd u z) (fun _ => g49 _ ?_)
      unfold zWiw
      rw [if_neg z]
  unfold fX10_waveAt fX10_waveAt_13 zWv
  by_cases z : (p &&& 512) = 0
  · rw [if_pos z, if_pos z]
    refine zpc_if (fun _ => ?_) (fun u => absurd rfl u)
    have y := g24 0
    rw [if_pos rfl] at y
    exact y
  · rw [if_neg z, if_neg z]
    refine zpc_if (fun u => absurd u (by decide)) (fun _ => ?_)
    by_cases x : hv = 0
    · rw [if_pos x, if_pos x]
      have y := g24 1
      rw [if_neg (by decide)] at y
      exact y
    · rw [if_neg x, if_neg x]
      exact zpc_some rfl
noncomputable def zHv (r : Nat → Int32) (c o : Nat) : Int32 := if ((zPB r c 3 >>> ((3 + Int32.ofNat o) &&& 31)) &&& 1) = 1 then 1 else 0
/-- what it gives -/
noncomputable def zOut (r : Nat → Int32) (c o m : Nat) (v p d x y : Int32) : Int32 := if 124 ≤ v then 0 else zWv (zTp r c o p d x y &&& 1023) (zSf r c o m v) (zHv r c o)
theorem c_outw (hc : zCk r c σ) (hb : zRb r) (h9 : c < 9) (ho : o < 2) (eq : q = 2 * c + o) (hn : σ.1 32 66 = Int32.ofNat m) (hm : m ≤ 1000000000) : zpc (fX10_moveOut σ (Int32.ofNat (128 + 8 * q)) (Int32.ofNat o)) (fun s => s = zsi (zsi σ 32 (128 + 8 * q + 4) (σ.1 32 (128 + 8 * q + 3))) 32 (128 + 8 * q + 3) (zOut r c o m (σ.1 32 (128 + 8 * q)) ((σ.1 32 (128 + 8 * q + 2)) >>> ((9 : Int32) &&& 31)) (zBd r c o (σ.1 32 (128 + 8 * q - 5)) (σ.1 32 (128 + 8 * q + 3)) (σ.1 32 (128 + 8 * q + 4))) (zDx ((σ.1 32 242) >>> ((9 : Int32) &&& 31)) ((σ.1 32 266) >>> ((9 : Int32) &&& 31))) (zDy (σ.1 32 65)))) := by
  have hq : q < 18 := by omega
  have j0 : (Int32.ofNat (128 + 8 * q) + 0).toNatClampNeg = 128 + 8 * q := z_atk (m := 0) (by omega)
  have j3 : (Int32.ofNat (128 + 8 * q) + 3).toNatClampNeg = 128 + 8 * q + 3 := z_atk (m := 3) (by omega)
  have j4 : (Int32.ofNat (128 + 8 * q) + 4).toNatClampNeg = 128 + 8 * q + 4 := z_atk (m := 4) (by omega)
  have g55 : ∀ v : Int32, zpc (fX10_moveOut_55 σ (Int32.ofNat (128 + 8 * q)) v) (fun s => s = zsi (zsi σ 32 (128 + 8 * q + 4) (σ.1 32 (128 + 8 * q + 3))) 32 (128 + 8 * q + 3) v) := fun v => by
    unfold fX10_moveOut_55
    rw [j3, j4]
    exact zpc_ck (zpc_ck (zpc_bv (fun s1 e1 => zpc_ck (zpc_bv (fun s2 e2 => zpc_some (by rw [e2, e1]; rfl))))))
  unfold fX10_moveOut zOut
  rw [j0, show zgi σ 32 (128 + 8 * q) = σ.1 32 (128 + 8 * q) from rfl]
  by_cases z : 124 ≤ σ.1 32 (128 + 8 * q)
  · rw [if_pos z, if_pos z]
    exact zpc_ck (g55 0)
  · rw [if_neg z, if_neg z]
    refine zpc_ck (zpc_bi (c_tp hc h9 ho eq) (fun s5 v6 e => ?_))
    cases e
    refine zpc_bi (c_soft hc hb h9 ho hn hm (by omega)) (fun s7 v8 e => ?_)
    cases e
    refine zpc_bi (c_part hc.2.1 (k := 3) (by decide) rfl) (fun s9 v10 e => ?_)
    cases e
    have g51 : ∀ hv : Int32, zpc (fX10_moveOut_51 σ (Int32.ofNat (128 + 8 * q)) hv (zSf r c o m (σ.1 32 (128 + 8 * q))) (zTp r c o ((σ.1 32 (128 + 8 * q + 2)) >>> ((9 : Int32) &&& 31)) (zBd r c o (σ.1 32 (128 + 8 * q - 5)) (σ.1 32 (128 + 8 * q + 3)) (σ.1 32 (128 + 8 * q + 4))) (zDx ((σ.1 32 242) >>> ((9 : Int32) &&& 31)) ((σ.1 32 266) >>> ((9 : Int32) &&& 31))) (zDy (σ.1 32 65)) &&& 1023)) (fun s => s = zsi (zsi σ 32 (128 + 8 * q + 4) (σ.1 32 (128 + 8 * q + 3))) 32 (128 + 8 * q + 3) (zWv (zTp r c o ((σ.1 32 (128 + 8 * q + 2)) >>> ((9 : Int32) &&& 31)) (zBd r c o (σ.1 32 (128 + 8 * q - 5)) (σ.1 32 (128 + 8 * q + 3)) (σ.1 32 (128 + 8 * q + 4))) (zDx ((σ.1 32 242) >>> ((9 : Int32) &&& 31)) ((σ.1 32 266) >>> ((9 : Int32) &&& 31))) (zDy (σ.1 32 65)) &&& 1023) (zSf r c o m (σ.1 32 (128 + 8 * q))) hv)) := fun hv => by
      unfold fX10_moveOut_51
      refine zpc_bi c_wave (fun s3 v4 e => ?_)
      cases e
      exact g55 _
    unfold zHv
    by_cases y : ((zPB r c 3 >>> ((3 + Int32.ofNat o) &&& 31)) &&& 1) = 1
    · rw [if_pos y, if_pos y]; exact g51 1
    · rw [if_neg y, if_neg y]; exact g51 0
end ZWH
end ZJN14
section ZJN15
/-! WAVES: THE REFERENCE'S OPERATOR; BOTH -/
section ZWI
variable {σ μ s t : zSt} {r : Nat → Int32} {c o m h l a k q j A : Nat} {Q : zSt → zSt → Prop}
theorem z_t9 : ∀ n : Fin 256, zt11 n.val = zt9 n.val ∧ zt12 n.val = zt10 n.val ∧ (0 ≤ (zt9 n.val).toInt ∧ (zt9 n.val).toInt ≤ 2137) := by decide +kernel
theorem z_pm : ∀ n : Fin 1024, zrem (Int32.ofNat n.val) 256 = Int32.ofNat n.val &&& 255 ∧ (0 ≤ (zWiw (Int32.ofNat n.val)).toInt ∧ (zWiw (Int32.ofNat n.val)).toInt ≤ 255) := by decide +kernel
theorem m_296 (hr : zRm r μ) (h9 : c < 9) (ho : o < 2) {p v : Int32} (hp : zr 0 1023 p) (hv : zr 0 127 v) : zpc (fX12_waveAt_296 μ (Int32.ofNat c) (Int32.ofNat o) p (zWiw p) v) (fun z => z = (μ, zWv p v (zHv r c o))) := by
  obtain ⟨n, en⟩ := z_F (m := 1024) hp (by decide)
  have wi : zr 0 255 (zWiw p) := by rw [en]; exact (z_pm n).2
  obtain ⟨i, ei⟩ := z_F (m := 256) wi (by decide)
  obtain ⟨t1, _, t3⟩ := z_t9 i
  have iw : (zWiw p).toNatClampNeg = i.val := by rw [ei]; exact z_ofC (by omega)
  have v0 := hv.1
  have v1 := hv.2
  have r9 : zr 0 2137 (zt9 (zWiw p).toNatClampNeg) := by rw [iw]; exact t3
  have m16 := zr_mul (lo := 0) (hi := 2032) (zr_c (x := 16) (lo := 16) (hi := 16) (by decide)) hv (by decide)
  have s1 := zr_add (lo := 0) (hi := 4169) r9 m16 (by decide)
  have e11 : zt11 (zWiw p).toNatClampNeg = zt9 (zWiw p).toNatClampNeg := by rw [iw]; exact t1
  generalize hx : zt9 (zWiw p).toNatClampNeg + (16 * v) = x at s1
  have a255 : (x &&& 255).toInt = x.toInt % 256 := z_mask (k := 8) s1.1 rfl (by decide)
  have b255 := z_trem (x := x) (y := 256) 256 rfl s1 (by decide)
  have er : zrem x 256 = x &&& 255 := Int32.toInt_inj.mp (by rw [a255, b255])
  have a8 : ((x >>> ((8 : Int32) &&& 31))).toInt = x.toInt / 256 := z_quo (k := 8) (s := (8 : Int32) &&& 31) s1.1 rfl
  have b8 := z_tdiv (x := x) (y := 256) 256 rfl s1 (by decide)
  have ed : x / 256 = (x >>> ((8 : Int32) &&& 31)) := Int32.toInt_inj.mp (by rw [a8, b8])
  have r255 : zr 0 255 (255 - (x &&& 255)) := by
    have t := z_tsub (x := 255) (y := x &&& 255) (a := 255) (b := 255) (c := 0) (d := 255) (zr_c (by decide)) ⟨by rw [a255]; omega, by rw [a255]; omega⟩ (by decide)
    exact ⟨by rw [t, a255, show (255 : Int32).toInt = 255 from rfl]; omega, by rw [t, a255, show (255 : Int32).toInt = 255 from rfl]; omega⟩
  obtain ⟨k, ek⟩ := z_F (m := 256) r255 (by decide)
  have e12 : zt12 (255 - (x &&& 255)).toNatClampNeg = zt10 (255 - (x &&& 255)).toNatClampNeg := by
    have kw : (255 - (x &&& 255)).toNatClampNeg = k.val := by rw [ek]; exact z_ofC (by omega)
    rw [kw]
    exact (z_t9 k).2.1
  unfold fX12_waveAt_296 fX12_waveAt_376 zWv zWqw
  rw [e11, hx]
  refine zpc_ck (zpc_bv (fun w1 f1 => ?_))
  subst f1
  rw [er, ed, e12]
  refine zpc_ck (zpc_ck (zpc_ck (zpc_bv (fun w2 f2 => ?_))))
  subst f2
  refine zpWif (fun _ => zpc_some rfl) (fun _ => zpc_bi (m_pb hr h9 (k := 3) (by decide) rfl) (fun s3 v4 e => ?_))
  cases e
  unfold zHv
  by_cases y : ((zPB r c 3 >>> ((3 + Int32.ofNat o) &&& 31)) &&& 1) = 1
  · rw [if_pos y, if_pos y, if_neg (by decide)]
    exact zpc_some rfl
  · rw [if_neg y, if_neg y, if_pos rfl]
    exact zpc_some rfl
theorem z_p10 : ∀ n : Fin 256, 0 ≤ (zt10 n.val).toInt ∧ (zt10 n.val).toInt ≤ 1018 := by decide +kernel
theorem zWqw_r {p v : Int32} : zr 0 4084 (zWqw p v) := by
  unfold zWqw
  generalize (zt9 (zWiw p).toNatClampNeg) + (16 * v) = x
  have a : zr 0 255 (x &&& 255) := z_r8 x
  have a0 := a.1
  have a1 := a.2
  have t := z_tsub (x := 255) (y := x &&& 255) (a := 255) (b := 255) (c := 0) (d := 255) (zr_c (by decide)) a (by decide)
  have r255 : zr 0 255 (255 - (x &&& 255)) := ⟨by rw [t, show (255 : Int32).toInt = 255 from rfl]; omega, by rw [t, show (255 : Int32).toInt = 255 from rfl]; omega⟩
  obtain ⟨k, ek⟩ := z_F (m := 256) r255 (by decide)
  have kw : (255 - (x &&& 255)).toNatClampNeg = k.val := by rw [ek]; exact z_ofC (by omega)
  have b : zr 0 1018 (zt10 (255 - (x &&& 255)).toNatClampNeg) := by rw [kw]; exact z_p10 k
  have s1 := zr_add (lo := 1024) (hi := 2042) (zr_c (x := 1024) (lo := 1024) (hi := 1024) (by decide)) b (by decide)
  generalize 1024 + (zt10 (255 - (x &&& 255)).toNatClampNeg) = y at s1
  have y0 := s1.1
  have y1 := s1.2
  have d := z_quo (x := y) (s := (x >>> ((8 : Int32) &&& 31)) &&& 31) (by omega) rfl
  have pp : (0 : Int) < ((2 ^ ((((x >>> ((8 : Int32) &&& 31)) &&& 31).toBitVec.smod 32).toNat) : Nat) : Int) := by exact_mod_cast Nat.two_pow_pos _
  have e : zr 0 2042 (y >>> ((x >>> ((8 : Int32) &&& 31)) &&& 31)) := ⟨by rw [d]; exact Int.ediv_nonneg (by omega) (Int.le_of_lt pp), by rw [d]; exact Int.le_trans (Int.ediv_le_self _ (by omega)) y1⟩
  exact zr_mul (lo := 0) (hi := 4084) (zr_c (x := 2) (lo := 2) (hi := 2) (by decide)) e (by decide)
theorem zWv_r {p v hv : Int32} : zr (-4084) 4084 (zWv p v hv) := by
  have a := zWqw_r (p := p) (v := v)
  have a0 := a.1
  have a1 := a.2
  unfold zWv
  split
  · exact ⟨by omega, a1⟩
  split
  · have e : (-(zWqw p v)).toInt = -(zWqw p v).toInt := by
      rw [Int32.toInt_neg]
      exact z_bm (by omega) (by omega)
    exact ⟨by rw [e]; omega, by rw [e]; omega⟩
  · exact zr_c (by decide)
theorem zOut_r {v p d x y : Int32} : zr (-4084) 4084 (zOut r c o m v p d x y) := by
  unfold zOut
  split
  · exact zr_c (by decide)
  · exact zWv_r
theorem m_263 (hr : zRm r μ) (h9 : c < 9) (ho : o < 2) {p g d w : Int32} (hp : zr 0 1023 p) (hA : A < 1000) (hv : zr 0 127 (zmin 127 (((μ.1 3 A + g) + d) + w))) : zpc (fX12_waveAt_263 μ (Int32.ofNat A) (Int32.ofNat c) (Int32.ofNat o) p (zWiw p) g d w) (fun z => z = (μ, zWv p (zmin 127 (((μ.1 3 A + g) + d) + w)) (zHv r c o))) := by
  unfold fX12_waveAt_263
  rw [z_ofC (by omega)]
  refine zpc_ck (zpc_bv (fun v5 e5 => ?_))
  have e5 : v5 = ((μ.1 3 A + g) + d) + w := e5
  subst e5
  have mn := z_mn (v := ((μ.1 3 A + g) + d) + w)
  rw [← mn] at hv ⊢
  by_cases y : ((μ.1 3 A + g) + d) + w ≤ 127
  · rw [if_pos y] at hv
    rw [if_pos y, if_pos y]
    exact m_296 hr h9 ho hp hv
  · rw [if_neg y] at hv
    rw [if_neg y, if_neg y]
    exact m_296 hr h9 ho hp hv
theorem m_wavq (hr : zRm r μ) (hb : zRb r) (h9 : c < 9) (ho : o < 2) (hL : (μ.2 4 4).toInt = (m : Int)) (hm : m ≤ 1000000000) (hA : A < 1000) (hl : zr 0 127 (μ.1 3 A)) {p : Int32} (hp : zr 0 1023 p) : zpc (fX12_waveAt μ (Int32.ofNat A) (Int32.ofNat c) (Int32.ofNat o) p) (fun z => z = (μ, if 124 ≤ μ.1 3 A then 0 else zWv p (zSf r c o m (μ.1 3 A)) (zHv r c o))) := by
  obtain ⟨n, en⟩ := z_F (m := 1024) hp (by decide)
  have pm : zrem p 256 = p &&& 255 := by rw [en]; exact (z_pm n).1
  obtain ⟨o0, o1⟩ := z_o01 ⟨o, ho⟩
  have o1 : Int32.ofNat o = 1 ↔ ¬ o = 0 := o1
  obtain ⟨_, _, _, c6, c5⟩ := z_c78 ⟨c, h9⟩
  have c6 : Int32.ofNat c ≤ 6 ↔ c < 7 := c6
  obtain ⟨p2, ep2⟩ := z_F (m := 256) (zPB_r (k := 2) hb h9 (by decide)) (by decide)
  have q210 : (zreml (μ.2 4 4 / 64) 210).toInt32 = zQ210 m := by
    have d := z_tldiv (x := μ.2 4 4) (y := 64) (a := 0) (b := 1000000000) 64 rfl ⟨by omega, by omega⟩ (by decide)
    have e := z_tlrem (x := μ.2 4 4 / 64) (y := 210) (a := 0) (b := 1000000000) 210 rfl ⟨by rw [d]; omega, by rw [d]; omega⟩ (by decide)
    refine z_ofN ?_
    rw [Int64.toInt_toInt32, e, d, hL, Int.bmod_eq_of_le (by omega) (by omega)]
    omega
  have sf := zSf_r (o := o) (m := m) hb h9 hl
  have g206 : ∀ d : Int32, d = zLd r c o → zpc (fX12_waveAt_206 μ (Int32.ofNat A) (Int32.ofNat c) (Int32.ofNat o) p (zWiw p) (zGs (zGk r c) ((zPB r c (2 + o)) >>> ((6 : Int32) &&& 31))) d) (fun z => z = (μ, zWv p (zSf r c o m (μ.1 3 A)) (zHv r c o))) := fun d ed => by
    unfold fX12_waveAt_206 fX12_waveAt_260
    refine zpc_ck (zpc_ck (zpc_ck (zpc_bv (fun v6 e6 => zpc_bi (m_pb hr h9 (k := o) (by omega) rfl) (fun s7 v8 e => ?_)))))
    cases e
    have e6 : v6 = zQ210 m := e6.trans q210
    subst e6
    unfold zSf zAm at sf ⊢
    rw [← ed] at sf ⊢
    by_cases y : (zPB r c o &&& 128) = 0
    · rw [if_pos y] at sf
      rw [if_pos y, if_pos y]
      exact m_263 hr h9 ho hp hA sf
    · rw [if_neg y] at sf
      rw [if_neg y, if_neg y]
      by_cases x : 105 ≤ zQ210 m
      · rw [if_pos x] at sf
        rw [if_pos x, if_pos x]
        exact zpc_ck (m_263 hr h9 ho hp hA sf)
      · rw [if_neg x] at sf
        rw [if_neg x, if_neg x]
        exact zpc_ck (m_263 hr h9 ho hp hA sf)
  have g123 : zpc (fX12_waveAt_123 μ (Int32.ofNat A) (Int32.ofNat c) (Int32.ofNat o) p (zWiw p) (zGs (zGk r c) ((zPB r c (2 + o)) >>> ((6 : Int32) &&& 31)))) (fun z => z = (μ, zWv p (zSf r c o m (μ.1 3 A)) (zHv r c o))) := by
    unfold fX12_waveAt_123
    refine zpc_bi (m_pb hr h9 (k := 2) (by decide) rfl) (fun s9 v10 e => ?_)
    cases e
    refine zpc_bv (fun v11 e11 => zpc_bi (m_wreg hr (j := 48 + c) (by omega) (show 48 + Int32.ofNat c = Int32.ofNat (48 + c) from z_ofA (a := 48))) (fun s12 v13 e => ?_))
    cases e
    subst e11
    refine zpc_bv (fun v14 e14 => ?_)
    subst e14
    have low : (8 * ((zPB r c 2 &&& 63) / 4)) + (2 * (zrem (zPB r c 2 &&& 63) 4)) = 2 * (zPB r c 2 &&& 63) := by rw [ep2]; exact z_low p2
    have g192 : zLd r c o = 2 * (zPB r c 2 &&& 63) → zpc (fX12_waveAt_192 μ (Int32.ofNat A) (Int32.ofNat c) (Int32.ofNat o) p (zWiw p) (zGs (zGk r c) ((zPB r c (2 + o)) >>> ((6 : Int32) &&& 31))) (zPB r c 2 &&& 63)) (fun z => z = (μ, zWv p (zSf r c o m (μ.1 3 A)) (zHv r c o))) := fun el => by
      unfold fX12_waveAt_192
      exact zpc_ck (zpc_ck (g206 _ (low.trans el.symm)))
    by_cases z : o = 0
    · refine zpc_if (fun u => absurd z (o1.mp u)) (fun _ => zpc_bi (m_rhy hr) (fun s15 v16 e => ?_))
      cases e
      by_cases y : zRy r c = 0
      · refine zpc_if (fun _ => g192 ?_) (fun u => absurd y u)
        unfold zLd
        rw [if_pos z, if_pos y]
      · refine zpc_if (fun u => absurd u y) (fun _ => ?_)
        by_cases x : c < 7
        · refine zpc_if (fun _ => g192 ?_) (fun u => absurd (c6.mpr x) u)
          unfold zLd
          rw [if_pos z, if_neg y, if_pos x]
        · refine zpc_if (fun u => absurd (c6.mp u) x) (fun _ => zpc_bi (m_wreg hr (j := 48 + c) (by omega) (show 48 + Int32.ofNat c = Int32.ofNat (48 + c) from z_ofA (a := 48))) (fun s17 v18 e => ?_))
          cases e
          refine g206 _ ?_
          unfold zLd
          rw [if_pos z, if_neg y, if_neg x]
    · refine zpc_if (fun _ => g206 _ ?_) (fun u => absurd (o1.mpr z) u)
      unfold zLd
      rw [if_neg z]
  have g41 : zpc (fX12_waveAt_41 μ (Int32.ofNat A) (Int32.ofNat c) (Int32.ofNat o) p (zWiw p)) (fun z => z = (μ, zWv p (zSf r c o m (μ.1 3 A)) (zHv r c o))) := by
    unfold fX12_waveAt_41 fX12_waveAt_91
    refine zpc_bi (m_pb hr h9 (k := 2 + o) (by omega) (z_ofA (a := 2))) (fun s19 v20 e => ?_)
    cases e
    refine zpc_bv (fun v21 e21 => zpc_bi (m_f hr h9) (fun s22 v23 e => ?_))
    cases e
    subst e21
    refine zpc_ck (zpc_bi m_kept (fun s24 v25 e => ?_))
    cases e
    refine zpc_bi (m_blk hr h9) (fun s26 v27 e => ?_)
    cases e
    refine zpc_bv (fun v28 e28 => ?_)
    have e28 : v28 = zGk r c := e28
    subst e28
    have gs : ∀ v : Int32, v = zGs (zGk r c) ((zPB r c (2 + o)) >>> ((6 : Int32) &&& 31)) → zpc (fX12_waveAt_123 μ (Int32.ofNat A) (Int32.ofNat c) (Int32.ofNat o) p (zWiw p) v) (fun z => z = (μ, zWv p (zSf r c o m (μ.1 3 A)) (zHv r c o))) := fun v ev => by
      rw [ev]
      exact g123
    have us : ∀ g s : Int32, zGs g s = if g < 0 then 0 else if s = 0 then 0 else if s = 1 then g / 4 else if s = 2 then g / 2 else g := fun g s => rfl
    refine zpc_if (fun y1 => gs 0 ?_) (fun y1 => zpc_if (fun y2 => gs 0 ?_) (fun y2 => zpc_if (fun y3 => zpc_ck (gs _ ?_)) (fun y3 => zpc_if (fun y4 => zpc_ck (gs _ ?_)) (fun y4 => gs _ ?_))))
    · rw [us, if_pos y1]
    · rw [us, if_neg y1, if_pos y2]
    · rw [us, if_neg y1, if_neg y2, if_pos y3]
    · rw [us, if_neg y1, if_neg y2, if_neg y3, if_pos y4]
    · rw [us, if_neg y1, if_neg y2, if_neg y3, if_neg y4]
  unfold fX12_waveAt
  rw [z_ofC (by omega), pm]
  refine zpc_ck ?_
  by_cases z : 124 ≤ μ.1 3 A
  · rw [if_pos z]
    have nz : ¬ zgi μ 3 A < 124 := fun u => by
      have a := Int32.le_iff_toInt_le.mp z
      have b := Int32.lt_iff_toInt_lt.mp u
      have b : (μ.1 3 A).toInt < (124 : Int32).toInt := b
      omega
    exact zpc_if (fun u => absurd u nz) (fun _ => zpc_some rfl)
  · rw [if_neg z]
    have nz : zgi μ 3 A < 124 := by
      refine Int32.lt_iff_toInt_lt.mpr ?_
      have a : ¬ (124 : Int32).toInt ≤ (μ.1 3 A).toInt := fun u => z (Int32.le_iff_toInt_le.mpr u)
      show (μ.1 3 A).toInt < (124 : Int32).toInt
      omega
    refine zpc_if (fun _ => ?_) (fun u => absurd nz u)
    have w : zWiw p = if (p &&& 256) = 0 then p &&& 255 else 255 - (p &&& 255) := rfl
    by_cases y : (p &&& 256) = 0
    · rw [if_pos y] at w
      rw [← w]
      exact zpc_if (fun _ => zpc_ck g41) (fun u => absurd y u)
    · rw [if_neg y] at w
      rw [← w]
      exact zpc_if (fun u => absurd u y) (fun _ => zpc_ck g41)
end ZWI
end ZJN15
section ZJN16
/-! WAVES: ONE OPERATOR, ONE CHANNEL, ONE WAVE OF BOTH -/
section ZWJ
variable {σ μ s t : zSt} {r g : Nat → Int32} {c o m h l a k q j A : Nat} {Q : zSt → zSt → Prop}
theorem w_99 (hb : zRb r) (hm : m ≤ 1000000000) (h9 : c < 9) (ho : o < 2) (eq : q = 2 * c + o) (h : zWo r g c m σ μ) : zp2 (fX10_moveOperator_99 σ (Int32.ofNat (128 + 8 * q)) (Int32.ofNat o)) (fX12_operator_190 μ (Int32.ofNat c) (Int32.ofNat o) (Int32.ofNat (172 + 6 * q))) (zWo r g c m) := by
  have hq : q < 18 ∧ 2 * c ≤ q := ⟨by omega, by omega⟩
  have i2 : (Int32.ofNat (172 + 6 * q) + 2).toNatClampNeg = 172 + 6 * q + 2 := z_atk (m := 2) (by omega)
  have i3 : (Int32.ofNat (172 + 6 * q) + 3).toNatClampNeg = 172 + 6 * q + 3 := z_atk (m := 3) (by omega)
  have i4 : (Int32.ofNat (172 + 6 * q) + 4).toNatClampNeg = 172 + 6 * q + 4 := z_atk (m := 4) (by omega)
  have im3 : (Int32.ofNat (172 + 6 * q) - 3).toNatClampNeg = 172 + 6 * q - 3 := by
    rw [show Int32.ofNat (172 + 6 * q) - 3 = Int32.ofNat (172 + 6 * q - 3) from z_ofB (b := 3) (by omega) (by omega)]
    exact z_ofC (by omega)
  obtain ⟨o0, o1⟩ := z_o01 ⟨o, ho⟩
  have o1 : Int32.ofNat o = 1 ↔ ¬ o = 0 := o1
  obtain ⟨_, _, _, c6, _⟩ := z_c78 ⟨c, h9⟩
  have c6 : Int32.ofNat c ≤ 6 ↔ c < 7 := c6
  unfold fX10_moveOperator_99 fX12_operator_190
  refine zp2_bil (c_part h.1.2.1 (k := o) (by omega) rfl) (fun s1 v2 e => ?_)
  cases e
  refine zp2_bul (c_ph (A := 128 + 8 * q) h.1 hb h9 ho h.2.2.2.1 hm (by omega)) (fun s3 e3 => ?_)
  refine zp2_bur (m_ph (A := 172 + 6 * q) h.2.1 hb h9 ho h.2.2.2.2.1 hm (by omega)) (fun t3 f3 => ?_)
  rw [h.at hq (by decide)] at f3
  have h1 : zWo r g c m s3 t3 := by
    rw [e3, f3]
    exact h.w hq (by decide) (zOg_2 zNp_r)
  refine zp2_bul (c_outw h1.1 hb h9 ho eq h1.2.2.2.1 hm) (fun s4 e4 => ?_)
  -- the reference's values by the class's
  have a3 : t3.1 3 (172 + 6 * q + 3) = s3.1 32 (128 + 8 * q + 3) := h1.at hq (by decide)
  have a4 : t3.1 3 (172 + 6 * q + 4) = s3.1 32 (128 + 8 * q + 4) := h1.at hq (by decide)
  have a2 : t3.1 3 (172 + 6 * q + 2) = s3.1 32 (128 + 8 * q + 2) := h1.at hq (by decide)
  have a0 : t3.1 3 (172 + 6 * q) = s3.1 32 (128 + 8 * q) := h1.at (j := 0) hq (by decide)
  have a14 : t3.1 3 258 = s3.1 32 242 := (h1.2.2.1.1 14 2 (by decide) (by decide)).symm
  have a17 : t3.1 3 276 = s3.1 32 266 := (h1.2.2.1.1 17 2 (by decide) (by decide)).symm
  have r14 : zr 0 524287 (s3.1 32 242) := (h1.2.2.1.2 14 (by decide)).2.2.1
  have r17 : zr 0 524287 (s3.1 32 266) := (h1.2.2.1.2 17 (by decide)).2.2.1
  have p9 := (z_ph9 (h1.ph hq)).1
  have p14 := (z_ph9 r14).1
  have p17 := (z_ph9 r17).1
  rw [p9, p14, p17] at e4
  have g319 : ∀ x8 : Int32, x8 = zTp r c o (s3.1 32 (128 + 8 * q + 2) / 512) (zBd r c o (s3.1 32 (128 + 8 * q - 5)) (s3.1 32 (128 + 8 * q + 3)) (s3.1 32 (128 + 8 * q + 4))) (zDx (s3.1 32 242 / 512) (s3.1 32 266 / 512)) (zDy (s3.1 32 65)) → zp2 (some s4) (fX12_operator_319 t3 (Int32.ofNat c) (Int32.ofNat o) (Int32.ofNat (172 + 6 * q)) (s3.1 32 (128 + 8 * q + 3)) x8) (zWo r g c m) := fun x8 ex => by
    unfold fX12_operator_319
    rw [i3, i4]
    refine zp2_ckr (zp2_bvr (fun t5 f5 => ?_))
    have k3 : ∀ j : Nat, ¬ j = 172 + 6 * q + 4 → t5.1 3 j = t3.1 3 j := fun j hj => by rw [f5, zsi_nj hj]
    have hr5 : zRm r t5 := fun j hj => by rw [k3 _ (by omega)]; exact h1.2.1 j hj
    have hL5 : (t5.2 4 4).toInt = (m : Int) := by rw [f5]; exact h1.2.2.2.2.1
    have l5 : t5.1 3 (172 + 6 * q) = s3.1 32 (128 + 8 * q) := by rw [k3 _ (by omega)]; exact a0
    refine zp2_bir (m_wavq (A := 172 + 6 * q) hr5 hb h9 ho hL5 hm (by omega) (by rw [l5]; exact h1.lv hq) (p := x8 &&& 1023) (zr_andr (lo := 0) (hi := 1023) (zr_c (lo := 1023) (hi := 1023) (by decide)) (by decide))) (fun t6 v3 e => ?_)
    cases e
    refine zp2_ckr (zp2_bvr (fun t7 f7 => zp2_some ?_))
    rw [f7, l5, f5, e4, ex]
    exact (h1.w (j := 4) hq (by decide) (zOg_o (by decide))).w (j := 3) hq (by decide) (zOg_3 zOut_r)
  have g266 : ∀ d : Int32, d = zBd r c o (s3.1 32 (128 + 8 * q - 5)) (s3.1 32 (128 + 8 * q + 3)) (s3.1 32 (128 + 8 * q + 4)) → zp2 (some s4) (fX12_operator_266 t3 (Int32.ofNat c) (Int32.ofNat o) (Int32.ofNat (172 + 6 * q)) (s3.1 32 (128 + 8 * q + 3)) d) (zWo r g c m) := fun d ed => by
    unfold fX12_operator_266
    rw [i2, show zgi t3 3 (172 + 6 * q + 2) = s3.1 32 (128 + 8 * q + 2) from a2]
    refine zp2_ckr (zp2_ckr (zp2_bvr (fun v5 f5 => zp2_bir (m_rhy h1.2.1) (fun t6 v7 e => ?_))))
    cases e
    by_cases z : zRy r c = 0
    · refine zp2_ifr (fun _ => g319 _ ?_) (fun u => absurd z u)
      unfold zTp
      rw [if_pos z, f5, ed]
    · refine zp2_ifr (fun u => absurd u z) (fun _ => ?_)
      by_cases y : c < 7
      · refine zp2_ifr (fun _ => g319 _ ?_) (fun u => absurd (c6.mpr y) u)
        unfold zTp
        rw [if_neg z, if_pos y, f5, ed]
      · refine zp2_ifr (fun u => absurd (c6.mp u) y) (fun _ => zp2_ckr (zp2_ckr (zp2_bir (m_drum h9 (by omega) ho) (fun t8 v9 e => ?_))))
        cases e
        refine g319 _ ?_
        unfold zTp
        rw [if_neg z, if_neg y, a14, a17, ← h1.2.2.2.2.2.1, show zgi t3 3 (172 + 6 * q + 2) = s3.1 32 (128 + 8 * q + 2) from a2]
  rw [i3, show zgi t3 3 (172 + 6 * q + 3) = s3.1 32 (128 + 8 * q + 3) from a3]
  refine zp2_ckr (zp2_bvr (fun v11 f11 => zp2_bir (m_pb h1.2.1 h9 (k := 3) (by decide) rfl) (fun t12 v13 e => ?_)))
  cases e
  subst f11
  refine zp2_bvr (fun v14 f14 => ?_)
  subst f14
  by_cases z : o = 0
  · refine zp2_ifr (fun u => absurd z (o1.mp u)) (fun _ => ?_)
    by_cases y : (zPB r c 3 &&& 7) = 0
    · refine zp2_ifr (fun _ => g266 0 ?_) (fun u => absurd y u)
      unfold zBd
      rw [if_pos z, if_pos y]
    · refine zp2_ifr (fun u => absurd u y) (fun _ => zp2_ckr (zp2_ckr ?_))
      rw [i4, show zgi t3 3 (172 + 6 * q + 4) = s3.1 32 (128 + 8 * q + 4) from a4]
      refine g266 _ ?_
      unfold zBd
      rw [if_pos z, if_neg y, show zgi t3 3 (172 + 6 * q + 3) = s3.1 32 (128 + 8 * q + 3) from a3]
  · refine zp2_ifr (fun _ => zp2_ckr ?_) (fun u => absurd (o1.mpr z) u)
    rw [im3]
    refine g266 _ ?_
    unfold zBd
    rw [if_neg z]
    have w := (h1.2.2.1.1 (q - 1) 3 (by omega) (by decide)).symm
    rw [show 172 + 6 * (q - 1) + 3 = 172 + 6 * q - 3 by omega, show 128 + 8 * (q - 1) + 3 = 128 + 8 * q - 5 by omega] at w
    exact w
theorem w_op (hb : zRb r) (hm : m ≤ 1000000000) (h9 : c < 9) (ho : o < 2) (eq : q = 2 * c + o) (h : zWo r g c m σ μ) : zp2 (fX10_moveOperator σ (Int32.ofNat (128 + 8 * q)) (Int32.ofNat o)) (fX12_operator μ (Int32.ofNat c) (Int32.ofNat o)) (zWo r g c m) := w_on hb h9 ho eq h (fun s t h1 => w_ls hb hm h9 ho eq h1 (fun s t h2 => w_99 hb hm h9 ho eq h2))
/-! all channels -/
noncomputable def zT9 (r : Nat → Int32) (c : Nat) (u v : Int32) : Int32 := if zRy r c = 0 then v else 2 * (v + (if c < 7 then 0 else u))
noncomputable def zSu (r f : Nat → Int32) : Nat → Int32
  | 0 => 0
  | n + 1 => zSu r f n + zT9 r n (f (128 + 16 * n + 3)) (f (128 + 16 * n + 11))
theorem zSu_cg {f f' : Nat → Int32} : ∀ n : Nat, (∀ j : Nat, 128 ≤ j → j < 128 + 16 * n → f' j = f j) → zSu r f' n = zSu r f n
  | 0, _ => rfl
  | n + 1, h => by
    show zSu r f' n + zT9 r n (f' (128 + 16 * n + 3)) (f' (128 + 16 * n + 11)) = zSu r f n + zT9 r n (f (128 + 16 * n + 3)) (f (128 + 16 * n + 11))
    rw [zSu_cg n (fun j h1 h2 => h j h1 (by omega)), h _ (by omega) (by omega), h _ (by omega) (by omega)]
theorem zT9_r {u v : Int32} (hu : zr (-4084) 4084 u) (hv : zr (-4084) 4084 v) : zr (-16336) 16336 (zT9 r c u v) := by
  have u0 := hu.1
  have u1 := hu.2
  have v0 := hv.1
  have v1 := hv.2
  unfold zT9
  split
  · exact ⟨by omega, by omega⟩
  · have w : zr (-8168) 8168 (v + (if c < 7 then 0 else u)) := by
      split
      · rw [Int32.add_zero]; exact ⟨by omega, by omega⟩
      · exact zr_add (lo := -8168) (hi := 8168) hv hu (by decide)
    have e : (2 * (v + (if c < 7 then 0 else u))).toInt = 2 * (v + (if c < 7 then 0 else u)).toInt := by
      rw [Int32.toInt_mul]
      have := w.1
      have := w.2
      exact z_bm (by rw [show (2 : Int32).toInt = 2 from rfl]; omega) (by rw [show (2 : Int32).toInt = 2 from rfl]; omega)
    have w0 := w.1
    have w1 := w.2
    exact ⟨by rw [e]; omega, by rw [e]; omega⟩
theorem zSu_r {f : Nat → Int32} (hf : ∀ q : Nat, q < 18 → zr (-4084) 4084 (f (128 + 8 * q + 3))) : ∀ n : Nat, n ≤ 9 → zr (-16336 * (n : Int)) (16336 * (n : Int)) (zSu r f n)
  | 0, _ => ⟨by show -16336 * ((0 : Nat) : Int) ≤ (0 : Int32).toInt; decide, by show (0 : Int32).toInt ≤ 16336 * ((0 : Nat) : Int); decide⟩
  | n + 1, h => by
    have ih := zSu_r hf n (by omega)
    have a := hf (2 * n) (by omega)
    have b := hf (2 * n + 1) (by omega)
    rw [show 128 + 8 * (2 * n) + 3 = 128 + 16 * n + 3 by omega] at a
    rw [show 128 + 8 * (2 * n + 1) + 3 = 128 + 16 * n + 11 by omega] at b
    have t := zT9_r (r := r) (c := n) a b
    have i0 := ih.1
    have i1 := ih.2
    have t0 := t.1
    have t1 := t.2
    show zr _ _ (zSu r f n + zT9 r n (f (128 + 16 * n + 3)) (f (128 + 16 * n + 11)))
    have e := z_tadd (x := zSu r f n) (y := zT9 r n (f (128 + 16 * n + 3)) (f (128 + 16 * n + 11))) (a := -147024) (b := 147024) ⟨by omega, by omega⟩ t (by decide)
    exact ⟨by rw [e]; omega, by rw [e]; omega⟩
/-- between two channels -/
noncomputable def zWx (r : Nat → Int32) (m : Nat) (σ μ : zSt) : Prop := zRc4 r σ ∧ (σ.1 5 2 = if (r 14 &&& 32) = 0 then 0 else 1) ∧ zOwn r (σ.2 5 7) ∧ zRm r μ ∧ zFmw σ μ ∧ σ.1 32 66 = Int32.ofNat m ∧ (μ.2 4 4).toInt = (m : Int) ∧ σ.1 32 65 = μ.1 3 164
theorem w_chan (hb : zRb r) (hm : m ≤ 1000000000) (h9 : c < 9) {x1 : Int32} (h : zWx r m σ μ) (ex : x1 = zSu r (σ.1 32) c) {fu : Nat} {kc : zSt → Int32 → Int32 → Option zSt} {km : zSt → Int32 → Option zSt} (K : ∀ s t, zWx r m s t → zp2 (kc s (zSu r (s.1 32) (c + 1)) (Int32.ofNat (c + 1))) (km t (Int32.ofNat (c + 1))) Q) : zp2 (zbu (fX10_takeChannel σ (Int32.ofNat c)) (fun σ6 => zbv (128 + (16 * Int32.ofNat c)) (fun v7 => zbu (fX10_moveOperator σ6 v7 0) (fun σ8 => zbu (fX10_moveOperator σ8 (v7 + 8) 1) (fun σ9 => if (zgi σ9 5 2) = 0 then fX10_makeNext_100 kc σ9 x1 (Int32.ofNat c) v7 else if Int32.ofNat c < 7 then fX10_makeNext_100 kc σ9 x1 (Int32.ofNat c) v7 else zck (zin (v7 + 3) 272) (fX10_makeNext_101 kc σ9 x1 (Int32.ofNat c) v7 (zgi σ9 32 (v7 + 3).toNatClampNeg))))))) (fX12_waves_20 km fu μ (Int32.ofNat c) 0) Q := by
  obtain ⟨h1, h2, h3, h4, h5, h6, h7, h8⟩ := h
  have e7 : ∀ c : Fin 9, 128 + (16 * Int32.ofNat c.val) = Int32.ofNat (128 + 8 * (2 * c.val + 0)) ∧ (128 + (16 * Int32.ofNat c.val)) + 8 = Int32.ofNat (128 + 8 * (2 * c.val + 1)) := by decide
  obtain ⟨e7, e8⟩ := e7 ⟨c, h9⟩
  have e7 : 128 + (16 * Int32.ofNat c) = Int32.ofNat (128 + 8 * (2 * c + 0)) := e7
  have e8 : (128 + (16 * Int32.ofNat c)) + 8 = Int32.ofNat (128 + 8 * (2 * c + 1)) := e8
  obtain ⟨_, _, c7, c6, c5⟩ := z_c78 ⟨c, h9⟩
  have c7 : Int32.ofNat c < 7 ↔ c < 7 := c7
  have c5 : Int32.ofNat c ≤ 5 ↔ c < 6 := c5
  have cl6 : ∀ c : Fin 9, Int32.ofNat c.val < 6 ↔ c.val < 6 := by decide
  have cl6 : Int32.ofNat c < 6 ↔ c < 6 := cl6 ⟨c, h9⟩
  refine zp2_bul (c_chan h1 hb h9 h3 h2) (fun s6 q6 => ?_)
  obtain ⟨q6, q7⟩ := q6
  refine zp2_bvl (fun v7 f7 => ?_)
  subst f7
  rw [e8, e7]
  have w0 : zWo r (σ.1 32) c m s6 μ := by
    have e32 : s6.1 32 = σ.1 32 := q6.ro (k := 32) rfl
    refine ⟨⟨fun j hj => by rw [e32]; exact h1 j hj, q7, ?_⟩, h4, ⟨fun q j hq hj => by rw [e32]; exact h5.1 q j hq hj, fun q hq => by rw [e32]; exact h5.2 q hq⟩, by rw [e32]; exact h6, h7, by rw [e32]; exact h8, fun j _ _ => by rw [e32], ?_⟩
    · rw [q6.o (k := 5) (a := 2) (b := 2) rfl (by decide) (by decide)]; exact h2
    · rw [q6.lo (k := 5) (a := 7) (b := 7) rfl (by decide) (by decide)]; exact h3
  cases fu with
  | zero => exact zp2_nr
  | succ fu =>
    show zp2 _ (fX12_waves_20_body km (fX12_waves_20 km fu) μ (Int32.ofNat c) 0) Q
    unfold fX12_waves_20_body
    refine zp2_ifr (fun u => absurd u (by decide)) (fun _ => ?_)
    refine zp2_buu (w_op (q := 2 * c + 0) (o := 0) hb hm h9 (by decide) rfl w0) (fun s8 t8 w1 => zp2_bvr (fun v3 f3 => ?_))
    rw [f3, show (0 : Int32) + 1 = 1 from rfl]
    cases fu with
    | zero => exact zp2_nr
    | succ fu =>
      show zp2 _ (fX12_waves_20_body km (fX12_waves_20 km fu) t8 (Int32.ofNat c) 1) Q
      unfold fX12_waves_20_body
      refine zp2_ifr (fun u => absurd u (by decide)) (fun _ => ?_)
      refine zp2_buu (w_op (q := 2 * c + 1) (o := 1) hb hm h9 (by decide) rfl w1) (fun s9 t9 w2 => zp2_bvr (fun v3 f3 => ?_))
      rw [f3, show (1 : Int32) + 1 = 2 from rfl]
      cases fu with
      | zero => exact zp2_nr
      | succ fu =>
        show zp2 _ (fX12_waves_20_body km (fX12_waves_20 km fu) t9 (Int32.ofNat c) 2) Q
        unfold fX12_waves_20_body
        refine zp2_ifr (fun _ => zp2_bvr (fun v1 f1 => ?_)) (fun u => absurd (by decide) u)
        rw [f1, z_ofS (by omega)]
        obtain ⟨⟨g1, g2, g3⟩, g4, g5, g6, g7, g8, g9, g10⟩ := w2
        have wx : zWx r m s9 t9 := ⟨g1, g3, g10, g4, g5, g6, g7, g8⟩
        have su : zSu r (s9.1 32) c = x1 := by rw [ex]; exact zSu_cg c g9
        have j3 : (Int32.ofNat (128 + 8 * (2 * c + 0)) + 3).toNatClampNeg = 128 + 16 * c + 3 := (z_atk (m := 3) (by omega)).trans (by omega)
        have j11 : ((Int32.ofNat (128 + 8 * (2 * c + 0)) + 8) + 3).toNatClampNeg = 128 + 16 * c + 11 := by
          rw [show Int32.ofNat (128 + 8 * (2 * c + 0)) + 8 = Int32.ofNat (128 + 8 * (2 * c + 0) + 8) from z_ofA (c := 8)]
          exact (z_atk (m := 3) (by omega)).trans (by omega)
        have nx : ∀ k : Int32, k = zT9 r c (s9.1 32 (128 + 16 * c + 3)) (s9.1 32 (128 + 16 * c + 11)) → x1 + k = zSu r (s9.1 32) (c + 1) := fun k ek => by
          rw [ek, ← su]
          rfl
        have g136 : ∀ (w k : Int32), w * k = zT9 r c (s9.1 32 (128 + 16 * c + 3)) (s9.1 32 (128 + 16 * c + 11)) → zp2 (fX10_makeNext_136 kc s9 (Int32.ofNat c) k w x1) (km t9 (Int32.ofNat (c + 1))) Q := fun w k e => by
          unfold fX10_makeNext_136
          refine zp2_bvl (fun v1 f1 => zp2_bvl (fun v2 f2 => ?_))
          rw [f1, f2, z_ofS (by omega), nx _ e]
          exact K s9 t9 wx
        have g52 : zgi s9 5 2 = if (r 14 &&& 32) = 0 then 0 else 1 := g3
        have g101 : ∀ u : Int32, u = (if (r 14 &&& 32) = 0 then 0 else if c < 7 then 0 else s9.1 32 (128 + 16 * c + 3)) → zp2 (fX10_makeNext_101 kc s9 x1 (Int32.ofNat c) (Int32.ofNat (128 + 8 * (2 * c + 0))) u) (km t9 (Int32.ofNat (c + 1))) Q := fun u eu => by
          unfold fX10_makeNext_101 fX10_makeNext_135
          rw [j11, g52, show zgi s9 32 (128 + 16 * c + 11) = s9.1 32 (128 + 16 * c + 11) from rfl]
          refine zp2_ckl ?_
          have one : zRy r c = 0 → u = 0 → (u + s9.1 32 (128 + 16 * c + 11)) * 1 = zT9 r c (s9.1 32 (128 + 16 * c + 3)) (s9.1 32 (128 + 16 * c + 11)) := fun z y => by
            unfold zT9
            rw [if_pos z, y, Int32.zero_add, Int32.mul_one]
          by_cases z : (r 14 &&& 32) = 0
          · rw [if_pos z] at eu ⊢
            have y : zRy r c = 0 := zRy_0 z
            exact zp2_ifl (fun _ => g136 _ _ (one y eu)) (fun w => absurd rfl w)
          · rw [if_neg z] at eu ⊢
            refine zp2_ifl (fun w => absurd w (by decide)) (fun _ => ?_)
            by_cases x : c < 6
            · have y : zRy r c = 0 := by
                unfold zRy
                rw [if_pos (c5.mpr x)]
              rw [if_pos (by omega)] at eu
              exact zp2_ifl (fun _ => g136 _ _ (one y eu)) (fun w => absurd (cl6.mpr x) w)
            · have y : ¬ zRy r c = 0 := by
                unfold zRy
                rw [if_neg (fun w => x (c5.mp w)), if_neg z]
                decide
              refine zp2_ifl (fun w => absurd (cl6.mp w) x) (fun _ => g136 _ _ ?_)
              unfold zT9
              rw [if_neg y, Int32.mul_comm]
              by_cases x7 : c < 7
              · rw [if_pos x7] at eu ⊢
                rw [eu, Int32.zero_add, Int32.add_zero]
              · rw [if_neg x7] at eu ⊢
                rw [eu, Int32.add_comm]
        rw [g52]
        by_cases z : (r 14 &&& 32) = 0
        · rw [if_pos z]
          refine zp2_ifl (fun _ => ?_) (fun w => absurd rfl w)
          unfold fX10_makeNext_100
          exact g101 0 (by rw [if_pos z])
        · rw [if_neg z]
          refine zp2_ifl (fun w => absurd w (by decide)) (fun _ => ?_)
          by_cases x : c < 7
          · refine zp2_ifl (fun _ => ?_) (fun w => absurd (c7.mpr x) w)
            unfold fX10_makeNext_100
            exact g101 0 (by rw [if_neg z, if_pos x])
          · refine zp2_ifl (fun w => absurd (c7.mp w) x) (fun _ => zp2_ckl ?_)
            rw [j3]
            exact g101 _ (by rw [if_neg z, if_neg x]; rfl)
end ZWJ
end ZJN16
section ZJN17
/-! WAVES: ONE WAVE OF BOTH -/
section ZWK
variable {σ μ s t : zSt} {r g : Nat → Int32} {c o m h l a k q j A : Nat} {Q : zSt → zSt → Prop}
/-- the waves of both -/
noncomputable def zWvq (m : Nat) (σ μ : zSt) : Prop := zFmw σ μ ∧ σ.1 32 65 = μ.1 3 164 ∧ σ.1 32 67 = μ.1 3 165 ∧ σ.1 32 66 = Int32.ofNat m ∧ (μ.2 4 4).toInt = (m : Int) ∧ zr (-147024) 147024 (σ.1 32 67)
/-- the reference's sum -/
theorem m_82 {f : Nat → Int32} (hr : zRm r t) (hf : ∀ q j : Nat, q < 18 → j < 6 → t.1 3 (172 + 6 * q + j) = f (128 + 8 * q + j)) : ∀ (n c : Nat), c ≤ 9 → zpc (fX12_waves_82 n t (zSu r f c) (Int32.ofNat c)) (fun t' => t' = zsi t 3 165 (zSu r f 9)) := by
  intro n
  induction n with
  | zero => intro c _; exact zpc_none
  | succ n ih =>
    intro c hc
    show zpc (fX12_waves_82_body (fX12_waves_82 n) t (zSu r f c) (Int32.ofNat c)) _
    unfold fX12_waves_82_body fX12_waves_153 fX12_waves_157
    refine zpc_if (fun z => ?_) (fun z => ?_)
    · have z1 := (z_ofL (k := 9) (i := c) (by omega) rfl).mp z
      obtain rfl : c = 9 := by omega
      refine zpc_ck (zpc_bv (fun s e => zpc_some ?_))
      rw [e]
      rfl
    · have h9 : c < 9 := by
        have : ¬ 9 ≤ c := fun y => z ((z_ofL (c := 9) (k := 9) (i := c) (by omega) rfl).mpr y)
        omega
      have e7 : ∀ c : Fin 9, 172 + (12 * Int32.ofNat c.val) = Int32.ofNat (172 + 12 * c.val) := by decide
      have e7 : 172 + (12 * Int32.ofNat c) = Int32.ofNat (172 + 12 * c) := e7 ⟨c, h9⟩
      have j9 : (Int32.ofNat (172 + 12 * c) + 9).toNatClampNeg = 172 + 12 * c + 9 := z_atk (m := 9) (by omega)
      have j3 : (Int32.ofNat (172 + 12 * c) + 3).toNatClampNeg = 172 + 12 * c + 3 := z_atk (m := 3) (by omega)
      have g9 : zgi t 3 (172 + 12 * c + 9) = f (128 + 16 * c + 11) := by
        have w := hf (2 * c + 1) 3 (by omega) (by decide)
        rw [show 172 + 6 * (2 * c + 1) + 3 = 172 + 12 * c + 9 by omega, show 128 + 8 * (2 * c + 1) + 3 = 128 + 16 * c + 11 by omega] at w
        exact w
      have g3 : zgi t 3 (172 + 12 * c + 3) = f (128 + 16 * c + 3) := by
        have w := hf (2 * c) 3 (by omega) (by decide)
        rw [show 172 + 6 * (2 * c) + 3 = 172 + 12 * c + 3 by omega, show 128 + 8 * (2 * c) + 3 = 128 + 16 * c + 3 by omega] at w
        exact w
      obtain ⟨_, _, _, c6, _⟩ := z_c78 ⟨c, h9⟩
      have c6 : Int32.ofNat c ≤ 6 ↔ c < 7 := c6
      refine zpc_bv (fun v7 f7 => ?_)
      subst f7
      rw [e7, z_ofS (by omega)]
      refine zpc_bi (m_rhy hr) (fun s8 v9 e => ?_)
      cases e
      rw [j9, j3, g9, g3]
      have nx : ∀ v : Int32, v = zSu r f (c + 1) → zpc (fX12_waves_82 n t v (Int32.ofNat (c + 1))) (fun t' => t' = zsi t 3 165 (zSu r f 9)) := fun v e => by
        rw [e]
        exact ih (c + 1) (by omega)
      have su : zSu r f (c + 1) = zSu r f c + zT9 r c (f (128 + 16 * c + 3)) (f (128 + 16 * c + 11)) := rfl
      by_cases y : zRy r c = 0
      · refine zpc_if (fun _ => zpc_ck (zpc_bv (fun v10 e10 => zpc_bv (fun v4 e4 => ?_)))) (fun u => absurd y u)
        rw [e4]
        refine nx _ ?_
        rw [e10, su]
        unfold zT9
        rw [if_pos y]
      · refine zpc_if (fun u => absurd u y) (fun _ => zpc_ck ?_)
        by_cases x : c < 7
        · refine zpc_if (fun _ => zpc_bv (fun v5 e5 => zpc_bv (fun v4 e4 => ?_))) (fun u => absurd (c6.mpr x) u)
          rw [e4]
          refine nx _ ?_
          rw [e5, su]
          unfold zT9
          rw [if_neg y, if_pos x]
        · refine zpc_if (fun u => absurd (c6.mp u) x) (fun _ => zpc_ck (zpc_bv (fun v5 e5 => zpc_bv (fun v4 e4 => ?_))))
          rw [e4]
          refine nx _ ?_
          rw [e5, su]
          unfold zT9
          rw [if_neg y, if_neg x]
theorem w_41 (hb : zRb r) (hm : m ≤ 1000000000) : ∀ (n n' c : Nat) (σ μ : zSt), c ≤ 9 → zWx r m σ μ → zp2 (fX10_makeNext_41 n σ (zSu r (σ.1 32) c) (Int32.ofNat c)) (fX12_waves_12 n' μ (Int32.ofNat c)) (zWvq m) := by
  intro n
  induction n with
  | zero => intro n' c σ μ _ _; exact zp2_nl
  | succ n ih =>
    intro n' c σ μ hc h
    cases n' with
    | zero => exact zp2_nr
    | succ n' =>
      show zp2 (fX10_makeNext_41_body (fX10_makeNext_41 n) σ (zSu r (σ.1 32) c) (Int32.ofNat c)) (fX12_waves_12_body (fX12_waves_12 n') μ (Int32.ofNat c)) _
      unfold fX10_makeNext_41_body fX12_waves_12_body
      refine zp2_if (fun z => ?_) (fun z => ?_)
      · have z1 := (z_ofL (k := 9) (i := c) (by omega) rfl).mp z
        obtain rfl : c = 9 := by omega
        obtain ⟨h1, h2, h3, h4, h5, h6, h7, h8⟩ := h
        have fin : ∀ d : Int32, zp2 (fX10_makeNext_174 σ (zSu r (σ.1 32) 9) d 65) (fX12_waves_75 μ d 164) (zWvq m) := fun d => by
          unfold fX10_makeNext_174 fX12_waves_75
          refine zp2_ckl (zp2_bvl (fun s1 e1 => zp2_ckl (zp2_bvl (fun s2 e2 => zp2_ckr (zp2_bvr (fun t1 f1 => ?_))))))
          have e1 : s1 = zsi σ 32 65 (d >>> ((1 : Int32) &&& 31)) := e1
          have e2 : s2 = zsi s1 32 67 (zSu r (σ.1 32) 9) := e2
          have f1 : t1 = zsi μ 3 164 (d >>> ((1 : Int32) &&& 31)) := f1
          have k1 : ∀ j : Nat, ¬ j = 164 → t1.1 3 j = μ.1 3 j := fun j hj => by rw [f1, zsi_nj hj]
          have k2 : ∀ j : Nat, ¬ j = 65 → ¬ j = 67 → s2.1 32 j = σ.1 32 j := fun j ha hb => by rw [e2, zsi_nj hb, e1, zsi_nj ha]
          have l := m_82 (t := t1) (f := σ.1 32) (r := r) (fun j hj => by rw [k1 _ (by omega)]; exact h4 j hj) (fun q j hq hj => by rw [k1 _ (by omega)]; exact (h5.1 q j hq hj).symm) zfuel 0 (by decide)
          refine fun a b ea eb => ?_
          have la := l b eb
          cases ea
          rw [la]
          have k3 : ∀ j : Nat, ¬ j = 164 → ¬ j = 165 → (zsi t1 3 165 (zSu r (σ.1 32) 9)).1 3 j = μ.1 3 j := fun j ha hb => by rw [zsi_nj hb, k1 j ha]
          refine ⟨⟨fun q j hq hj => ?_, fun q hq => ?_⟩, ?_, ?_, ?_, ?_, ?_⟩
          · rw [k2 _ (by omega) (by omega), k3 _ (by omega) (by omega)]; exact h5.1 q j hq hj
          · rw [k2 _ (by omega) (by omega), k2 _ (by omega) (by omega), k2 _ (by omega) (by omega), k2 _ (by omega) (by omega)]; exact h5.2 q hq
          · rw [e2, zsi_nj (by decide), e1, zsi_ej, zsi_nj (by decide), f1, zsi_ej]
          · rw [e2, zsi_ej, zsi_ej]
          · rw [k2 _ (by decide) (by decide)]; exact h6
          · show ((zsi t1 3 165 (zSu r (σ.1 32) 9)).2 4 4).toInt = _
            rw [f1]
            exact h7
          · rw [e2, zsi_ej]
            exact zSu_r (r := r) (f := σ.1 32) (fun q hq => (h5.2 q hq).2.2.2) 9 (by decide)
        have e65 : zgi σ 32 (65 : Int32).toNatClampNeg = μ.1 3 164 := h8
        rw [e65, show zgi μ 3 (164 : Int32).toNatClampNeg = μ.1 3 164 from rfl]
        refine zp2_ckl (zp2_bvl (fun v5 e5 => zp2_ckr (zp2_bvr (fun v12 e12 => ?_))))
        subst e5
        subst e12
        exact zp2_if (fun _ => fin _) (fun _ => fin _)
      · have h9 : c < 9 := by
          have : ¬ 9 ≤ c := fun y => z ((z_ofL (c := 9) (k := 9) (i := c) (by omega) rfl).mpr y)
          omega
        exact w_chan hb hm h9 h rfl (fun s t h1 => ih n' (c + 1) s t (by omega) h1)
/-- one wave of both -/
theorem w_wave1 (hv : zVe σ μ) (h : zWvq m σ μ) (hm : m + 1 ≤ 1000000000) : zp2 (fX10_makeNext σ ) (fX12_waves μ ) (zWvq (m + 1)) := by
  obtain ⟨h1, h2, h3, h4, h5, _⟩ := h
  have hE : zE σ μ := hv.1
  have hG : zG σ := hv.2.1
  have gt : ∀ n : Fin 64, zGf 32 n.val zGt = some (0, 255) := by decide +kernel
  have hb : zRb (σ.1 32) := fun j hj => hG.at (gt ⟨j, hj⟩)
  have eq : ∀ j : Nat, j < 64 → μ.1 3 (98 + j) = σ.1 32 j := fun j hj => by
    have w := hE.at (z_pn32_0 (d := j) hj)
    rw [z_an1, Nat.zero_add] at w
    exact w
  unfold fX10_makeNext fX12_waves fX10_makeNext_30
  rw [show zgi σ 32 (66 : Int32).toNatClampNeg = Int32.ofNat m from h4]
  refine zp2_ckl (zp2_ckl (zp2_bvl (fun s12 e12 => zp2_ckl (zp2_ckr (zp2_ckr (zp2_bvr (fun t13 f13 => ?_)))))))
  have e12 : s12 = zsi σ 32 66 (Int32.ofNat (m + 1)) := by
    rw [e12]
    show zsi σ 32 66 (Int32.ofNat m + Int32.ofNat 1) = _
    rw [z_ofA]
  have f13 : t13 = zsl μ 4 4 (μ.2 4 4 + 1) := f13
  have k12 : ∀ j : Nat, ¬ j = 66 → s12.1 32 j = σ.1 32 j := fun j hj => by rw [e12, zsi_nj hj]
  have L : (t13.2 4 4).toInt = ((m + 1 : Nat) : Int) := by
    rw [f13, zsl_ej, z_l1 (x := μ.2 4 4) (b := 2000000000) (by omega) (by omega) (by decide), h5]
    omega
  have go : ∀ v : Int32, v = (if (σ.1 32 14 &&& 32) = 0 then 0 else 1) → zp2 (zck (zbo v) (zbv (zsi s12 5 2 v) (fun σ10 => zbu (fX10_takeOwnPatch σ10 ) (fun σ11 => fX10_makeNext_41 zfuel σ11 0 0)))) (fX12_waves_12 zfuel t13 0) (zWvq (m + 1)) := fun v ev => by
    refine zp2_ckl (zp2_bvl (fun s10 e10 => ?_))
    have k10 : ∀ j : Nat, ¬ j = 66 → s10.1 32 j = σ.1 32 j := fun j hj => by rw [e10, zsi_ne (by decide)]; exact k12 j hj
    refine zp2_bul (c_own (r := σ.1 32) (fun j hj => k10 j (by omega)) hb) (fun s11 q11 => ?_)
    obtain ⟨q11, q12⟩ := q11
    have r11 : s11.1 = s10.1 := funext fun k => q11.ro (k := k) rfl
    refine w_41 (r := σ.1 32) (m := m + 1) hb hm zfuel zfuel 0 s11 t13 (by decide) ⟨fun j hj => ?_, ?_, q12, fun j hj => ?_, ⟨fun q j hq hj => ?_, fun q hq => ?_⟩, ?_, L, ?_⟩
    · rw [r11]; exact k10 j (by omega)
    · rw [r11, e10, zsi_ej]; exact ev
    · rw [f13]; exact eq j hj
    · rw [r11, k10 _ (by omega), f13]; exact h1.1 q j hq hj
    · rw [r11, k10 _ (by omega), k10 _ (by omega), k10 _ (by omega), k10 _ (by omega)]; exact h1.2 q hq
    · rw [r11, e10, zsi_ne (by decide), e12, zsi_ej]
    · rw [r11, k10 _ (by decide), f13]; exact h2
  have e14 : zgi s12 32 (14 : Int32).toNatClampNeg = σ.1 32 14 := k12 14 (by decide)
  rw [e14]
  by_cases z : (σ.1 32 14 &&& 32) = 0
  · exact zp2_ifl (fun _ => go 0 (by rw [if_pos z])) (fun y => absurd z y)
  · exact zp2_ifl (fun y => absurd y z) (fun _ => go 1 (by rw [if_neg z]))
end ZWK
end ZJN17
section ZJN18
theorem fj_fX7_moveTone_57 {σ0 : zSt} {σ : zSt} {x1 : Int32} {x2 : Int32} (h : (zQ [] [(30, 3, 8), (30, 14, 16), (11, 2, 3)] [46] [(38, 3, 6)]) σ0 σ) (qx1 : zr 0 2 x1) : zpc (fX7_moveTone_57 σ x1 x2) (fun r => (zQ [] [(30, 3, 8), (30, 14, 16), (11, 2, 3)] [46] [(38, 3, 6)]) σ0 (r)) := by
  unfold fX7_moveTone_57
  exact zpc_ck (zpc_bs (zQ.wr (a := 3) (b := 8) (lo := 3) (hi := 5) h (zr_add (lo := 3) (hi := 5) (zr_c (x := 3) (lo := 3) (hi := 3) (by decide)) qx1 (by decide)) rfl (by decide)) (fun σ1 hσ1 => zpc_some hσ1))
theorem fj_fX7_moveTone_56 {σ0 : zSt} {σ : zSt} {x1 : Int32} {x2 : Int32} {s0 : Int32} {s1 : Int32} (h : (zQ [] [(30, 3, 8), (30, 14, 16), (11, 2, 3)] [46] [(38, 3, 6)]) σ0 σ) (qx1 : zr 0 2 x1) (qs1 : zr 6 8 s1) : zpc (fX7_moveTone_56 σ x1 x2 s0 s1) (fun r => (zQ [] [(30, 3, 8), (30, 14, 16), (11, 2, 3)] [46] [(38, 3, 6)]) σ0 (r)) := by
  unfold fX7_moveTone_56
  exact zpc_ck (zpc_bs (zQ.wr (a := 3) (b := 8) (lo := 6) (hi := 8) h qs1 rfl (by decide)) (fun σ2 hσ2 => fj_fX7_moveTone_57 hσ2 qx1))
theorem fj_fX7_moveTone {σ0 : zSt} {σ : zSt} {x1 : Int32} (h : (zQ [] [(30, 3, 8), (30, 14, 16), (11, 2, 3)] [46] [(38, 3, 6)]) σ0 σ) (qx1 : zr 0 2 x1) : zpc (fX7_moveTone σ x1) (fun r => (zQ [] [(30, 3, 8), (30, 14, 16), (11, 2, 3)] [46] [(38, 3, 6)]) σ0 (r)) := by
  unfold fX7_moveTone
  exact zpc_ck (zpc_bv (fun v3 _ => zpc_if (fun _ => zpc_ck (zpc_bv (fun v4 _ => zpc_if (fun _ => zpc_ck (fj_fX7_moveTone_56 h qx1 (zr_add (lo := 6) (hi := 8) (zr_c (x := 6) (lo := 6) (hi := 6) (by decide)) qx1 (by decide)))) (fun _ => fj_fX7_moveTone_56 h qx1 (zr_add (lo := 6) (hi := 8) (zr_c (x := 6) (lo := 6) (hi := 6) (by decide)) qx1 (by decide)))))) (fun _ => fj_fX7_moveTone_57 h qx1)))
theorem fj_fX7_moveNoise_136 {σ0 : zSt} {σ : zSt} (h : (zQ [] [(30, 3, 8), (30, 14, 16), (11, 2, 3)] [46] [(38, 3, 6)]) σ0 σ) : zpc (fX7_moveNoise_136 σ) (fun r => (zQ [] [(30, 3, 8), (30, 14, 16), (11, 2, 3)] [46] [(38, 3, 6)]) σ0 (r)) := by
  unfold fX7_moveNoise_136
  exact zpc_some h
theorem fj_fX7_moveNoise_120 {σ0 : zSt} {σ : zSt} {x2 : Int32} {s0 : Int32} (h : (zQ [] [(30, 3, 8), (30, 14, 16), (11, 2, 3)] [46] [(38, 3, 6)]) σ0 σ) : zpc (fX7_moveNoise_120 σ x2 s0) (fun r => (zQ [] [(30, 3, 8), (30, 14, 16), (11, 2, 3)] [46] [(38, 3, 6)]) σ0 (r)) := by
  unfold fX7_moveNoise_120
  exact zpc_ck (zpc_bs (zQ.wi h rfl) (fun σ1 hσ1 => fj_fX7_moveNoise_136 hσ1))
theorem fj_fX7_moveNoise_65 {σ0 : zSt} {σ : zSt} {s0 : Int32} {s1 : Int32} (h : (zQ [] [(30, 3, 8), (30, 14, 16), (11, 2, 3)] [46] [(38, 3, 6)]) σ0 σ) (qs1 : zr 14 14 s1) : zpc (fX7_moveNoise_65 σ s0 s1) (fun r => (zQ [] [(30, 3, 8), (30, 14, 16), (11, 2, 3)] [46] [(38, 3, 6)]) σ0 (r)) := by
  unfold fX7_moveNoise_65
  exact zpc_ck (zpc_bs (zQ.wr (a := 14) (b := 16) (lo := 14) (hi := 14) h qs1 rfl (by decide)) (fun σ2 hσ2 => zpc_ck (zpc_ck (zpc_bs (zQ.wi hσ2 rfl) (fun σ3 hσ3 => zpc_ck (zpc_if (fun _ => zpc_ck (zpc_bv (fun v4 _ => zpc_ck (zpc_if (fun _ => fj_fX7_moveNoise_120 hσ3) (fun _ => fj_fX7_moveNoise_120 hσ3))))) (fun _ => fj_fX7_moveNoise_136 hσ3)))))))
theorem fj_fX7_moveNoise {σ0 : zSt} {σ : zSt} (h : (zQ [] [(30, 3, 8), (30, 14, 16), (11, 2, 3)] [46] [(38, 3, 6)]) σ0 σ) : zpc (fX7_moveNoise σ) (fun r => (zQ [] [(30, 3, 8), (30, 14, 16), (11, 2, 3)] [46] [(38, 3, 6)]) σ0 (r)) := by
  unfold fX7_moveNoise
  exact zpc_ck (zpc_ck (zpc_bs (zQ.wi h rfl) (fun σ5 hσ5 => zpc_ck (zpc_if (fun _ => zpc_ck (zpc_bv (fun v6 _ => zpc_if (fun _ => zpc_ck (fj_fX7_moveNoise_65 hσ5 (zr_c (x := 14) (lo := 14) (hi := 14) (by decide)))) (fun _ => fj_fX7_moveNoise_65 hσ5 (zr_c (x := 14) (lo := 14) (hi := 14) (by decide)))))) (fun _ => zpc_some hσ5)))))
theorem fj_fX7_nextSample_87 {σ0 : zSt} {k28 : zSt → Int32 → Int32 → Int32 → Option (zSt × Int32)} (hk28 : ∀ (y0 : zSt) (y1 : Int32) (y2 : Int32) (y3 : Int32), (zQ [] [(30, 3, 8), (30, 14, 16), (11, 2, 3)] [46] [(38, 3, 6)]) σ0 y0 → zpc (k28 y0 y1 y2 y3) (fun r => (zQ [] [(30, 3, 8), (30, 14, 16), (11, 2, 3)] [46] [(38, 3, 6)]) σ0 (r.1))) {σ : zSt} {x1 : Int32} {x2 : Int32} {x3 : Int32} {s0 : Int32} (h : (zQ [] [(30, 3, 8), (30, 14, 16), (11, 2, 3)] [46] [(38, 3, 6)]) σ0 σ) : zpc (fX7_nextSample_87 k28 σ x1 x2 x3 s0) (fun r => (zQ [] [(30, 3, 8), (30, 14, 16), (11, 2, 3)] [46] [(38, 3, 6)]) σ0 (r.1)) := by
  unfold fX7_nextSample_87
  exact zpc_ck (zpc_bv (fun v1 _ => zpc_ck (zpc_bv (fun v2 _ => zpc_bv (fun v3 _ => hk28 _ _ _ _ h)))))
theorem fj_fX7_nextSample_59 {σ0 : zSt} {k28 : zSt → Int32 → Int32 → Int32 → Option (zSt × Int32)} (hk28 : ∀ (y0 : zSt) (y1 : Int32) (y2 : Int32) (y3 : Int32), (zQ [] [(30, 3, 8), (30, 14, 16), (11, 2, 3)] [46] [(38, 3, 6)]) σ0 y0 → zpc (k28 y0 y1 y2 y3) (fun r => (zQ [] [(30, 3, 8), (30, 14, 16), (11, 2, 3)] [46] [(38, 3, 6)]) σ0 (r.1))) {σ : zSt} {x1 : Int32} {x2 : Int32} {x3 : Int32} {s0 : Int32} (h : (zQ [] [(30, 3, 8), (30, 14, 16), (11, 2, 3)] [46] [(38, 3, 6)]) σ0 σ) : zpc (fX7_nextSample_59 k28 σ x1 x2 x3 s0) (fun r => (zQ [] [(30, 3, 8), (30, 14, 16), (11, 2, 3)] [46] [(38, 3, 6)]) σ0 (r.1)) := by
  unfold fX7_nextSample_59
  exact zpc_if (fun _ => zpc_ck (zpc_ck (fj_fX7_nextSample_87 hk28 h))) (fun _ => fj_fX7_nextSample_87 hk28 h)
theorem fj_fX7_nextSample_28_body {σ0 : zSt} {k28 : zSt → Int32 → Int32 → Int32 → Option (zSt × Int32)} (hk28 : ∀ (y0 : zSt) (y1 : Int32) (y2 : Int32) (y3 : Int32), (zQ [] [(30, 3, 8), (30, 14, 16), (11, 2, 3)] [46] [(38, 3, 6)]) σ0 y0 → zpc (k28 y0 y1 y2 y3) (fun r => (zQ [] [(30, 3, 8), (30, 14, 16), (11, 2, 3)] [46] [(38, 3, 6)]) σ0 (r.1))) {σ : zSt} {x1 : Int32} {x2 : Int32} {x3 : Int32} (h : (zQ [] [(30, 3, 8), (30, 14, 16), (11, 2, 3)] [46] [(38, 3, 6)]) σ0 σ) : zpc (fX7_nextSample_28_body k28 σ x1 x2 x3) (fun r => (zQ [] [(30, 3, 8), (30, 14, 16), (11, 2, 3)] [46] [(38, 3, 6)]) σ0 (r.1)) := by
  unfold fX7_nextSample_28_body
  exact zpc_if (fun _ => zpc_some h) (fun _ => zpc_if (fun _ => zpc_ck (fj_fX7_nextSample_59 hk28 h)) (fun _ => zpc_ck (fj_fX7_nextSample_59 hk28 h)))
theorem fj_fX7_nextSample_28 {σ0 : zSt} : ∀ (n : Nat) (y0 : zSt) (y1 : Int32) (y2 : Int32) (y3 : Int32), (zQ [] [(30, 3, 8), (30, 14, 16), (11, 2, 3)] [46] [(38, 3, 6)]) σ0 y0 → zpc (fX7_nextSample_28 n y0 y1 y2 y3) (fun r => (zQ [] [(30, 3, 8), (30, 14, 16), (11, 2, 3)] [46] [(38, 3, 6)]) σ0 (r.1)) := by
  intro n
  induction n with
  | zero => intro y0 y1 y2 y3 h; exact zpc_none
  | succ n ih => intro y0 y1 y2 y3 h; exact fj_fX7_nextSample_28_body ih h
theorem fj_fX7_nextSample_2_body {σ0 : zSt} {k2 : zSt → Int32 → Option (zSt × Int32)} (hk2 : ∀ (y0 : zSt) (y1 : Int32), (zQ [] [(30, 3, 8), (30, 14, 16), (11, 2, 3)] [46] [(38, 3, 6)]) σ0 y0 → zr 0 3 y1 → zpc (k2 y0 y1) (fun r => (zQ [] [(30, 3, 8), (30, 14, 16), (11, 2, 3)] [46] [(38, 3, 6)]) σ0 (r.1))) {σ : zSt} {x1 : Int32} (h : (zQ [] [(30, 3, 8), (30, 14, 16), (11, 2, 3)] [46] [(38, 3, 6)]) σ0 σ) (qx1 : zr 0 3 x1) : zpc (fX7_nextSample_2_body k2 σ x1) (fun r => (zQ [] [(30, 3, 8), (30, 14, 16), (11, 2, 3)] [46] [(38, 3, 6)]) σ0 (r.1)) := by
  unfold fX7_nextSample_2_body
  exact zpc_if (fun g1 => zpc_bu (fj_fX7_moveNoise h) (fun σ4 hσ4 => fj_fX7_nextSample_28 _ _ _ _ _ hσ4)) (fun g1 => zpc_bu (fj_fX7_moveTone h (zr_nge (k := 3) (m := 2) qx1 rfl g1 (by decide))) (fun σ5 hσ5 => zpc_bv (fun v6 ev6 => hk2 _ _ hσ5 (zr_w (show zr 1 3 v6 by rw [ev6]; exact (zr_add (lo := 1) (hi := 3) (zr_nge (k := 3) (m := 2) qx1 rfl g1 (by decide)) (zr_c (x := 1) (lo := 1) (hi := 1) (by decide)) (by decide))) (by decide)))))
theorem fj_fX7_nextSample_2 {σ0 : zSt} : ∀ (n : Nat) (y0 : zSt) (y1 : Int32), (zQ [] [(30, 3, 8), (30, 14, 16), (11, 2, 3)] [46] [(38, 3, 6)]) σ0 y0 → zr 0 3 y1 → zpc (fX7_nextSample_2 n y0 y1) (fun r => (zQ [] [(30, 3, 8), (30, 14, 16), (11, 2, 3)] [46] [(38, 3, 6)]) σ0 (r.1)) := by
  intro n
  induction n with
  | zero => intro y0 y1 h q1; exact zpc_none
  | succ n ih => intro y0 y1 h q1; exact fj_fX7_nextSample_2_body ih h q1
theorem fj_fX7_nextSample {σ0 : zSt} {σ : zSt} (h : (zQ [] [(30, 3, 8), (30, 14, 16), (11, 2, 3)] [46] [(38, 3, 6)]) σ0 σ) : zpc (fX7_nextSample σ) (fun r => (zQ [] [(30, 3, 8), (30, 14, 16), (11, 2, 3)] [46] [(38, 3, 6)]) σ0 (r.1)) := by
  unfold fX7_nextSample
  exact fj_fX7_nextSample_2 _ _ _ h (zr_w (zr_c (x := 0) (lo := 0) (hi := 0) (by decide)) (by decide))
theorem fj_fX6_add_k11_56 {σ0 : zSt} {σ : zSt} (h : (zQ [] [(30, 3, 8), (30, 14, 16), (11, 2, 3)] [46] [(38, 3, 6)]) σ0 σ) : zpc (fX6_add_k11_56 σ) (fun r => (zQ [] [(30, 3, 8), (30, 14, 16), (11, 2, 3)] [46] [(38, 3, 6)]) σ0 (r)) := by
  unfold fX6_add_k11_56
  exact zpc_some h
theorem fj_fX6_add_k11 {σ0 : zSt} {σ : zSt} {x1 : Int64} (h : (zQ [] [(30, 3, 8), (30, 14, 16), (11, 2, 3)] [46] [(38, 3, 6)]) σ0 σ) : zpc (fX6_add_k11 σ x1) (fun r => (zQ [] [(30, 3, 8), (30, 14, 16), (11, 2, 3)] [46] [(38, 3, 6)]) σ0 (r)) := by
  unfold fX6_add_k11
  exact zpc_ck (zpc_bs (zQ.wl h rfl) (fun σ1 hσ1 => zpc_if (fun _ => zpc_bs (zQ.wi hσ1 rfl) (fun σ2 hσ2 => fj_fX6_add_k11_56 hσ2)) (fun _ => zpc_bs (zQ.wi hσ1 rfl) (fun σ3 hσ3 => fj_fX6_add_k11_56 hσ3))))
theorem fj_fX0_addSample {σ0 : zSt} {σ : zSt} (h : (zQ [] [(30, 3, 8), (30, 14, 16), (11, 2, 3)] [46] [(38, 3, 6)]) σ0 σ) : zpc (fX0_addSample σ) (fun r => (zQ [] [(30, 3, 8), (30, 14, 16), (11, 2, 3)] [46] [(38, 3, 6)]) σ0 (r)) := by
  unfold fX0_addSample
  exact zpc_bi (fj_fX7_nextSample h) (fun σ1 v2 hσ1 => zpc_bu (fj_fX6_add_k11 hσ1) (fun σ3 hσ3 => zpc_ck (zpc_ck (zpc_bs (zQ.wl hσ3 rfl) (fun σ4 hσ4 => zpc_ck (zpc_ck (zpc_bs (zQ.wl hσ4 rfl) (fun σ5 hσ5 => zpc_ck (zpc_ck (zpc_bs (zQ.wl hσ5 rfl) (fun σ6 hσ6 => zpc_ck (zpc_ck (zpc_bs (zQ.wl hσ6 rfl) (fun σ7 hσ7 => zpc_some hσ7))))))))))))))
theorem fJ_fX12_loudness {σ0 : zSt} {σ : zSt} {x0 : Int32} (h : (zQ [] [(3, 72, 77), (3, 83, 85), (3, 87, 88), (3, 166, 168)] [10] [(4, 3, 3)]) σ0 σ) : zpc (fX12_loudness σ x0) (fun r => (zQ [] [(3, 72, 77), (3, 83, 85), (3, 87, 88), (3, 166, 168)] [10] [(4, 3, 3)]) σ0 (r.1)) := by
  unfold fX12_loudness
  exact zpc_if (fun _ => zpc_some h) (fun _ => zpc_if (fun _ => zpc_some h) (fun _ => zpc_if (fun _ => zpc_some h) (fun _ => zpc_if (fun _ => zpc_some h) (fun _ => zpc_if (fun _ => zpc_some h) (fun _ => zpc_if (fun _ => zpc_some h) (fun _ => zpc_if (fun _ => zpc_some h) (fun _ => zpc_if (fun _ => zpc_some h) (fun _ => zpc_if (fun _ => zpc_some h) (fun _ => zpc_if (fun _ => zpc_some h) (fun _ => zpc_if (fun _ => zpc_some h) (fun _ => zpc_if (fun _ => zpc_some h) (fun _ => zpc_if (fun _ => zpc_some h) (fun _ => zpc_if (fun _ => zpc_some h) (fun _ => zpc_if (fun _ => zpc_some h) (fun _ => zpc_some h)))))))))))))))
theorem fJ_fX12_sample_102 {σ0 : zSt} {k2 : zSt → Int32 → Option (zSt)} (hk2 : ∀ (y0 : zSt) (y1 : Int32), (zQ [] [(3, 72, 77), (3, 83, 85), (3, 87, 88), (3, 166, 168)] [10] [(4, 3, 3)]) σ0 y0 → zr 0 3 y1 → zpc (k2 y0 y1) (fun r => (zQ [] [(3, 72, 77), (3, 83, 85), (3, 87, 88), (3, 166, 168)] [10] [(4, 3, 3)]) σ0 (r))) {σ : zSt} {x1 : Int32} (h : (zQ [] [(3, 72, 77), (3, 83, 85), (3, 87, 88), (3, 166, 168)] [10] [(4, 3, 3)]) σ0 σ) (qx1 : zr 0 2 x1) : zpc (fX12_sample_102 k2 σ x1) (fun r => (zQ [] [(3, 72, 77), (3, 83, 85), (3, 87, 88), (3, 166, 168)] [10] [(4, 3, 3)]) σ0 (r)) := by
  unfold fX12_sample_102
  exact zpc_bv (fun v1 ev1 => hk2 _ _ h (zr_w (show zr 1 3 v1 by rw [ev1]; exact (zr_add (lo := 1) (hi := 3) qx1 (zr_c (x := 1) (lo := 1) (hi := 1) (by decide)) (by decide))) (by decide)))
theorem fJ_fX12_sample_101 {σ0 : zSt} {k2 : zSt → Int32 → Option (zSt)} (hk2 : ∀ (y0 : zSt) (y1 : Int32), (zQ [] [(3, 72, 77), (3, 83, 85), (3, 87, 88), (3, 166, 168)] [10] [(4, 3, 3)]) σ0 y0 → zr 0 3 y1 → zpc (k2 y0 y1) (fun r => (zQ [] [(3, 72, 77), (3, 83, 85), (3, 87, 88), (3, 166, 168)] [10] [(4, 3, 3)]) σ0 (r))) {σ : zSt} {x1 : Int32} {s0 : Int32} {s1 : Int32} (h : (zQ [] [(3, 72, 77), (3, 83, 85), (3, 87, 88), (3, 166, 168)] [10] [(4, 3, 3)]) σ0 σ) (qx1 : zr 0 2 x1) (qs1 : zr 75 77 s1) : zpc (fX12_sample_101 k2 σ x1 s0 s1) (fun r => (zQ [] [(3, 72, 77), (3, 83, 85), (3, 87, 88), (3, 166, 168)] [10] [(4, 3, 3)]) σ0 (r)) := by
  unfold fX12_sample_101
  exact zpc_ck (zpc_bs (zQ.wr (a := 72) (b := 77) (lo := 75) (hi := 77) h qs1 rfl (by decide)) (fun σ2 hσ2 => fJ_fX12_sample_102 hk2 hσ2 qx1))
theorem fJ_fX12_sample_32 {σ0 : zSt} {k2 : zSt → Int32 → Option (zSt)} (hk2 : ∀ (y0 : zSt) (y1 : Int32), (zQ [] [(3, 72, 77), (3, 83, 85), (3, 87, 88), (3, 166, 168)] [10] [(4, 3, 3)]) σ0 y0 → zr 0 3 y1 → zpc (k2 y0 y1) (fun r => (zQ [] [(3, 72, 77), (3, 83, 85), (3, 87, 88), (3, 166, 168)] [10] [(4, 3, 3)]) σ0 (r))) {σ : zSt} {x1 : Int32} (h : (zQ [] [(3, 72, 77), (3, 83, 85), (3, 87, 88), (3, 166, 168)] [10] [(4, 3, 3)]) σ0 σ) (qx1 : zr 0 2 x1) : zpc (fX12_sample_32 k2 σ x1) (fun r => (zQ [] [(3, 72, 77), (3, 83, 85), (3, 87, 88), (3, 166, 168)] [10] [(4, 3, 3)]) σ0 (r)) := by
  unfold fX12_sample_32
  exact zpc_ck (zpc_if (fun _ => zpc_ck (zpc_ck (zpc_bs (zQ.wr (a := 72) (b := 77) (lo := 72) (hi := 74) h (zr_add (lo := 72) (hi := 74) (zr_c (x := 72) (lo := 72) (hi := 72) (by decide)) qx1 (by decide)) rfl (by decide)) (fun σ3 hσ3 => zpc_ck (zpc_if (fun _ => zpc_ck (fJ_fX12_sample_101 hk2 hσ3 qx1 (zr_add (lo := 75) (hi := 77) (zr_c (x := 75) (lo := 75) (hi := 75) (by decide)) qx1 (by decide)))) (fun _ => fJ_fX12_sample_101 hk2 hσ3 qx1 (zr_add (lo := 75) (hi := 77) (zr_c (x := 75) (lo := 75) (hi := 75) (by decide)) qx1 (by decide)))))))) (fun _ => fJ_fX12_sample_102 hk2 h qx1))
theorem fJ_fX12_sample_407 {σ0 : zSt} {k275 : zSt → Int64 → Int64 → Int32 → Option (zSt)} (hk275 : ∀ (y0 : zSt) (y1 : Int64) (y2 : Int64) (y3 : Int32), (zQ [] [(3, 72, 77), (3, 83, 85), (3, 87, 88), (3, 166, 168)] [10] [(4, 3, 3)]) σ0 y0 → zpc (k275 y0 y1 y2 y3) (fun r => (zQ [] [(3, 72, 77), (3, 83, 85), (3, 87, 88), (3, 166, 168)] [10] [(4, 3, 3)]) σ0 (r))) {σ : zSt} {x1 : Int64} {x3 : Int64} {x5 : Int32} (h : (zQ [] [(3, 72, 77), (3, 83, 85), (3, 87, 88), (3, 166, 168)] [10] [(4, 3, 3)]) σ0 σ) : zpc (fX12_sample_407 k275 σ x1 x3 x5) (fun r => (zQ [] [(3, 72, 77), (3, 83, 85), (3, 87, 88), (3, 166, 168)] [10] [(4, 3, 3)]) σ0 (r)) := by
  unfold fX12_sample_407
  exact zpc_bv (fun v4 _ => hk275 _ _ _ _ h)
theorem fJ_fX12_sample_369 {σ0 : zSt} {k275 : zSt → Int64 → Int64 → Int32 → Option (zSt)} (hk275 : ∀ (y0 : zSt) (y1 : Int64) (y2 : Int64) (y3 : Int32), (zQ [] [(3, 72, 77), (3, 83, 85), (3, 87, 88), (3, 166, 168)] [10] [(4, 3, 3)]) σ0 y0 → zpc (k275 y0 y1 y2 y3) (fun r => (zQ [] [(3, 72, 77), (3, 83, 85), (3, 87, 88), (3, 166, 168)] [10] [(4, 3, 3)]) σ0 (r))) {σ : zSt} {x1 : Int64} {x3 : Int64} {x5 : Int32} {x6 : Int32} (h : (zQ [] [(3, 72, 77), (3, 83, 85), (3, 87, 88), (3, 166, 168)] [10] [(4, 3, 3)]) σ0 σ) : zpc (fX12_sample_369 k275 σ x1 x3 x5 x6) (fun r => (zQ [] [(3, 72, 77), (3, 83, 85), (3, 87, 88), (3, 166, 168)] [10] [(4, 3, 3)]) σ0 (r)) := by
  unfold fX12_sample_369
  exact zpc_if (fun _ => fJ_fX12_sample_407 hk275 h) (fun _ => zpc_ck (zpc_if (fun _ => zpc_ck (zpc_bi (fJ_fX12_loudness h) (fun σ5 v6 hσ5 => zpc_bv (fun v7 _ => fJ_fX12_sample_407 hk275 hσ5)))) (fun _ => fJ_fX12_sample_407 hk275 h)))
theorem fJ_fX12_sample_327 {σ0 : zSt} {k275 : zSt → Int64 → Int64 → Int32 → Option (zSt)} (hk275 : ∀ (y0 : zSt) (y1 : Int64) (y2 : Int64) (y3 : Int32), (zQ [] [(3, 72, 77), (3, 83, 85), (3, 87, 88), (3, 166, 168)] [10] [(4, 3, 3)]) σ0 y0 → zpc (k275 y0 y1 y2 y3) (fun r => (zQ [] [(3, 72, 77), (3, 83, 85), (3, 87, 88), (3, 166, 168)] [10] [(4, 3, 3)]) σ0 (r))) {σ : zSt} {x1 : Int64} {x3 : Int64} {x5 : Int32} {s0 : Int32} (h : (zQ [] [(3, 72, 77), (3, 83, 85), (3, 87, 88), (3, 166, 168)] [10] [(4, 3, 3)]) σ0 σ) : zpc (fX12_sample_327 k275 σ x1 x3 x5 s0) (fun r => (zQ [] [(3, 72, 77), (3, 83, 85), (3, 87, 88), (3, 166, 168)] [10] [(4, 3, 3)]) σ0 (r)) := by
  unfold fX12_sample_327
  exact zpc_if (fun _ => fJ_fX12_sample_369 hk275 h) (fun _ => zpc_ck (zpc_if (fun _ => zpc_ck (zpc_bi (fJ_fX12_loudness h) (fun σ8 v9 hσ8 => zpc_bv (fun v10 _ => fJ_fX12_sample_369 hk275 hσ8)))) (fun _ => fJ_fX12_sample_369 hk275 h)))
theorem fJ_fX12_sample_508 {σ0 : zSt} {σ : zSt} {x1 : Int64} {x3 : Int64} (h : (zQ [] [(3, 72, 77), (3, 83, 85), (3, 87, 88), (3, 166, 168)] [10] [(4, 3, 3)]) σ0 σ) : zpc (fX12_sample_508 σ x1 x3) (fun r => (zQ [] [(3, 72, 77), (3, 83, 85), (3, 87, 88), (3, 166, 168)] [10] [(4, 3, 3)]) σ0 (r)) := by
  unfold fX12_sample_508
  exact zpc_ck (zpc_ck (zpc_ck (zpc_ck (zpc_bs (zQ.wl h rfl) (fun σ11 hσ11 => zpc_some hσ11)))))
theorem fJ_fX12_sample_275_body {σ0 : zSt} {k275 : zSt → Int64 → Int64 → Int32 → Option (zSt)} (hk275 : ∀ (y0 : zSt) (y1 : Int64) (y2 : Int64) (y3 : Int32), (zQ [] [(3, 72, 77), (3, 83, 85), (3, 87, 88), (3, 166, 168)] [10] [(4, 3, 3)]) σ0 y0 → zpc (k275 y0 y1 y2 y3) (fun r => (zQ [] [(3, 72, 77), (3, 83, 85), (3, 87, 88), (3, 166, 168)] [10] [(4, 3, 3)]) σ0 (r))) {σ : zSt} {x1 : Int64} {x3 : Int64} {x5 : Int32} (h : (zQ [] [(3, 72, 77), (3, 83, 85), (3, 87, 88), (3, 166, 168)] [10] [(4, 3, 3)]) σ0 σ) : zpc (fX12_sample_275_body k275 σ x1 x3 x5) (fun r => (zQ [] [(3, 72, 77), (3, 83, 85), (3, 87, 88), (3, 166, 168)] [10] [(4, 3, 3)]) σ0 (r)) := by
  unfold fX12_sample_275_body
  exact zpc_if (fun _ => zpc_ck (zpc_ck (zpc_bs (zQ.wl h rfl) (fun σ12 hσ12 => zpc_ck (zpc_ck (zpc_bs (zQ.wi hσ12 rfl) (fun σ13 hσ13 => zpc_ck (zpc_ck (zpc_bs (zQ.wi hσ13 rfl) (fun σ14 hσ14 => zpc_ck (zpc_ck (zpc_bs (zQ.wi hσ14 rfl) (fun σ15 hσ15 => zpc_ck (zpc_if (fun _ => zpc_ck (zpc_ck (zpc_ck (zpc_bs (zQ.wi hσ15 rfl) (fun σ17 hσ17 => fJ_fX12_sample_508 hσ17))))) (fun _ => zpc_ck (zpc_ck (zpc_bs (zQ.wi hσ15 rfl) (fun σ16 hσ16 => fJ_fX12_sample_508 hσ16)))))))))))))))))) (fun _ => zpc_if (fun _ => zpc_ck (zpc_if (fun _ => fJ_fX12_sample_327 hk275 h) (fun _ => fJ_fX12_sample_327 hk275 h))) (fun _ => zpc_ck (zpc_if (fun _ => fJ_fX12_sample_327 hk275 h) (fun _ => fJ_fX12_sample_327 hk275 h))))
theorem fJ_fX12_sample_275 {σ0 : zSt} : ∀ (n : Nat) (y0 : zSt) (y1 : Int64) (y2 : Int64) (y3 : Int32), (zQ [] [(3, 72, 77), (3, 83, 85), (3, 87, 88), (3, 166, 168)] [10] [(4, 3, 3)]) σ0 y0 → zpc (fX12_sample_275 n y0 y1 y2 y3) (fun r => (zQ [] [(3, 72, 77), (3, 83, 85), (3, 87, 88), (3, 166, 168)] [10] [(4, 3, 3)]) σ0 (r)) := by
  intro n
  induction n with
  | zero => intro y0 y1 y2 y3 h; exact zpc_none
  | succ n ih => intro y0 y1 y2 y3 h; exact fJ_fX12_sample_275_body ih h
theorem fJ_fX12_sample_268 {σ0 : zSt} {σ : zSt} (h : (zQ [] [(3, 72, 77), (3, 83, 85), (3, 87, 88), (3, 166, 168)] [10] [(4, 3, 3)]) σ0 σ) : zpc (fX12_sample_268 σ) (fun r => (zQ [] [(3, 72, 77), (3, 83, 85), (3, 87, 88), (3, 166, 168)] [10] [(4, 3, 3)]) σ0 (r)) := by
  unfold fX12_sample_268
  exact fJ_fX12_sample_275 _ _ _ _ _ h
theorem fJ_fX12_sample_246 {σ0 : zSt} {σ : zSt} {s0 : Int32} (h : (zQ [] [(3, 72, 77), (3, 83, 85), (3, 87, 88), (3, 166, 168)] [10] [(4, 3, 3)]) σ0 σ) : zpc (fX12_sample_246 σ s0) (fun r => (zQ [] [(3, 72, 77), (3, 83, 85), (3, 87, 88), (3, 166, 168)] [10] [(4, 3, 3)]) σ0 (r)) := by
  unfold fX12_sample_246
  exact zpc_ck (zpc_ck (zpc_bs (zQ.wi h rfl) (fun σ18 hσ18 => fJ_fX12_sample_268 hσ18)))
theorem fJ_fX12_sample_174 {σ0 : zSt} {σ : zSt} {s0 : Int32} {s1 : Int32} (h : (zQ [] [(3, 72, 77), (3, 83, 85), (3, 87, 88), (3, 166, 168)] [10] [(4, 3, 3)]) σ0 σ) (qs1 : zr 83 83 s1) : zpc (fX12_sample_174 σ s0 s1) (fun r => (zQ [] [(3, 72, 77), (3, 83, 85), (3, 87, 88), (3, 166, 168)] [10] [(4, 3, 3)]) σ0 (r)) := by
  unfold fX12_sample_174
  exact zpc_ck (zpc_bs (zQ.wr (a := 83) (b := 85) (lo := 83) (hi := 83) h qs1 rfl (by decide)) (fun σ19 hσ19 => zpc_ck (zpc_ck (zpc_bs (zQ.wi hσ19 rfl) (fun σ20 hσ20 => zpc_ck (zpc_if (fun _ => zpc_ck (zpc_if (fun _ => zpc_ck (zpc_ck (fJ_fX12_sample_246 hσ20))) (fun _ => zpc_ck (fJ_fX12_sample_246 hσ20)))) (fun _ => fJ_fX12_sample_268 hσ20)))))))
theorem fJ_fX12_sample_129 {σ0 : zSt} {σ : zSt} (h : (zQ [] [(3, 72, 77), (3, 83, 85), (3, 87, 88), (3, 166, 168)] [10] [(4, 3, 3)]) σ0 σ) : zpc (fX12_sample_129 σ) (fun r => (zQ [] [(3, 72, 77), (3, 83, 85), (3, 87, 88), (3, 166, 168)] [10] [(4, 3, 3)]) σ0 (r)) := by
  unfold fX12_sample_129
  exact zpc_ck (zpc_if (fun _ => zpc_ck (zpc_ck (zpc_bv (fun v21 _ => zpc_if (fun _ => zpc_ck (fJ_fX12_sample_174 h (zr_c (x := 83) (lo := 83) (hi := 83) (by decide)))) (fun _ => fJ_fX12_sample_174 h (zr_c (x := 83) (lo := 83) (hi := 83) (by decide))))))) (fun _ => fJ_fX12_sample_268 h))
theorem fJ_fX12_sample_2_body {σ0 : zSt} {k2 : zSt → Int32 → Option (zSt)} (hk2 : ∀ (y0 : zSt) (y1 : Int32), (zQ [] [(3, 72, 77), (3, 83, 85), (3, 87, 88), (3, 166, 168)] [10] [(4, 3, 3)]) σ0 y0 → zr 0 3 y1 → zpc (k2 y0 y1) (fun r => (zQ [] [(3, 72, 77), (3, 83, 85), (3, 87, 88), (3, 166, 168)] [10] [(4, 3, 3)]) σ0 (r))) {σ : zSt} {x1 : Int32} (h : (zQ [] [(3, 72, 77), (3, 83, 85), (3, 87, 88), (3, 166, 168)] [10] [(4, 3, 3)]) σ0 σ) (qx1 : zr 0 3 x1) : zpc (fX12_sample_2_body k2 σ x1) (fun r => (zQ [] [(3, 72, 77), (3, 83, 85), (3, 87, 88), (3, 166, 168)] [10] [(4, 3, 3)]) σ0 (r)) := by
  unfold fX12_sample_2_body
  exact zpc_if (fun g1 => zpc_ck (zpc_if (fun _ => fJ_fX12_sample_129 h) (fun _ => zpc_ck (zpc_ck (zpc_bs (zQ.wi h rfl) (fun σ22 hσ22 => fJ_fX12_sample_129 hσ22)))))) (fun g1 => zpc_ck (zpc_if (fun _ => fJ_fX12_sample_32 hk2 h (zr_nge (k := 3) (m := 2) qx1 rfl g1 (by decide))) (fun _ => zpc_bv (fun v23 ev23 => zpc_ck (zpc_ck (zpc_bs (zQ.wr (a := 72) (b := 77) (lo := 72) (hi := 74) h (show zr 72 74 v23 by rw [ev23]; exact (zr_add (lo := 72) (hi := 74) (zr_c (x := 72) (lo := 72) (hi := 72) (by decide)) (zr_nge (k := 3) (m := 2) qx1 rfl g1 (by decide)) (by decide))) rfl (by decide)) (fun σ24 hσ24 => fJ_fX12_sample_32 hk2 hσ24 (zr_nge (k := 3) (m := 2) qx1 rfl g1 (by decide)))))))))
theorem fJ_fX12_sample_2 {σ0 : zSt} : ∀ (n : Nat) (y0 : zSt) (y1 : Int32), (zQ [] [(3, 72, 77), (3, 83, 85), (3, 87, 88), (3, 166, 168)] [10] [(4, 3, 3)]) σ0 y0 → zr 0 3 y1 → zpc (fX12_sample_2 n y0 y1) (fun r => (zQ [] [(3, 72, 77), (3, 83, 85), (3, 87, 88), (3, 166, 168)] [10] [(4, 3, 3)]) σ0 (r)) := by
  intro n
  induction n with
  | zero => intro y0 y1 h q1; exact zpc_none
  | succ n ih => intro y0 y1 h q1; exact fJ_fX12_sample_2_body ih h q1
theorem fJ_fX12_sample {σ0 : zSt} {σ : zSt} (h : (zQ [] [(3, 72, 77), (3, 83, 85), (3, 87, 88), (3, 166, 168)] [10] [(4, 3, 3)]) σ0 σ) : zpc (fX12_sample σ) (fun r => (zQ [] [(3, 72, 77), (3, 83, 85), (3, 87, 88), (3, 166, 168)] [10] [(4, 3, 3)]) σ0 (r)) := by
  unfold fX12_sample
  exact fJ_fX12_sample_2 _ _ _ h (zr_w (zr_c (x := 0) (lo := 0) (hi := 0) (by decide)) (by decide))
end ZJN18
section ZJN19
/-! MIXES OF BOTH -/
theorem zpc_ckw {α : Type} {b : Bool} {x : Option α} {Q : α → Prop} (h : b = true → zpc x Q) : zpc (zck b x) Q := by
  cases b with
  | true => exact h rfl
  | false => exact zpc_none
section ZWM
variable {σ μ s t σ' μ' : zSt} {R R' S S' : List Nat} {A A' D D' : List (Nat × Nat × Nat)} {c : Int} {m : Nat} {x2 v10 : Int64} {Q : zSt → zSt → Prop}
theorem zWvq.kp (h : zWvq m σ μ) (a : zQ R A S D σ σ') (b : zQ R' A' S' D' μ μ') (c1 : (zof R A 32 65 67 && zof R A 32 128 271) = true) (c2 : (zof R' A' 3 164 165 && (zof R' A' 3 172 279 && zof S' D' 4 4 4)) = true) : zWvq m σ' μ' := by
  rw [Bool.and_eq_true] at c1
  rw [Bool.and_eq_true, Bool.and_eq_true] at c2
  obtain ⟨a1, a2⟩ := c1
  obtain ⟨b1, b2, b3⟩ := c2
  obtain ⟨⟨h1, h2⟩, h3, h4, h5, h6, h7⟩ := h
  have ea : ∀ j : Nat, 65 ≤ j → j ≤ 67 → σ'.1 32 j = σ.1 32 j := fun j x y => a.o a1 x y
  have eb : ∀ j : Nat, 128 ≤ j → j ≤ 271 → σ'.1 32 j = σ.1 32 j := fun j x y => a.o a2 x y
  have ma : ∀ j : Nat, 164 ≤ j → j ≤ 165 → μ'.1 3 j = μ.1 3 j := fun j x y => b.o b1 x y
  have mb : ∀ j : Nat, 172 ≤ j → j ≤ 279 → μ'.1 3 j = μ.1 3 j := fun j x y => b.o b2 x y
  refine ⟨⟨fun q j hq hj => ?_, fun q hq => ?_⟩, ?_, ?_, ?_, ?_, ?_⟩
  · rw [eb _ (by omega) (by omega), mb _ (by omega) (by omega)]; exact h1 q j hq hj
  · rw [eb _ (by omega) (by omega), eb _ (by omega) (by omega), eb _ (by omega) (by omega), eb _ (by omega) (by omega)]; exact h2 q hq
  · rw [ea 65 (by decide) (by decide), ma 164 (by decide) (by decide)]; exact h3
  · rw [ea 67 (by decide) (by decide), ma 165 (by decide) (by decide)]; exact h4
  · rw [ea 66 (by decide) (by decide)]; exact h5
  · rw [b.lo b3 (j := 4) (by decide) (by decide)]; exact h6
  · rw [ea 67 (by decide) (by decide)]; exact h7
theorem p_mAd12 {Q : zSt → Prop} {v : Int64} {t : zSt} (r2 : zr 0 4095 (t.1 3 170)) (r3 : zr 0 4096 (t.1 3 169)) (k : Q (zAd12 t v)) : zpc (zck (zin 169 1048) (if (zgi t 3 (169 : Int32).toNatClampNeg) = 4096 then zck (zin 170 1048) (zck (decide (¬ 4096 = 0)) (zck (zin 170 1048) (zbv (zsi t 3 ((170 : Int32).toNatClampNeg) (zrem ((zgi t 3 (170 : Int32).toNatClampNeg) + 1) 4096)) (fun σ3 => fX12_mixed_151 σ3 v)))) else zck (zin 169 1048) (zck (zin 169 1048) (zbv (zsi t 3 ((169 : Int32).toNatClampNeg) ((zgi t 3 (169 : Int32).toNatClampNeg) + 1)) (fun σ2 => fX12_mixed_151 σ2 v))))) Q := by
  have a20 := r2.1
  have a21 := r2.2
  have a30 := r3.1
  have a31 := r3.2
  have c4 : (4096 : Int32).toInt = 4096 := rfl
  have c1' : (1 : Int32).toInt = 1 := rfl
  have t2 := z_tadd r2 (zr_c (lo := 1) (hi := 1) (x := 1) (by decide)) (by decide)
  have t3 := z_tadd r3 (zr_c (lo := 1) (hi := 1) (x := 1) (by decide)) (by decide)
  unfold fX12_mixed_151
  rw [show zgi t 3 (169 : Int32).toNatClampNeg = t.1 3 169 from rfl, show zgi t 3 (170 : Int32).toNatClampNeg = t.1 3 170 from rfl]
  refine zpc_ck (zpc_if (fun q => zpc_ck (zpc_ck (zpc_ck (zpc_bv (fun u g => zpc_ck (zpc_ck (zpc_ck (zpc_ck (zpc_bv (fun w gw => zpc_some ?_)))))))))) (fun q => zpc_ck (zpc_ck (zpc_bv (fun u g => zpc_ck (zpc_ck (zpc_ck (zpc_ck (zpc_bv (fun w gw => zpc_some ?_))))))))))
  · obtain ⟨m1, m2⟩ := z_4095 (x := t.1 3 170 + 1) (b := 100000) ⟨by omega, by omega⟩ (by decide)
    rw [m2] at g
    have u170 : zgi u 3 (170 : Int32).toNatClampNeg = (t.1 3 170 + 1) &&& 4095 := by rw [g]; exact zsi_ej
    have u169 : zgi u 3 (169 : Int32).toNatClampNeg = 4096 := by rw [g]; exact (zsi_nj (by decide)).trans q
    rw [u170, u169] at gw
    have ta := z_tadd (x := (t.1 3 170 + 1) &&& 4095) (y := (4096 : Int32)) (a := 0) (b := 4095) ⟨by omega, by omega⟩ (zr_c (lo := 4096) (hi := 4096) (by decide)) (by decide)
    have ts := z_tsub (x := ((t.1 3 170 + 1) &&& 4095) + 4096) (y := (1 : Int32)) (a := 4096) (b := 8191) ⟨by omega, by omega⟩ (zr_c (lo := 1) (hi := 1) (by decide)) (by decide)
    have e : zrem ((((t.1 3 170 + 1) &&& 4095) + 4096) - 1) 4096 = t.1 3 170 := Int32.toInt_inj.mp (by
      rw [z_trem (y := (4096 : Int32)) 4096 rfl (a := 0) (b := 100000) ⟨by omega, by omega⟩ (by decide), ts, ta, m1, t2, c4, c1']
      omega)
    rw [e] at gw
    have z : w = zAd12 t v := by
      unfold zAd12
      rw [if_pos q, gw, g]
      rfl
    rw [z]
    exact k
  · have nq : ¬ (t.1 3 169).toInt = 4096 := fun z => q (Int32.toInt_inj.mp z)
    have u170 : zgi u 3 (170 : Int32).toNatClampNeg = t.1 3 170 := by rw [g]; exact zsi_nj (by decide)
    have u169 : zgi u 3 (169 : Int32).toNatClampNeg = t.1 3 169 + 1 := by rw [g]; exact zsi_ej
    rw [u170, u169] at gw
    have ta := z_tadd (x := t.1 3 170) (y := t.1 3 169 + 1) (a := 0) (b := 4095) (c := 1) (d := 4096) ⟨by omega, by omega⟩ ⟨by omega, by omega⟩ (by decide)
    have ts := z_tsub (x := t.1 3 170 + (t.1 3 169 + 1)) (y := (1 : Int32)) (a := 1) (b := 8191) ⟨by omega, by omega⟩ (zr_c (lo := 1) (hi := 1) (by decide)) (by decide)
    have tb := z_tadd r2 r3 (by decide)
    have e : zrem ((t.1 3 170 + (t.1 3 169 + 1)) - 1) 4096 = (t.1 3 170 + t.1 3 169) &&& 4095 := by
      have e0 : (t.1 3 170 + (t.1 3 169 + 1)) - 1 = t.1 3 170 + t.1 3 169 := Int32.toInt_inj.mp (by rw [ts, ta, t3, tb, c1']; omega)
      rw [e0]
      exact (z_4095 (x := t.1 3 170 + t.1 3 169) (b := 100000) ⟨by omega, by omega⟩ (by decide)).2
    rw [e] at gw
    have z : w = zAd12 t v := by
      unfold zAd12
      rw [if_neg q, gw, g]
      rfl
    rw [z]
    exact k
/-- the sums made anew, then the ring -/
theorem p_m76 {v : Int64} {t0 : zSt} (r2 : zr 0 4095 (t0.1 3 170)) (r3 : zr 0 4096 (t0.1 3 169)) : ∀ (n i : Nat) (t : zSt), i ≤ 3 → zQ [] [(3, 166, 168)] [] [] t0 t → zpc (fX12_mixed_76 n t v (Int32.ofNat i)) (fun r => ∃ u, zQ [] [(3, 166, 168)] [] [] t0 u ∧ r = zAd12 u v) := by
  intro n
  induction n with
  | zero => intro i t _ _; exact zpc_none
  | succ n ih =>
    intro i t hi hd
    show zpc (fX12_mixed_76_body (fX12_mixed_76 n) t v (Int32.ofNat i)) _
    unfold fX12_mixed_76_body
    by_cases i3 : i = 3
    · subst i3
      refine zpc_if (fun _ => ?_) (fun q => absurd (by decide) q)
      have e2 : t.1 3 170 = t0.1 3 170 := hd.o (k := 3) (a := 169) (b := 170) rfl (by decide) (by decide)
      have e3 : t.1 3 169 = t0.1 3 169 := hd.o (k := 3) (a := 169) (b := 170) rfl (by decide) (by decide)
      exact p_mAd12 (by rw [e2]; exact r2) (by rw [e3]; exact r3) ⟨t, hd, rfl⟩
    · have ri : zr 0 2 (Int32.ofNat i) := z_ofr (by omega) (by omega)
      have o166 : (166 + Int32.ofNat i).toNatClampNeg = 166 + i := by rw [z_off ri (k := 166) rfl (by decide), z_ofC (by omega)]
      rw [o166]
      refine zpc_if (fun q => absurd q (zq_gef ri rfl (by decide))) (fun _ => zpc_ck (zpc_bv (fun u g => zpc_bv (fun w ew => ?_))))
      rw [ew, z_ofS (by omega)]
      exact ih (i + 1) u (by omega) (by rw [g]; exact zQ.wi hd (zcv_m (a := 166) (b := 168) (by decide) (by omega) (by omega)))
/-- what the latest wave adds -/
noncomputable def zHdw (a l : Int32) : Int32 := if (a &&& 1) = 1 then l else 0
theorem c_heard : zpc (fX10_heard σ ) (fun z => z = (σ, zHdw (σ.1 32 64) (σ.1 32 67))) := by
  unfold fX10_heard fX10_heard_24 zHdw
  rw [show zgi σ 32 (64 : Int32).toNatClampNeg = σ.1 32 64 from rfl, show zgi σ 32 (67 : Int32).toNatClampNeg = σ.1 32 67 from rfl]
  by_cases q : (σ.1 32 64 &&& 1) = 1
  · rw [if_pos q, if_pos q]; exact zpc_ck (zpc_ck (zpc_some rfl))
  · rw [if_neg q, if_neg q]; exact zpc_ck (zpc_some rfl)
theorem z_mxv {a b : Int64} {x y s : Int32} (ea : a.toInt = x.toInt) (eb : b.toInt = y.toInt) (x0 : 0 ≤ x.toInt) (x1 : x.toInt ≤ 32764 * y.toInt) (y0 : 1 ≤ y.toInt) (y1 : y.toInt ≤ 60000) (hs : zr (-147024) 147024 s) : (a / b) + s.toInt64 = ((x / y) + s).toInt64 := by
  have s0 := hs.1
  have s1 := hs.2
  have q0 : 0 ≤ x.toInt / y.toInt := Int.ediv_nonneg x0 (by omega)
  have q1 : x.toInt / y.toInt ≤ 32764 := by
    have := Int.ediv_le_ediv (c := y.toInt) (by omega) x1
    rw [Int.mul_ediv_cancel _ (by omega)] at this
    exact this
  have d1 := z_tldiv (x := a) (y := b) (a := 0) (b := 2000000000000) y.toInt eb ⟨by omega, by omega⟩ ⟨by decide, by omega⟩
  have d2 := z_tdiv (x := x) (y := y) (a := 0) (b := 2147483647) y.toInt rfl ⟨x0, by have := Int32.toInt_lt x; omega⟩ ⟨by decide, by omega⟩
  have t1 := z_tladd (x := a / b) (y := s.toInt64) (a := 0) (b := 32764) (c := -147024) (d := 147024) ⟨by rw [d1, ea]; exact q0, by rw [d1, ea]; exact q1⟩ ⟨by rw [Int32.toInt_toInt64]; exact s0, by rw [Int32.toInt_toInt64]; exact s1⟩ (by decide)
  have t2 := z_tadd (x := x / y) (y := s) (a := 0) (b := 32764) ⟨by rw [d2]; exact q0, by rw [d2]; exact q1⟩ hs (by decide)
  refine Int64.toInt_inj.mp ?_
  rw [t1, d1, ea, Int32.toInt_toInt64, Int32.toInt_toInt64, t2, d2]
theorem s_mix2 (hv : zVe σ μ) (hs : zSa c σ μ) (hc : c ≤ 60000) (hw : zWvq m σ μ) (hr : zRg 12 48 170 169 11 σ μ) : zp2 (fX0_addMix σ ) (fX12_mixed μ ) (zRg 12 48 170 169 11) := by
  obtain ⟨_, _, _, m6, m60, m61, m4, m40, m41, m5, m50, m51⟩ := hs
  have hE : zE σ μ := hv.1
  have e64 : μ.1 3 163 = σ.1 32 64 := by
    have w := hE.at (z_pn32_64 (d := 0) (by decide))
    rw [z_an1] at w
    exact w
  have e67 : μ.1 3 165 = σ.1 32 67 := hw.2.2.1.symm
  have rl : zr (-147024) 147024 (zHdw (σ.1 32 64) (σ.1 32 67)) := by
    unfold zHdw
    by_cases q : (σ.1 32 64 &&& 1) = 1
    · rw [if_pos q]; exact hw.2.2.2.2.2
    · rw [if_neg q]; exact zr_c (by decide)
  have hr0 := hr
  obtain ⟨_, _, _, r2, r3⟩ := hr
  -- the class, exactly
  have hC : zpc (fX0_addMix σ ) (fun r => ∃ s8, s8 = (if σ.1 12 3 = 4096 then zsi (zsl σ 48 (σ.1 12 2).toNatClampNeg ((65536 * ((σ.2 38 4 / zmaxl 1 (σ.2 38 6)) + (zHdw (σ.1 32 64) (σ.1 32 67)).toInt64)) + ((σ.2 38 5 / zmaxl 1 (σ.2 38 6)) + (zHdw (σ.1 32 64) (σ.1 32 67)).toInt64))) 12 2 ((σ.1 12 2 + 1) &&& 4095) else zsi (zsl σ 48 ((σ.1 12 2 + σ.1 12 3) &&& 4095).toNatClampNeg ((65536 * ((σ.2 38 4 / zmaxl 1 (σ.2 38 6)) + (zHdw (σ.1 32 64) (σ.1 32 67)).toInt64)) + ((σ.2 38 5 / zmaxl 1 (σ.2 38 6)) + (zHdw (σ.1 32 64) (σ.1 32 67)).toInt64))) 12 3 (σ.1 12 3 + 1)) ∧ zQ [] [] [] [(38, 4, 6)] s8 r) := by
    unfold fX0_addMix
    refine zpc_ck (zpc_bv (fun v1 f1 => zpc_ck (zpc_ck (zpc_bi c_heard (fun s2 v3 e => ?_)))))
    cases e
    refine zpc_bv (fun v4 f4 => zpc_ck (zpc_ck (zpc_bi c_heard (fun s5 v6 e => ?_))))
    cases e
    refine zpc_bv (fun v7 f7 => zpc_bu (p_add12 hr0) (fun s8 f8 => zpc_ck (zpc_bv (fun s9 f9 => zpc_ck (zpc_bv (fun s10 f10 => zpc_ck (zpc_bv (fun s11 f11 => zpc_some ?_))))))))
    have f1 : v1 = zmaxl 1 (σ.2 38 6) := f1
    subst f1
    have f4 : v4 = (σ.2 38 4 / zmaxl 1 (σ.2 38 6)) + (zHdw (σ.1 32 64) (σ.1 32 67)).toInt64 := f4
    have f7 : v7 = (σ.2 38 5 / zmaxl 1 (σ.2 38 6)) + (zHdw (σ.1 32 64) (σ.1 32 67)).toInt64 := f7
    subst f4
    subst f7
    exact ⟨s8, f8, by rw [f11, f10, f9]; exact zQ.wl (zQ.wl (zQ.wl zQ.rf rfl) rfl) rfl⟩
  -- the reference
  have hM : zpc (fX12_mixed μ ) (fun r => ¬ μ.1 3 168 = 0 ∧ ∃ u, zQ [] [(3, 166, 168)] [] [] μ u ∧ r = zAd12 u ((65536 * (((μ.1 3 166 / μ.1 3 168) + zHdw (σ.1 32 64) (σ.1 32 67)).toInt64)) + (((μ.1 3 167 / μ.1 3 168) + zHdw (σ.1 32 64) (σ.1 32 67)).toInt64))) := by
    have g26 : ∀ s0 : Int32, s0 = zHdw (σ.1 32 64) (σ.1 32 67) → zpc (fX12_mixed_26 μ s0) (fun r => ¬ μ.1 3 168 = 0 ∧ ∃ u, zQ [] [(3, 166, 168)] [] [] μ u ∧ r = zAd12 u ((65536 * (((μ.1 3 166 / μ.1 3 168) + zHdw (σ.1 32 64) (σ.1 32 67)).toInt64)) + (((μ.1 3 167 / μ.1 3 168) + zHdw (σ.1 32 64) (σ.1 32 67)).toInt64))) := fun s0 e => by
      subst e
      unfold fX12_mixed_26
      refine zpc_ck (zpc_ck (zpc_ckw (fun hz => zpc_ck (zpc_ck (zpc_ck (zpc_bv (fun v6 f6 => ?_)))))))
      have nz : ¬ μ.1 3 168 = 0 := of_decide_eq_true hz
      have f6 : v6 = (65536 * (((μ.1 3 166 / μ.1 3 168) + zHdw (σ.1 32 64) (σ.1 32 67)).toInt64)) + (((μ.1 3 167 / μ.1 3 168) + zHdw (σ.1 32 64) (σ.1 32 67)).toInt64) := f6
      subst f6
      exact zpc_mono (p_m76 (t0 := μ) r2 r3 zfuel 0 μ (by decide) zQ.rf) (fun r g => ⟨nz, g⟩)
    unfold fX12_mixed
    rw [show zgi μ 3 (163 : Int32).toNatClampNeg = σ.1 32 64 from e64, show zgi μ 3 (165 : Int32).toNatClampNeg = σ.1 32 67 from e67]
    refine zpc_ck ?_
    by_cases q : (σ.1 32 64 &&& 1) = 1
    · refine zpc_if (fun _ => zpc_ck (g26 _ ?_)) (fun y => absurd q y)
      unfold zHdw
      rw [if_pos q]
    · refine zpc_if (fun y => absurd y q) (fun _ => g26 _ ?_)
      unfold zHdw
      rw [if_neg q]
  refine zp2_of hC hM (fun a b p q => ?_)
  obtain ⟨s8, p1, p2⟩ := p
  obtain ⟨nz, u, q1, q2⟩ := q
  have n1 : ¬ (μ.1 3 168).toInt = 0 := fun z => nz (Int32.toInt_inj.mp (by rw [z]; rfl))
  have mx : zmaxl 1 (σ.2 38 6) = σ.2 38 6 := by
    unfold zmaxl
    rw [if_neg (fun y => by
      have y1 := Int64.lt_iff_toInt_lt.mp y
      rw [show (1 : Int64).toInt = 1 from rfl] at y1
      omega)]
  rw [mx] at p1
  have v4 := z_mxv (a := σ.2 38 4) (b := σ.2 38 6) (x := μ.1 3 166) (y := μ.1 3 168) m4 m6 m40 m41 (by omega) (by omega) rl
  have v5 := z_mxv (a := σ.2 38 5) (b := σ.2 38 6) (x := μ.1 3 167) (y := μ.1 3 168) m5 m6 m50 m51 (by omega) (by omega) rl
  rw [v4, v5] at p1
  have ru : zRg 12 48 170 169 11 σ u := hr0.kp (zQ.rf (R := []) (A := []) (S := []) (B := [])) q1 rfl rfl rfl rfl rfl
  have h1 := zRg12.add ru p1
  rw [← q2] at h1
  exact h1.kp p2 (zQ.rf (R := []) (A := []) (S := []) (B := [])) rfl rfl rfl rfl rfl
/-! the beats of a step pass, waves and mixes beside the tones -/
noncomputable def zSb (c : Int) (m : Nat) (σ μ : zSt) : Prop := zSa c σ μ ∧ zWvq m σ μ ∧ zRg 12 48 170 169 11 σ μ ∧ zVe σ μ
theorem s2_305 {E d : Int} {m : Nat} (hE : (v10 / 16).toInt = E) (hd : d + E ≤ 60000) (hE2 : E ≤ 1000000000000000) (k : ∀ s t, zSb (d + E) m s t → t.2 4 0 = v10 → zp2 (fX0_pass_70 zfuel s x2 v10 (x2 / 72)) (fX12_once_341 zfuel t x2 (x2 / 72)) Q) : ∀ (n m' : Nat) (σ μ : zSt) (x : Int64), zSb (d + x.toInt) m σ μ → x.toInt ≤ E → 0 ≤ x.toInt → μ.2 4 0 = v10 → zp2 (fX0_pass_38 n σ x2 v10 x) (fX12_once_305 m' μ x2 x) Q := by
  intro n
  induction n with
  | zero => intro m' σ μ x _ _ _ _; exact zp2_nl
  | succ n ih =>
    intro m' σ μ x hs hx hx0 e0
    cases m' with
    | zero => exact zp2_nr
    | succ m' =>
      show zp2 (fX0_pass_38_body (fX0_pass_38 n) σ x2 v10 x) (fX12_once_305_body (fX12_once_305 m') μ x2 x) Q
      unfold fX0_pass_38_body fX12_once_305_body
      rw [show zgl μ 4 (0 : Int32).toNatClampNeg = v10 from e0]
      refine zp2_ckl (zp2_ckr (zp2_ckr (zp2_if (fun q => ?_) (fun q => ?_))))
      · have q1 := z_cE.mp q
        have ee : x.toInt = E := by omega
        rw [ee] at hs
        refine zp2_ckl (zp2_bvl (fun v6 e6 => zp2_ckr (zp2_bvr (fun w6 f6 => ?_))))
        rw [e6, f6]
        exact k σ μ hs e0
      · have q1 : ¬ (v10 / 16).toInt ≤ x.toInt := fun z => q (z_cE.mpr z)
        have t1 := z_l1 hx0 hx (by omega)
        refine zp2_buu (P := fun r r' => zSb (d + x.toInt + 1) m r r' ∧ r'.2 4 0 = v10) (fun a b ea eb => ?_) (fun s t q => zp2_bvl (fun v8 e8 => zp2_bvr (fun w8 f8 => ?_)))
        · have fa := fq_fX0_addSample (σ0 := σ) zQ.rf a ea
          have fb := fw_fX12_sample (σ0 := μ) zQ.rf b eb
          obtain ⟨hs1, hs2, hs3, hv⟩ := hs
          have ga := fj_fX0_addSample (σ0 := σ) zQ.rf a ea
          have gb := fJ_fX12_sample (σ0 := μ) zQ.rf b eb
          refine ⟨⟨s_sample hv hs1 (by omega) a b ea eb, hs2.kp ga gb rfl rfl, hs3.kp ga gb rfl rfl rfl rfl rfl, hv.kp fa fb (by decide +kernel) (by decide +kernel)⟩, ?_⟩
          rw [fb.lo (k := 4) (a := 0) (b := 0) rfl (by decide) (by decide)]
          exact e0
        · rw [e8, f8]
          exact ih m' s t (x + 1) (by rw [t1, show d + (x.toInt + 1) = d + x.toInt + 1 by omega]; exact q.1) (by omega) (by omega) q.2
/-- waves -/
theorem s2_341 {E : Nat} (hE : (v10 / 72).toInt = (E : Int)) (hE2 : E ≤ 1000000000) (k : ∀ s t, zSb c E s t → t.2 4 0 = v10 → zp2 (fX0_pass_105 zfuel s v10 (x2 / 81)) (fX12_once_377 zfuel t (x2 / 81)) Q) : ∀ (n m' : Nat) (σ μ : zSt) (x : Int64) (m : Nat), x.toInt = (m : Int) → m ≤ E → zSb c m σ μ → μ.2 4 0 = v10 → zp2 (fX0_pass_70 n σ x2 v10 x) (fX12_once_341 m' μ x2 x) Q := by
  intro n
  induction n with
  | zero => intro m' σ μ x m _ _ _ _; exact zp2_nl
  | succ n ih =>
    intro m' σ μ x m hx hmE hs e0
    cases m' with
    | zero => exact zp2_nr
    | succ m' =>
      show zp2 (fX0_pass_70_body (fX0_pass_70 n) σ x2 v10 x) (fX12_once_341_body (fX12_once_341 m') μ x2 x) Q
      unfold fX0_pass_70_body fX12_once_341_body
      rw [show zgl μ 4 (0 : Int32).toNatClampNeg = v10 from e0]
      refine zp2_ckl (zp2_ckr (zp2_ckr (zp2_if (fun q => zp2_ckl (zp2_bvl (fun v6 e6 => zp2_ckr (zp2_bvr (fun w6 f6 => ?_))))) (fun q => ?_))))
      · rw [e6, f6]
        have q1 := z_cE.mp q
        obtain rfl : m = E := by omega
        exact k σ μ hs e0
      · have q1 : ¬ (v10 / 72).toInt ≤ x.toInt := fun z => q (z_cE.mpr z)
        have t1 := z_l1 (x := x) (b := 2000000000) (by omega) (by omega) (by decide)
        obtain ⟨hs1, hs2, hs3, hv⟩ := hs
        refine zp2_buu (P := fun r r' => zSb c (m + 1) r r' ∧ r'.2 4 0 = v10) (fun a b ea eb => ⟨⟨s_wave hs1 a b ea eb, w_wave1 hv hs2 (by omega) a b ea eb, hs3.kp (fb_fX10_makeNext (σ0 := σ) zQ.rf a ea) (fB_fX12_waves (σ0 := μ) zQ.rf b eb) rfl rfl rfl rfl rfl, hv.kp (fb_fX10_makeNext (σ0 := σ) zQ.rf a ea) (fB_fX12_waves (σ0 := μ) zQ.rf b eb) (by decide +kernel) (by decide +kernel)⟩, ?_⟩) (fun s t q => zp2_bvl (fun v8 e8 => zp2_bvr (fun w8 f8 => ?_)))
        · rw [(fB_fX12_waves (σ0 := μ) zQ.rf b eb).lo (k := 4) (a := 0) (b := 0) rfl (by decide) (by decide)]
          exact e0
        · rw [e8, f8]
          exact ih m' s t (x + 1) (m + 1) (by rw [t1]; omega) (by omega) q.1 q.2
/-- mixes -/
theorem s2_377 {m0 : Nat} : ∀ (n m : Nat) (σ μ : zSt) (x : Int64) (c : Int), c ≤ 60000 → zSb c m0 σ μ → μ.2 4 0 = v10 → zp2 (fX0_pass_105 n σ v10 x) (fX12_once_377 m μ x) (fun r r' => ((v10 / 81).toInt ≤ x.toInt ∧ zSb c m0 r r') ∨ zSb 0 m0 r r') := by
  intro n
  induction n with
  | zero => intro m σ μ x c _ _ _; exact zp2_nl
  | succ n ih =>
    intro m σ μ x c hc hs e0
    cases m with
    | zero => exact zp2_nr
    | succ m =>
      show zp2 (fX0_pass_105_body (fX0_pass_105 n) σ v10 x) (fX12_once_377_body (fX12_once_377 m) μ x) _
      unfold fX0_pass_105_body fX12_once_377_body
      rw [show zgl μ 4 (0 : Int32).toNatClampNeg = v10 from e0]
      refine zp2_ckl (zp2_ckr (zp2_ckr (zp2_if (fun q => zp2_some (Or.inl ⟨z_cE.mp q, hs⟩)) (fun q => ?_))))
      obtain ⟨hs1, hs2, hs3, hv⟩ := hs
      refine zp2_buu (P := fun r r' => zSb 0 m0 r r' ∧ r'.2 4 0 = v10) (fun a b ea eb => ⟨⟨s_mix hs1 a b ea eb, hs2.kp (fa_fX0_addMix (σ0 := σ) zQ.rf a ea) (fA_fX12_mixed (σ0 := μ) zQ.rf b eb) rfl rfl, s_mix2 hv hs1 hc hs2 hs3 a b ea eb, hv.kp (fa_fX0_addMix (σ0 := σ) zQ.rf a ea) (fA_fX12_mixed (σ0 := μ) zQ.rf b eb) (by decide +kernel) (by decide +kernel)⟩, ?_⟩) (fun s t q => zp2_bvl (fun v8 e8 => zp2_bvr (fun w8 f8 => ?_)))
      · rw [(fA_fX12_mixed (σ0 := μ) zQ.rf b eb).rlo (k := 4) rfl]
        exact e0
      · rw [e8, f8]
        refine zp2_mono (ih m s t (x + 1) 0 (by decide) q.1 q.2) (fun r r' z => Or.inr ?_)
        rcases z with z | z
        · exact z.2
        · exact z
end ZWM
end ZJN19
section ZJN20
/-! WAVES AND MIXES OVER CALLS -/
section ZWN
variable {σ μ s t : zSt} {m : Nat} {n : Int}
theorem s_pass2 {b : Int32} (h : zJ1 n σ μ) (hw : zWvq m σ μ) (hm : (m : Int) = (σ.2 38 0).toInt / 72) (hr : zRg 12 48 170 169 11 σ μ) (hv : zVe σ μ) (hb : zr 1 64 b) (hn : n + 64 ≤ 70000000000) (e : μ.2 4 0 = σ.2 38 0 + b.toInt64) : zp2 (fX0_pass σ b) (fX12_once_298 μ (σ.2 38 0)) (fun r r' => (∃ m' : Nat, zWvq m' r r' ∧ (m' : Int) = (r.2 38 0).toInt / 72) ∧ zRg 12 48 170 169 11 r r') := by
  obtain ⟨hs, h0, h1⟩ := h
  have b1 := hb.1
  have b2 := hb.2
  have tv : (σ.2 38 0 + b.toInt64).toInt = (σ.2 38 0).toInt + b.toInt := by
    rw [z_tladd (a := 0) (b := 1000000000000000) (c := 1) (d := 64) ⟨h0, by omega⟩ ⟨by rw [Int32.toInt_toInt64]; exact b1, by rw [Int32.toInt_toInt64]; exact b2⟩ (by decide), Int32.toInt_toInt64]
  have dv : ∀ (x : Int64) (k : Int64) (K : Int), k.toInt = K → 0 < K → K ≤ 100 → 0 ≤ x.toInt → x.toInt ≤ 2000000000000000 → (x / k).toInt = x.toInt / K := fun x k K hk k0 k1 x0 x1 => z_tldiv K hk (a := 0) (b := 2000000000000000) ⟨x0, x1⟩ ⟨by decide, k0⟩
  have e16 := dv (σ.2 38 0) 16 16 rfl (by decide) (by decide) h0 (by omega)
  have f16 := dv (σ.2 38 0 + b.toInt64) 16 16 rfl (by decide) (by decide) (by omega) (by omega)
  have e72 := dv (σ.2 38 0) 72 72 rfl (by decide) (by decide) h0 (by omega)
  have f72 := dv (σ.2 38 0 + b.toInt64) 72 72 rfl (by decide) (by decide) (by omega) (by omega)
  have u6 := zU_0 h0
  obtain ⟨E, hE⟩ : ∃ E : Nat, (E : Int) = ((σ.2 38 0).toInt + b.toInt) / 72 := ⟨(((σ.2 38 0).toInt + b.toInt) / 72).toNat, by omega⟩
  refine fun r r' ea eb => ?_
  have q := p_pass r ea
  have e38 : r.2 38 0 = σ.2 38 0 + b.toInt64 := by
    rw [q.lo (k := 38) (a := 0) (b := 2) rfl (j := 0) (by decide) (by decide)]
    rw [zsl_nj (by decide), zsl_ej]
  have main : zp2 (fX0_pass σ b) (fX12_once_298 μ (σ.2 38 0)) (fun r r' => zWvq E r r' ∧ zRg 12 48 170 169 11 r r') := by
    unfold fX0_pass fX12_once_298
    refine zp2_ckl (zp2_bvl (fun v9 e9 => zp2_bvl (fun v10 e10 => zp2_ckl (zp2_bvl (fun s11 e11 => zp2_ckl (zp2_ckl (zp2_bvl (fun s12 e12 => zp2_ckl (zp2_bvl (fun v13 e13 => zp2_ckr (zp2_bvr (fun w9 f9 => ?_))))))))))))
    have e9 : v9 = σ.2 38 0 := e9
    subst e9
    have qs : zQ [] [] [] [(38, 0, 1)] σ s12 := by rw [e12, e11]; exact zQ.wl (zQ.wl zQ.rf rfl) rfl
    have qr : zQ [] [] [] [] μ μ := zQ.rf
    have hs2 : zSa (zU (σ.2 38 0).toInt) s12 μ := hs.kp qs qr rfl rfl
    have hv2 : zVe s12 μ := hv.kp qs qr (by decide +kernel) (by decide +kernel)
    have hw2 : zWvq m s12 μ := hw.kp qs qr rfl rfl
    have hr2 : zRg 12 48 170 169 11 s12 μ := hr.kp qs qr rfl rfl rfl rfl rfl
    rw [e10, e13, f9]
    refine s2_305 (m := m) (E := ((σ.2 38 0).toInt + b.toInt) / 16) (d := zU (σ.2 38 0).toInt - (σ.2 38 0).toInt / 16) (by rw [f16, tv]) (by unfold zU at *; omega) (by omega) (fun s t k1 k2 => ?_) zfuel zfuel s12 μ _ (by rw [e16, show zU (σ.2 38 0).toInt - (σ.2 38 0).toInt / 16 + (σ.2 38 0).toInt / 16 = zU (σ.2 38 0).toInt by omega]; exact ⟨hs2, hw2, hr2, hv2⟩) (by rw [e16]; omega) (by rw [e16]; omega) e
    refine s2_341 (E := E) (by rw [f72, tv, hE]) (by omega) (fun s t k3 k4 => ?_) zfuel zfuel s t _ m (by rw [e72, hm]) (by omega) k1 k2
    refine zp2_mono (s2_377 (m0 := E) zfuel zfuel s t _ _ (by unfold zU at *; omega) k3 k4) (fun r r' z => ?_)
    rcases z with ⟨_, z2⟩ | z
    · exact ⟨z2.2.1, z2.2.2.1⟩
    · exact ⟨z.2.1, z.2.2.1⟩
  have mm := main r r' ea eb
  exact ⟨⟨E, mm.1, by rw [e38, tv, hE]⟩, mm.2⟩
/-- tones, noise, waves, mixes -/
noncomputable def zJ2 (n : Int) (σ μ : zSt) : Prop := zJ1 n σ μ ∧ (n ≤ 70000000000 → (∃ m : Nat, zWvq m σ μ ∧ (m : Int) = (σ.2 38 0).toInt / 72) ∧ zRg 12 48 170 169 11 σ μ)
theorem zJ2_ok : zJok zJ2 := by
  refine ⟨fun n σ μ s t h a b => ⟨zJ1_ok.1 n σ μ s t h.1 a b, fun hn => ?_⟩, fun n σ μ h => ⟨zJ1_ok.2.1 n σ μ h.1, fun hn => ?_⟩, fun n m σ μ hm h => ⟨zJ1_ok.2.2.1 n m σ μ hm h.1, fun hn => h.2 (by omega)⟩, fun n b σ μ h hv hb hn e => fun r r' ea eb => ⟨zJ1_ok.2.2.2 n b σ μ h.1 hv hb hn e r r' ea eb, fun hn2 => ?_⟩⟩
  · obtain ⟨⟨m, w1, w2⟩, w3⟩ := h.2 hn
    have e : s.2 38 0 = σ.2 38 0 := a.lo (k := 38) (a := 0) (b := 0) rfl (by decide) (by decide)
    exact ⟨⟨m, w1.kp a b rfl rfl, by rw [e]; exact w2⟩, w3.kp a b rfl rfl rfl rfl rfl⟩
  · obtain ⟨⟨m, w1, w2⟩, w3⟩ := h.2 hn
    have a : zQ [] [(30, 16, 16)] [] [] σ (zsi σ 30 16 32768) := zQ.wi zQ.rf rfl
    have b : zQ [] [(3, 85, 85)] [] [] μ (zsi μ 3 85 32768) := zQ.wi zQ.rf rfl
    exact ⟨⟨m, w1.kp a b rfl rfl, w2⟩, w3.kp a b rfl rfl rfl rfl rfl⟩
  · obtain ⟨⟨m, w1, w2⟩, w3⟩ := h.2 (by omega)
    exact s_pass2 h.1 w1 w2 w3 hv hb hn2 e r r' ea eb
theorem zWvq.w (h : zWvq m σ μ) (a1 : ∀ j : Nat, 65 ≤ j → j ≤ 67 → s.1 32 j = σ.1 32 j) (a2 : ∀ j : Nat, 128 ≤ j → j ≤ 271 → s.1 32 j = σ.1 32 j) (b1 : ∀ j : Nat, 164 ≤ j → j ≤ 170 → t.1 3 j = μ.1 3 j) (b2 : ∀ j : Nat, 172 ≤ j → j ≤ 279 → t.1 3 j = μ.1 3 j) (b3 : t.2 4 4 = μ.2 4 4) : zWvq m s t := by
  obtain ⟨⟨h1, h2⟩, h3, h4, h5, h6, h7⟩ := h
  refine ⟨⟨fun q j hq hj => ?_, fun q hq => ?_⟩, ?_, ?_, ?_, ?_, ?_⟩
  · rw [a2 _ (by omega) (by omega), b2 _ (by omega) (by omega)]; exact h1 q j hq hj
  · rw [a2 _ (by omega) (by omega), a2 _ (by omega) (by omega), a2 _ (by omega) (by omega), a2 _ (by omega) (by omega)]; exact h2 q hq
  · rw [a1 65 (by decide) (by decide), b1 164 (by decide) (by decide)]; exact h3
  · rw [a1 67 (by decide) (by decide), b1 165 (by decide) (by decide)]; exact h4
  · rw [a1 66 (by decide) (by decide)]; exact h5
  · rw [b3]; exact h6
  · rw [a1 67 (by decide) (by decide)]; exact h7
theorem zJ2_w (h : zJ2 n σ μ) (a : zSc σ s) (b : zSrm μ t) : zJ2 n s t := by
  refine ⟨zJ1_w h.1 a b, fun hn => ?_⟩
  obtain ⟨⟨m, w1, w2⟩, ⟨e2, e3, ev, r2, r3⟩⟩ := h.2 hn
  obtain ⟨a1, a2, a3, a4, a5, a6, a7, a8, a9, a10⟩ := a
  obtain ⟨b1, b2, b3, b4, b5, b6, b7, b8⟩ := b
  refine ⟨⟨m, w1.w a3 a4 b4 b5 (b6 4 (by decide) (by decide)), ?_⟩, ⟨?_, ?_, fun j hj => ?_, ?_, ?_⟩⟩
  · rw [a7 0 (by decide) (by decide)]; exact w2
  · rw [a6 2 (by decide) (by decide), b4 170 (by decide) (by decide)]; exact e2
  · rw [a6 3 (by decide) (by decide), b4 169 (by decide) (by decide)]; exact e3
  · rw [a10 j hj, b8 j hj]; exact ev j hj
  · rw [b4 170 (by decide) (by decide)]; exact r2
  · rw [b4 169 (by decide) (by decide)]; exact r3
theorem zWv_new (w1 : s.1 32 65 = 1) (w3 : s.1 32 67 = 0) (w4 : ∀ j : Nat, 128 ≤ j → j ≤ 271 → s.1 32 j = zOp8 j) (v1 : t.1 3 164 = 1) (v2 : t.1 3 165 = 0) (v3 : ∀ j : Nat, j < 108 → t.1 3 (172 + j) = zOp6 j) (w2 : s.1 32 66 = Int32.ofNat m) (v4 : (t.2 4 4).toInt = (m : Int)) : zWvq m s t := by
  have o8 : ∀ q j : Nat, j < 8 → zOp8 (128 + 8 * q + j) = if j = 0 then 127 else if j = 1 then 4 else 0 := fun q j hj => by
    unfold zOp8
    rw [show (128 + 8 * q + j) % 8 = j by omega]
  have o6 : ∀ q j : Nat, j < 6 → zOp6 (6 * q + j) = if j = 0 then 127 else if j = 1 then 4 else 0 := fun q j hj => by
    unfold zOp6
    rw [show (6 * q + j) % 6 = j by omega]
  refine ⟨⟨fun q j hq hj => ?_, fun q hq => ?_⟩, ?_, ?_, w2, v4, ?_⟩
  · rw [w4 _ (by omega) (by omega), o8 q j (by omega), show 172 + 6 * q + j = 172 + (6 * q + j) by omega, v3 _ (by omega), o6 q j hj]
  · have c0 : s.1 32 (128 + 8 * q) = 127 := (w4 (128 + 8 * q + 0) (by omega) (by omega)).trans ((o8 q 0 (by decide)).trans rfl)
    have c1 : s.1 32 (128 + 8 * q + 1) = 4 := (w4 _ (by omega) (by omega)).trans ((o8 q 1 (by decide)).trans rfl)
    have c2 : s.1 32 (128 + 8 * q + 2) = 0 := (w4 _ (by omega) (by omega)).trans ((o8 q 2 (by decide)).trans rfl)
    have c3 : s.1 32 (128 + 8 * q + 3) = 0 := (w4 _ (by omega) (by omega)).trans ((o8 q 3 (by decide)).trans rfl)
    rw [c0, c1, c2, c3]
    exact ⟨zr_c (by decide), zr_c (by decide), zr_c (by decide), zr_c (by decide)⟩
  · rw [w1, v1]
  · rw [w3, v2]
  · rw [w3]; exact zr_c (by decide)
theorem zJ2_r (h : zJ2 n σ μ) (a : zCx σ s) (b : zAx μ t) : zJ2 n s t := by
  refine ⟨zJ1_r h.1 a b, fun hn => ?_⟩
  obtain ⟨⟨m, ⟨_, _, _, u5, u6, _⟩, u2⟩, u3⟩ := h.2 hn
  obtain ⟨q1, _, _, _, _, _, _, _, _, w1, w2, w3, w4⟩ := a
  obtain ⟨q2, _, _, v1, _, _, v3⟩ := b
  have e38 : s.2 38 = σ.2 38 := q1.rlo (k := 38) rfl
  refine ⟨⟨m, zWv_new w1 w3 w4 ((v1 164 (by decide) (by decide)).trans rfl) ((v1 165 (by decide) (by decide)).trans rfl) v3 (w2.trans u5) ?_, ?_⟩, u3.kp q1 q2 rfl rfl rfl rfl rfl⟩
  · rw [q2.rlo (k := 4) rfl]; exact u6
  · rw [e38]; exact u2
theorem zJ2_h (h : zJ2 n σ μ) : zp2 (fX11_hear σ ) (fX12_hear μ ) (fun r r' => zJ2 n (zRls r) r'.1) := fun a b ea eb => by
  obtain ⟨_, _, q3, q4⟩ := v_hear h.1.1.2.1 a b ea eb
  refine ⟨zJ1_h h.1 a b ea eb, fun hn => ?_⟩
  obtain ⟨⟨m, w1, w2⟩, w3⟩ := h.2 hn
  have e38 : (zRls a).2 38 = σ.2 38 := q3.rlo (k := 38) rfl
  exact ⟨⟨m, w1.kp q3 q4 rfl rfl, by rw [e38]; exact w2⟩, w3.kp q3 q4 rfl rfl rfl rfl rfl⟩
theorem zJ2_m (h : zJ2 n σ μ) : zp2 (fX11_mix σ ) (fX12_mix μ ) (fun r r' => zJ2 n (zRls r) r'.1) := fun a b ea eb => by
  refine ⟨zJ1_m h.1 a b ea eb, fun hn => ?_⟩
  obtain ⟨⟨m, w1, w2⟩, w3⟩ := h.2 hn
  obtain ⟨_, q2, q3, q4⟩ := v_mix w3 a b ea eb
  have e38 : (zRls a).2 38 = σ.2 38 := q3.rlo (k := 38) rfl
  exact ⟨⟨m, w1.kp q3 q4 rfl rfl, by rw [e38]; exact w2⟩, q2⟩
theorem zJ2_jw : zJw zJ2 := ⟨zJ2_ok, fun _ _ _ _ _ h a b => zJ2_w h a b, fun _ _ _ _ _ h a b => zJ2_r h a b, fun _ _ _ h => zJ2_h h, fun _ _ _ h => zJ2_m h⟩
theorem z_freshJ2 {k c : Int32} {σ4 σ5 σ9 σ1 : zSt} {σ6 : Int32 → zSt} (ec : c = zKd k) (e4 : fX7_clear zS0 = some σ4) (e5 : fX10_clear zS0 = some σ5) (e6 : ∀ v, fX4_clear (zsi (zsi (zsi zS0 6 0 v) 34 10 1) 34 11 1) = some (σ6 v)) (e9 : fJ7_fill_53178_k44 zS0 (-1) = some σ9) (e : fX12_anew (zsi (zsi (zsi (zsi (zsi zS0 0 8 (-1)) 0 3 c) 3 44 0) 3 45 1) 3 46 1) = some σ1) : zAlj ⟨zJ2, zJ2_jw⟩ 0 (zC1 k σ4 σ5 σ6 σ9) σ1 := by
  have x := z_freshJ ec e4 e5 e6 e9 e
  refine ⟨x.1, (?_ : zJ2 (64 * 0) (zC1 k σ4 σ5 σ6 σ9) σ1), fun q => absurd rfl q⟩
  refine ⟨x.2.1, fun _ => ⟨⟨0, ?_, ?_⟩, ?_⟩⟩
  · obtain ⟨_, _, _, w1, w2, w3, w4⟩ := c_clr10 σ5 e5
    obtain ⟨q2, _, _, v1, _, _, v3⟩ := m_anewx σ1 e
    have l4 : σ1.2 4 = zS0.2 4 := q2.rlo (k := 4) rfl
    refine zWv_new (m := 0) w1 w3 w4 ((v1 164 (by decide) (by decide)).trans rfl) ((v1 165 (by decide) (by decide)).trans rfl) v3 (w2.trans rfl) ?_
    rw [l4]
    rfl
  · have c38 : (zC1 k σ4 σ5 σ6 σ9).2 38 0 = 0 := rfl
    rw [c38]
    decide
  · have b := m_anewx σ1 e
    have l11 : σ1.2 11 = zS0.2 11 := b.1.rlo (k := 11) rfl
    have m8 : ∀ j : Nat, 169 ≤ j → j ≤ 170 → σ1.1 3 j = 0 := fun j x y => by
      rw [b.1.o (k := 3) (a := 169) (b := 170) rfl x y, zsi_nj (by omega), zsi_nj (by omega), zsi_nj (by omega), zsi_ne (by decide), zsi_ne (by decide)]
      rfl
    refine ⟨?_, ?_, fun j hj => ?_, ?_, ?_⟩
    · rw [m8 170 (by decide) (by decide)]; rfl
    · rw [m8 169 (by decide) (by decide)]; rfl
    · rw [l11]; rfl
    · rw [m8 170 (by decide) (by decide)]; exact zr_c (by decide)
    · rw [m8 169 (by decide) (by decide)]; exact zr_c (by decide)
end ZWN
end ZJN20
section ZJN21
/-! WHAT WAVE TELLS -/
section ZWV
variable {σ μ : zSt} {x : Int32}
end ZWV
end ZJN21
