/-! RESET, 2 -/
section ZR2
variable {σ μ s t : zSt} {B : Int × Int × Int} {Q : zSt → Prop}
theorem c_f30b {o : zSt} : ∀ (n i : Nat) (s : zSt), 9 ≤ i → i ≤ 13 → zQ [30] [] [] [] σ s → (∀ j : Nat, 9 ≤ j → j < i → s.1 30 j = 15) → (∀ j : Nat, (j < 9 ∨ i ≤ j) → s.1 30 j = o.1 30 j) → zpc (fJ7_fill_fda19_k30_10 n s 13 15 (Int32.ofNat i)) (fun r => zQ [30] [] [] [] σ r ∧ ∀ j : Nat, r.1 30 j = if 9 ≤ j ∧ j ≤ 12 then 15 else o.1 30 j) := by
  intro n
  induction n with
  | zero => intro i s _ _ _ _ _; exact zpc_none
  | succ n ih =>
    intro i s ha hi hd hin hout
    show zpc (fJ7_fill_fda19_k30_10_body (fJ7_fill_fda19_k30_10 n) s 13 15 (Int32.ofNat i)) _
    unfold fJ7_fill_fda19_k30_10_body
    refine zpc_if (fun q => zpc_some ?_) (fun q => ?_)
    · have := (z_ofL (k := 13) (by omega) rfl).mp q
      refine ⟨hd, fun j => ?_⟩
      by_cases z : 9 ≤ j ∧ j ≤ 12
      · rw [if_pos z]; exact hin j z.1 (by omega)
      · rw [if_neg z]; exact hout j (by omega)
    have hi2 : i < 13 := by
      have : ¬ 13 ≤ i := fun z => q ((z_ofL (c := 13) (k := 13) (i := i) (by omega) rfl).mpr z)
      omega
    rw [z_ofC (by omega), z_ofS (by omega)]
    refine zpc_ck (zpc_bv (fun s1 g1 => zpc_bv (fun x ex => ?_)))
    subst ex
    refine ih (i + 1) s1 (by omega) (by omega) (by rw [g1]; exact zQ.wi hd rfl) (fun j h1 h2 => ?_) (fun j hj => by rw [g1, zsi_nj (by omega)]; exact hout j (by omega))
    by_cases z : j = i
    · rw [z, g1, zsi_ej]
    · rw [g1, zsi_nj z]; exact hin j h1 (by omega)
theorem z_of8 {i : Nat} (h : i < 90000) : Int32.ofNat i + 8 = Int32.ofNat (i + 8) := by
  have e := z_ofI (i := i) (by omega)
  refine z_ofN ?_
  have t := z_tadd (x := Int32.ofNat i) (y := 8) (a := 0) (b := 100000) (c := 8) (d := 8) ⟨by omega, by omega⟩ (zr_c (by decide)) (by decide)
  rw [t, e, show (8 : Int32).toInt = 8 from rfl]
  omega
theorem c_36 : ∀ (n i : Nat) (s : zSt), 128 ≤ i → i ≤ 272 → i % 8 = 0 → zQ [] [(32, 128, 271)] [] [] σ s → zpc (fX10_clear_36 n s (Int32.ofNat i)) (fun r => zQ [] [(32, 128, 271)] [] [] σ r) := by
  intro n
  induction n with
  | zero => intro i s _ _ _ _; exact zpc_none
  | succ n ih =>
    intro i s ha hi h8 hd
    show zpc (fX10_clear_36_body (fX10_clear_36 n) s (Int32.ofNat i)) _
    unfold fX10_clear_36_body
    refine zpc_if (fun q => zpc_some hd) (fun q => ?_)
    have hi2 : i < 272 := by
      have : ¬ 272 ≤ i := fun z => q ((z_ofL (c := 272) (k := 272) (i := i) (by omega) rfl).mpr z)
      omega
    rw [Int32.add_zero, z_ofS (by omega), z_ofC (by omega), z_ofC (by omega), z_of8 (by omega)]
    refine zpc_ck (zpc_bv (fun s1 g1 => zpc_ck (zpc_bv (fun s2 g2 => zpc_bv (fun x ex => ?_)))))
    subst ex
    refine ih (i + 8) s2 (by omega) (by omega) (by omega) ?_
    rw [g2, g1]
    exact zQ.wi (zQ.wi hd (zcv_m (a := 128) (b := 271) (by decide) (by omega) (by omega))) (zcv_m (a := 128) (b := 271) (by decide) (by omega) (by omega))
/-- the class, cleared -/
def zCw (σ r : zSt) : Prop := zQ [19, 21, 23, 30, 32, 36] [(34, 0, 6)] [] [] σ r ∧ (r.1 19 0 = 0 ∧ r.1 19 1 = 1 ∧ r.1 19 2 = (if σ.1 1 6 = 2 then 0 else 2) ∧ r.1 19 3 = 0) ∧ (∀ j : Nat, j < 16384 → r.1 21 j = 0) ∧ (∀ j : Nat, j < 96 → r.1 23 j = 0) ∧ (∀ j : Nat, j < 19 → r.1 30 j = if j = 18 then 255 else if j = 16 then 32768 else if 9 ≤ j ∧ j ≤ 12 then 15 else 0) ∧ (∀ j : Nat, j < 65 → r.1 32 j = 0) ∧ r.1 32 68 = 0 ∧ (r.1 34 0 = 255 ∧ r.1 34 1 = 127 ∧ r.1 34 2 = 255 ∧ r.1 34 3 = 0 ∧ r.1 34 4 = 255 ∧ r.1 34 5 = 0 ∧ r.1 34 6 = 0) ∧ (∀ j : Nat, j ≤ 28 → r.1 36 j = if j = 18 then 57328 else 0)
theorem c_clr7 : zpc (fX7_clear s ) (fun r => zQ [30] [] [] [] s r ∧ ∀ j : Nat, j < 19 → r.1 30 j = if j = 18 then 255 else if j = 16 then 32768 else if 9 ≤ j ∧ j ≤ 12 then 15 else 0) := by
  unfold fX7_clear fJ7_fill_53178_k30 fJ7_fill_fda19_k30 fJ7_rangeCheck_23922
  refine zpc_bu (c_f30 (σ := s) zfuel 0 s (by decide) zQ.rf (fun j hj => absurd hj (by omega))) (fun m qm => ?_)
  refine zpc_bu (P := fun r => zQ [30] [] [] [] m r ∧ ∀ j : Nat, r.1 30 j = if 9 ≤ j ∧ j ≤ 12 then 15 else m.1 30 j) ?_ (fun m2 qm2 => zpc_ck (zpc_bv (fun m3 f3 => zpc_ck (zpc_bv (fun m4 f4 => zpc_some ?_)))))
  · refine zpc_bu (P := fun r => r = m) (zpc_if (fun _ => zpc_if (fun _ => zpc_if (fun _ => zpc_some rfl) (fun z => absurd (by decide) z)) (fun z => absurd (by decide) z)) (fun z => absurd (by decide) z)) (fun m' em => ?_)
    subst em
    exact c_f30b (σ := m') (o := m') zfuel 9 m' (by decide) (by decide) zQ.rf (fun j h1 h2 => absurd h2 (by omega)) (fun _ _ => rfl)
  · rw [f4, f3]
    refine ⟨zQ.wi (zQ.wi (qm.1.tr qm2.1) rfl) rfl, fun j hj => ?_⟩
    show (zsi (zsi m2 30 16 32768) 30 18 255).1 30 j = _
    by_cases z : j = 18
    · rw [z, zsi_ej, if_pos rfl]
    rw [zsi_nj z, if_neg z]
    by_cases y : j = 16
    · rw [y, zsi_ej, if_pos rfl]
    rw [zsi_nj y, if_neg y, qm2.2 j, qm.2 j hj]
theorem c_clr10 : zpc (fX10_clear s ) (fun r => zQ [32] [] [] [] s r ∧ (∀ j : Nat, j < 65 → r.1 32 j = 0) ∧ r.1 32 68 = 0) := by
  unfold fX10_clear fJ7_fill_53178_k32
  refine zpc_ck (zpc_bv (fun v4 e4 => zpc_bu (c_f32 (σ := s) zfuel 0 s (by decide) zQ.rf (fun j hj => absurd hj (by omega))) (fun m qm => zpc_ck (zpc_bv (fun m1 f1 => zpc_ck (zpc_bv (fun m2 f2 => ?_)))))))
  refine zpc_mono (c_36 (σ := m2) zfuel 128 m2 (by decide) (by decide) (by decide) zQ.rf) (fun r qr => ?_)
  have e2 : m2 = zsi (zsi m 32 66 v4) 32 65 1 := by rw [f2, f1]; rfl
  have q2m : zQ [32] [] [] [] m m2 := by rw [e2]; exact zQ.wi (zQ.wi zQ.rf rfl) rfl
  refine ⟨(qm.1.tr q2m).tr (qr.mono rfl rfl), fun j hj => ?_, ?_⟩
  · rw [zQ.o qr (k := 32) (a := 0) (b := 127) rfl (by omega) (by omega), e2, zsi_nj (by omega), zsi_nj (by omega)]
    exact qm.2 j (by omega)
  · rw [zQ.o qr (k := 32) (a := 0) (b := 127) rfl (by omega) (by omega), e2, zsi_nj (by omega), zsi_nj (by omega)]
    exact qm.2 68 (by omega)
theorem c_clr4 : zpc (fX4_clear s ) (fun r => zQ [] [(34, 0, 6)] [] [] s r ∧ r.1 34 0 = 255 ∧ r.1 34 1 = 127 ∧ r.1 34 2 = 255 ∧ r.1 34 3 = 0 ∧ r.1 34 4 = 255 ∧ r.1 34 5 = 0 ∧ r.1 34 6 = 0) := by
  unfold fX4_clear
  refine zpc_ck (zpc_bv (fun m1 f1 => zpc_ck (zpc_bv (fun m2 f2 => zpc_ck (zpc_bv (fun m3 f3 => zpc_ck (zpc_bv (fun m4 f4 => zpc_ck (zpc_bv (fun m5 f5 => zpc_ck (zpc_bv (fun m6 f6 => zpc_ck (zpc_bv (fun m7 f7 => zpc_some ?_))))))))))))))
  rw [f7, f6, f5, f4, f3, f2, f1]
  exact ⟨zQ.wi (zQ.wi (zQ.wi (zQ.wi (zQ.wi (zQ.wi (zQ.wi zQ.rf rfl) rfl) rfl) rfl) rfl) rfl) rfl, rfl, rfl, rfl, rfl, rfl, rfl, rfl⟩
theorem c_clr : zpc (fX11_clearAll s ) (zCw s) := by
  unfold fX11_clearAll
  -- pages
  refine zpc_bu (P := fun r => zQ [19] [] [] [] s r ∧ r.1 19 0 = 0 ∧ r.1 19 1 = 1 ∧ r.1 19 2 = (if s.1 1 6 = 2 then 0 else 2) ∧ r.1 19 3 = 0) ?_ (fun s1 q1 => ?_)
  · unfold fX2_clearPages fX2_clearPages_32
    refine zpc_ck (zpc_bv (fun s3 f3 => zpc_ck (zpc_bv (fun s4 f4 => ?_))))
    have e16 : zgi s4 1 6 = s.1 1 6 := by rw [f4, f3]; rfl
    rw [e16]
    refine zpc_if (fun q => zpc_ck (zpc_bv (fun s5 f5 => zpc_ck (zpc_bv (fun s6 f6 => zpc_some ?_))))) (fun q => zpc_ck (zpc_bv (fun s5 f5 => zpc_ck (zpc_bv (fun s6 f6 => zpc_some ?_)))))
    · rw [if_pos q, f6, f5, f4, f3]
      exact ⟨zQ.wi (zQ.wi (zQ.wi (zQ.wi zQ.rf rfl) rfl) rfl) rfl, rfl, rfl, rfl, rfl⟩
    · rw [if_neg q, f6, f5, f4, f3]
      exact ⟨zQ.wi (zQ.wi (zQ.wi (zQ.wi zQ.rf rfl) rfl) rfl) rfl, rfl, rfl, rfl, rfl⟩
  obtain ⟨a1, b1⟩ := q1
  -- video
  refine zpc_bu (P := fun r => ∃ m, (zQ [21] [] [] [] s1 m ∧ ∀ j : Nat, j < 16384 → m.1 21 j = 0) ∧ zQ [23] [] [] [] m r ∧ ∀ j : Nat, j < 96 → r.1 23 j = 0) ?_ (fun s2 q2 => ?_)
  · unfold fX9_clear fJ7_fill_53178_k21 fJ7_fill_53178_k23
    refine zpc_bu (c_f21 (σ := s1) zfuel 0 s1 (by decide) zQ.rf (fun j hj => absurd hj (by omega))) (fun m qm => ?_)
    exact zpc_bu (c_f23 (σ := m) zfuel 0 m (by decide) zQ.rf (fun j hj => absurd hj (by omega))) (fun r qr => zpc_some ⟨m, qm, qr⟩)
  obtain ⟨m2, ⟨a2, b2⟩, a2', b2'⟩ := q2
  refine zpc_bu c_clr7 (fun s3 q3 => ?_)
  obtain ⟨a3, b3⟩ := q3
  refine zpc_bu c_clr10 (fun s4 q4 => ?_)
  obtain ⟨a4, b4, b4'⟩ := q4
  refine zpc_bu c_clr4 (fun s5 q5 => ?_)
  obtain ⟨a5, b5⟩ := q5
  -- processor
  refine zpc_bu (P := fun r => zQ [36] [] [] [] s5 r ∧ ∀ j : Nat, j ≤ 28 → r.1 36 j = if j = 18 then 57328 else 0) ?_ (fun s6 q6 => zpc_some ?_)
  · unfold fX5_clear fJ7_fill_53178_k36
    refine zpc_bu (c_f36 (σ := s5) zfuel 0 s5 (by decide) zQ.rf (fun j hj => absurd hj (by omega))) (fun m qm => zpc_ck (zpc_bv (fun m1 f1 => zpc_some ?_)))
    rw [f1]
    refine ⟨zQ.wi qm.1 rfl, fun j hj => ?_⟩
    show (zsi m 36 18 57328).1 36 j = _
    by_cases z : j = 18
    · rw [z, zsi_ej, if_pos rfl]
    · rw [zsi_nj z, if_neg z]; exact qm.2 j (by omega)
  obtain ⟨a6, b6⟩ := q6
  have M1 := a1.mono (R' := [19, 21, 23, 30, 32, 36]) (A' := [(34, 0, 6)]) (S' := []) (B' := []) rfl rfl
  have M2 := a2.mono (R' := [19, 21, 23, 30, 32, 36]) (A' := [(34, 0, 6)]) (S' := []) (B' := []) rfl rfl
  have M2' := a2'.mono (R' := [19, 21, 23, 30, 32, 36]) (A' := [(34, 0, 6)]) (S' := []) (B' := []) rfl rfl
  have M3 := a3.mono (R' := [19, 21, 23, 30, 32, 36]) (A' := [(34, 0, 6)]) (S' := []) (B' := []) rfl rfl
  have M4 := a4.mono (R' := [19, 21, 23, 30, 32, 36]) (A' := [(34, 0, 6)]) (S' := []) (B' := []) rfl rfl
  have M5 := a5.mono (R' := [19, 21, 23, 30, 32, 36]) (A' := [(34, 0, 6)]) (S' := []) (B' := []) rfl rfl
  have M6 := a6.mono (R' := [19, 21, 23, 30, 32, 36]) (A' := [(34, 0, 6)]) (S' := []) (B' := []) rfl rfl
  have k19 : s6.1 19 = s1.1 19 := by rw [a6.ro (k := 19) rfl, a5.ro (k := 19) rfl, a4.ro (k := 19) rfl, a3.ro (k := 19) rfl, a2'.ro (k := 19) rfl, a2.ro (k := 19) rfl]
  have k21 : s6.1 21 = m2.1 21 := by rw [a6.ro (k := 21) rfl, a5.ro (k := 21) rfl, a4.ro (k := 21) rfl, a3.ro (k := 21) rfl, a2'.ro (k := 21) rfl]
  have k23 : s6.1 23 = s2.1 23 := by rw [a6.ro (k := 23) rfl, a5.ro (k := 23) rfl, a4.ro (k := 23) rfl, a3.ro (k := 23) rfl]
  have k30 : s6.1 30 = s3.1 30 := by rw [a6.ro (k := 30) rfl, a5.ro (k := 30) rfl, a4.ro (k := 30) rfl]
  have k32 : s6.1 32 = s4.1 32 := by rw [a6.ro (k := 32) rfl, a5.ro (k := 32) rfl]
  have k34 : s6.1 34 = s5.1 34 := a6.ro (k := 34) rfl
  refine ⟨(((((M1.tr M2).tr M2').tr M3).tr M4).tr M5).tr M6, by rw [k19]; exact b1, by rw [k21]; exact b2, by rw [k23]; exact b2', by rw [k30]; exact b3, by rw [k32]; exact b4, by rw [k32]; exact b4', by rw [k34]; exact b5, b6⟩
end ZR2
