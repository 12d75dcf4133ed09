theorem z_at8 {L : Nat} (hL : L ≤ 513) {x4 : Int32} {c : Nat} (e : x4.toInt = 1 + 8 * (c : Int)) (hc : c ≤ 64) (q : ¬ Int32.ofNat L - 8 < x4) : c ≤ 63 ∧ (∀ j : Int32, 0 ≤ j.toInt → j.toInt ≤ 7 → zin (x4 + j) L = true) ∧ zin x4 L = true ∧ (x4 + 8).toInt = 1 + 8 * ((c + 1 : Nat) : Int) := by
  have eL : (Int32.ofNat L).toInt = L := Int32.toInt_ofNat_of_lt (by omega)
  have c8 : (8 : Int32).toInt = 8 := rfl
  have r8 : zr 8 8 (8 : Int32) := zr_c (by decide)
  have rL : zr 0 513 (Int32.ofNat L) := ⟨by omega, by omega⟩
  have r4 : zr 1 513 x4 := ⟨by omega, by omega⟩
  have t := z_tsub rL r8 (by decide)
  have q1 := Int32.le_iff_toInt_le.mp (z_nlt q)
  rw [t, eL, c8, e] at q1
  have t8 := z_tadd r4 r8 (by decide)
  refine ⟨by omega, fun j j1 j2 => ?_, zin_ok (lo := x4.toInt) (hi := x4.toInt) ⟨Int.le_refl _, Int.le_refl _⟩ (by omega), by rw [t8, e, c8]; omega⟩
  have rj : zr 0 7 j := ⟨j1, j2⟩
  have tj := z_tadd r4 rj (by decide)
  exact zin_ok (lo := (x4 + j).toInt) (hi := (x4 + j).toInt) ⟨Int.le_refl _, Int.le_refl _⟩ (by omega)
theorem z_loop {L : Nat} (hL : L ≤ 513) {xs : Nat → Int32} {k h : Int} : ∀ (n c : Nat) (μ : zSt) (o : Nat → Int64) (σ : zSt) (x4 : Int32) (a d : Int), x4.toInt = 1 + 8 * (c : Int) → c + n = 66 → c ≤ 64 → zRM (2100000 * (c : Int)) a k d μ → zRC a h d σ → zAll (1000000 * (c : Int)) σ μ → zok (fLaw xs L n μ o σ x4) (fun r => r = 1) := by
  intro n
  induction n with
  | zero => intro c μ o σ x4 a d e hn hc; exfalso; omega
  | succ n ih =>
    intro c μ o σ x4 a d e hn hc hM hC hR
    show zok (fLaw_body xs L (fLaw xs L n) μ o σ x4) _
    unfold fLaw_body
    refine zok_if (fun _ => zok_some rfl) (fun q => ?_)
    obtain ⟨c1, hz, h0, e8⟩ := z_at8 hL e hc q
    have hb : 2100000 * (c : Int) + 2100000 ≤ 268435456 := by omega
    have hA : 1000000 * (c : Int) ≤ 900000000000000 := by omega
    have hK : ∀ (μ1 : zSt) (o1 : Nat → Int64) (σ1 : zSt) (a d : Int), zRM (2100000 * (c : Int) + 2100000) a k d μ1 → zRC a h d σ1 → zAll (1000000 * (c : Int) + 1000000) σ1 μ1 → zok (fLaw xs L n μ1 o1 σ1 (x4 + 8)) (fun r => r = 1) := fun μ1 o1 σ1 a d h1 h2 h3 => by
      refine ih (c + 1) μ1 o1 σ1 (x4 + 8) a d e8 (by omega) (by omega) ?_ h2 ?_
      · rw [show 2100000 * ((c + 1 : Nat) : Int) = 2100000 * (c : Int) + 2100000 by omega]
        exact h1
      · rw [show 1000000 * ((c + 1 : Nat) : Int) = 1000000 * (c : Int) + 1000000 by omega]
        exact h3
    refine zok_ck h0 (zok_bv (fun t _ => ?_))
    refine zok_if (fun _ => q_fLaw_208 hM hC hR hA hb hz hK) (fun _ => ?_)
    refine zok_if (fun _ => q_fLaw_372 hM hC hR hA hb hz hK) (fun _ => ?_)
    refine zok_if (fun _ => q_fLaw_400 hM hC hR hA hb hz hK) (fun _ => ?_)
    refine zok_if (fun _ => q_fLaw_469 hM hC hR hA hb hz hK) (fun _ => ?_)
    refine zok_if (fun _ => q_fLaw_482 hM hC hR hA hb hz hK) (fun _ => ?_)
    refine zok_if (fun _ => q_fLaw_510 hM hC hR hA hb hz hK) (fun _ => ?_)
    refine zok_if (fun _ => q_fLaw_538 hM hC hR hA hb hz hK) (fun _ => ?_)
    refine zok_if (fun _ => q_fLaw_566 hM hC hR hA hb hz hK) (fun _ => ?_)
    refine zok_if (fun _ => q_fLaw_577 hM hC hR hA hb hz hK) (fun _ => ?_)
    refine zok_if (fun _ => q_fLaw_590 hM hC hR hA hb hz hK) (fun _ => ?_)
    refine zok_if (fun _ => q_fLaw_627 hM hC hR hA hb hz hK) (fun _ => ?_)
    refine zok_if (fun _ => q_fLaw_666 hM hC hR hA hb hz hK) (fun _ => ?_)
    refine zok_if (fun _ => q_fLaw_719 hM hC hR hA hb hz hK) (fun _ => ?_)
    refine zok_if (fun _ => q_fLaw_771 hM hC hR hA hb hz hK) (fun _ => ?_)
    refine zok_if (fun _ => q_fLaw_796 hM hC hR hA hb hz hK) (fun _ => ?_)
    refine zok_if (fun _ => q_fLaw_824 hM hC hR hA hb hz hK) (fun _ => ?_)
    refine zok_if (fun _ => q_fLaw_880 hM hC hR hA hb hz hK) (fun _ => ?_)
    refine zok_if (fun _ => q_fLaw_891 hM hC hR hA hb hz hK) (fun _ => ?_)
    refine zok_if (fun _ => q_fLaw_904 hM hC hR hA hb hz hK) (fun _ => ?_)
    refine zok_if (fun _ => q_fLaw_932 hM hC hR hA hb hz hK) (fun _ => ?_)
    refine zok_if (fun _ => q_fLaw_969 hM hC hR hA hb hz hK) (fun _ => ?_)
    refine zok_if (fun _ => q_fLaw_994 hM hC hR hA hb hz hK) (fun _ => ?_)
    refine zok_if (fun _ => q_fLaw_1029 hM hC hR hA hb hz hK) (fun _ => ?_)
    refine zok_if (fun _ => q_fLaw_1054 hM hC hR hA hb hz hK) (fun _ => ?_)
    refine zok_if (fun _ => q_fLaw_1089 hM hC hR hA hb hz hK) (fun _ => ?_)
    refine zok_if (fun _ => q_fLaw_1117 hM hC hR hA hb hz hK) (fun _ => ?_)
    refine zok_if (fun _ => q_fLaw_1128 hM hC hR hA hb hz hK) (fun _ => ?_)
    refine zok_if (fun _ => q_fLaw_1153 hM hC hR hA hb hz hK) (fun _ => ?_)
    refine zok_if (fun _ => q_fLaw_1181 hM hC hR hA hb hz hK) (fun _ => ?_)
    refine zok_if (fun _ => q_fLaw_1221 hM hC hR hA hb hz hK) (fun _ => ?_)
    refine zok_if (fun _ => q_fLaw_1249 hM hC hR hA hb hz hK) (fun _ => ?_)
    refine zok_if (fun _ => q_fLaw_1265 hM hC hR hA hb hz hK) (fun _ => ?_)
    refine zok_if (fun _ => q_fLaw_1281 hM hC hR hA hb hz hK) (fun _ => ?_)
    refine zok_if (fun _ => q_fLaw_1309 hM hC hR hA hb hz hK) (fun _ => ?_)
    refine zok_if (fun _ => q_fLaw_1337 hM hC hR hA hb hz hK) (fun _ => ?_)
    refine zok_if (fun _ => q_fLaw_1362 hM hC hR hA hb hz hK) (fun _ => ?_)
    exact q_fLaw_1390 hM hC hR hA hb hz hK
theorem zKS_fresh {k : Int32} : zKS 0 (zG0 k) := by
  have v : ∀ i, ¬ i = 1 → zG0 k i = 0 := fun i h1 => by
    unfold zG0 zset
    split
    · rfl
    · split
      · rfl
      · first | rfl | rw [if_neg h1]
  have lb := zln_b (zG0 k)
  unfold zKS zJ
  rw [v 102 (by decide), v 105 (by decide), v 106 (by decide), v 6 (by decide), v 7 (by decide), v 8 (by decide)]
  omega
theorem z_owed {L : Nat} {xs : Nat → Int32} (hL : L ≤ 513) : zOwed L xs := by
  obtain ⟨σ4, e4, i4⟩ := z_c4
  obtain ⟨σ5, e5, i5⟩ := z_c5
  obtain ⟨σ9, e9, i9⟩ := z_c9
  obtain ⟨σ1, e1, i1⟩ := s_freshM (zKd_r (zCell L xs))
  have hC := s_freshC i4 i5 (fun v => (Classical.choose_spec (z_c6 v)).2) i9 (k := zCell L xs)
  have z0 : zG0 (zKd (zCell L xs)) 0 = 0 := by unfold zG0; rw [zset_ne (by decide), zset_ne (by decide), zset_ne (by decide)]
  have z2 : zG0 (zKd (zCell L xs)) 2 = 0 := by unfold zG0; rw [zset_ne (by decide), zset_ne (by decide), zset_ne (by decide)]
  have h0 : zRM (2100000 * ((0 : Nat) : Int)) 0 (zG0 (zKd (zCell L xs)) 1) 0 σ1 := by
    rw [show (2100000 * ((0 : Nat) : Int)) = 0 by decide]
    exact ⟨by decide, _, i1, zG0_J (zKd_r _), zKS_fresh, z0, rfl, z2⟩
  have h1 : zRC 0 (zH0 (zCell L xs) 2) 0 (zC1 (zCell L xs) σ4 σ5 (fun v => Classical.choose (z_c6 v)) σ9) := ⟨_, hC, rfl, rfl, rfl⟩
  obtain ⟨r, e, h⟩ := z_loop hL (xs := xs) 66 0 σ1 (fun _ => 0) _ 1 _ _ (by decide) rfl (by decide) h0 h1 (by rw [show (1000000 * ((0 : Nat) : Int)) = 0 by decide]; exact z_freshA rfl e4 e5 (fun v => (Classical.choose_spec (z_c6 v)).1) e9 e1)
  refine ⟨σ4, e4, σ5, e5, _, fun v => (Classical.choose_spec (z_c6 v)).1, σ9, e9, σ1, e1, 66, by decide, ?_⟩
  rw [e, h]
