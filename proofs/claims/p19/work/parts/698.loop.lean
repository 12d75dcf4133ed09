theorem z_at8 {L : Nat} (hL : L ≤ 513) {x4 : Int32} {c : Nat} (e : x4.toInt = 1 + 8 * (c : Int)) (hc : c ≤ 64) (q : ¬ Int32.ofNat L - 8 < x4) : c ≤ 63 ∧ (∀ j : Int32, 0 ≤ j.toInt → j.toInt ≤ 7 → zin (x4 + j) L = true) ∧ zin x4 L = true ∧ (x4 + 8).toInt = 1 + 8 * ((c + 1 : Nat) : Int) := by
  have eL : (Int32.ofNat L).toInt = L := Int32.toInt_ofNat_of_lt (by omega)
  have c8 : (8 : Int32).toInt = 8 := rfl
  have r8 : zr 8 8 (8 : Int32) := zr_c (by decide)
  have rL : zr 0 513 (Int32.ofNat L) := ⟨by omega, by omega⟩
  have r4 : zr 1 513 x4 := ⟨by omega, by omega⟩
  have t := z_tsub rL r8 (by decide)
  have q1 := Int32.le_iff_toInt_le.mp (z_nlt q)
  rw [t, eL, c8, e] at q1
  have t8 := z_tadd r4 r8 (by decide)
  refine ⟨by omega, fun j j1 j2 => ?_, zin_ok (lo := x4.toInt) (hi := x4.toInt) ⟨Int.le_refl _, Int.le_refl _⟩ (by omega), by rw [t8, e, c8]; omega⟩
  have rj : zr 0 7 j := ⟨j1, j2⟩
  have tj := z_tadd r4 rj (by decide)
  exact zin_ok (lo := (x4 + j).toInt) (hi := (x4 + j).toInt) ⟨Int.le_refl _, Int.le_refl _⟩ (by omega)
theorem z_loop {L : Nat} (hL : L ≤ 513) {xs : Nat → Int32} {k h : Int} (hk : zHk k h) : ∀ (n c : Nat) (μ : zSt) (o : Nat → Int64) (σ : zSt) (x4 : Int32) (a d : Int), x4.toInt = 1 + 8 * (c : Int) → c + n = 66 → c ≤ 64 → zRM (2100000 * (c : Int)) a k d μ → zRC a h d σ → zok (fLaw xs L n μ o σ x4) (fun r => r = 1) := by
  intro n
  induction n with
  | zero => intro c μ o σ x4 a d e hn hc; exfalso; omega
  | succ n ih =>
    intro c μ o σ x4 a d e hn hc hM hC
    show zok (fLaw_body xs L (fLaw xs L n) μ o σ x4) _
    unfold fLaw_body
    refine zok_if (fun _ => zok_some rfl) (fun q => ?_)
    obtain ⟨c1, hz, h0, e8⟩ := z_at8 hL e hc q
    have hb : 2100000 * (c : Int) + 2100000 ≤ 268435456 := by omega
    have hK : ∀ (μ1 : zSt) (o1 : Nat → Int64) (σ1 : zSt) (a d : Int), zRM (2100000 * (c : Int) + 2100000) a k d μ1 → zRC a h d σ1 → zok (fLaw xs L n μ1 o1 σ1 (x4 + 8)) (fun r => r = 1) := fun μ1 o1 σ1 a d h1 h2 => by
      refine ih (c + 1) μ1 o1 σ1 (x4 + 8) a d e8 (by omega) (by omega) ?_ h2
      rw [show 2100000 * ((c + 1 : Nat) : Int) = 2100000 * (c : Int) + 2100000 by omega]
      exact h1
    refine zok_ck h0 (zok_bv (fun t _ => ?_))
    refine zok_if (fun _ => q_fLaw_208 hk hM hC hb hz hK) (fun _ => ?_)
    refine zok_if (fun _ => q_fLaw_372 hk hM hC hb hz hK) (fun _ => ?_)
    refine zok_if (fun _ => q_fLaw_400 hk hM hC hb hz hK) (fun _ => ?_)
    refine zok_if (fun _ => q_fLaw_469 hk hM hC hb hz hK) (fun _ => ?_)
    refine zok_if (fun _ => q_fLaw_482 hk hM hC hb hz hK) (fun _ => ?_)
    refine zok_if (fun _ => q_fLaw_510 hk hM hC hb hz hK) (fun _ => ?_)
    refine zok_if (fun _ => q_fLaw_538 hk hM hC hb hz hK) (fun _ => ?_)
    refine zok_if (fun _ => q_fLaw_566 hk hM hC hb hz hK) (fun _ => ?_)
    refine zok_if (fun _ => q_fLaw_577 hk hM hC hb hz hK) (fun _ => ?_)
    refine zok_if (fun _ => q_fLaw_590 hk hM hC hb hz hK) (fun _ => ?_)
    refine zok_if (fun _ => q_fLaw_627 hk hM hC hb hz hK) (fun _ => ?_)
    refine zok_if (fun _ => q_fLaw_666 hk hM hC hb hz hK) (fun _ => ?_)
    refine zok_if (fun _ => q_fLaw_719 hk hM hC hb hz hK) (fun _ => ?_)
    refine zok_if (fun _ => q_fLaw_771 hk hM hC hb hz hK) (fun _ => ?_)
    refine zok_if (fun _ => q_fLaw_796 hk hM hC hb hz hK) (fun _ => ?_)
    refine zok_if (fun _ => q_fLaw_824 hk hM hC hb hz hK) (fun _ => ?_)
    refine zok_if (fun _ => q_fLaw_880 hk hM hC hb hz hK) (fun _ => ?_)
    refine zok_if (fun _ => q_fLaw_891 hk hM hC hb hz hK) (fun _ => ?_)
    refine zok_if (fun _ => q_fLaw_915 hk hM hC hb hz hK) (fun _ => ?_)
    refine zok_if (fun _ => q_fLaw_943 hk hM hC hb hz hK) (fun _ => ?_)
    refine zok_if (fun _ => q_fLaw_980 hk hM hC hb hz hK) (fun _ => ?_)
    refine zok_if (fun _ => q_fLaw_1005 hk hM hC hb hz hK) (fun _ => ?_)
    refine zok_if (fun _ => q_fLaw_1040 hk hM hC hb hz hK) (fun _ => ?_)
    refine zok_if (fun _ => q_fLaw_1065 hk hM hC hb hz hK) (fun _ => ?_)
    refine zok_if (fun _ => q_fLaw_1100 hk hM hC hb hz hK) (fun _ => ?_)
    refine zok_if (fun _ => q_fLaw_1128 hk hM hC hb hz hK) (fun _ => ?_)
    refine zok_if (fun _ => q_fLaw_1139 hk hM hC hb hz hK) (fun _ => ?_)
    refine zok_if (fun _ => q_fLaw_1164 hk hM hC hb hz hK) (fun _ => ?_)
    refine zok_if (fun _ => q_fLaw_1192 hk hM hC hb hz hK) (fun _ => ?_)
    refine zok_if (fun _ => q_fLaw_1232 hk hM hC hb hz hK) (fun _ => ?_)
    refine zok_if (fun _ => q_fLaw_1260 hk hM hC hb hz hK) (fun _ => ?_)
    refine zok_if (fun _ => q_fLaw_1276 hk hM hC hb hz hK) (fun _ => ?_)
    refine zok_if (fun _ => q_fLaw_1292 hk hM hC hb hz hK) (fun _ => ?_)
    refine zok_if (fun _ => q_fLaw_1320 hk hM hC hb hz hK) (fun _ => ?_)
    refine zok_if (fun _ => q_fLaw_1348 hk hM hC hb hz hK) (fun _ => ?_)
    refine zok_if (fun _ => q_fLaw_1373 hk hM hC hb hz hK) (fun _ => ?_)
    exact q_fLaw_1401 hk hM hC hb hz hK
theorem zKS_fresh {k : Int32} : zKS 0 (zG0 k) := by
  have v : ∀ i, ¬ i = 1 → zG0 k i = 0 := fun i h1 => by
    unfold zG0 zset
    split
    · rfl
    · split
      · rfl
      · first | rfl | rw [if_neg h1]
  have lb := zln_b (zG0 k)
  unfold zKS zJ
  rw [v 102 (by decide), v 105 (by decide), v 106 (by decide), v 6 (by decide), v 7 (by decide), v 8 (by decide)]
  omega
theorem z_owed {L : Nat} {xs : Nat → Int32} (hL : L ≤ 513) : zOwed L xs := by
  refine zOwed_of (fun μ σ hM hC => ⟨66, by decide, ?_⟩)
  have z0 : zG0 (zKd (zCell L xs)) 0 = 0 := by unfold zG0; rw [zset_ne (by decide), zset_ne (by decide), zset_ne (by decide)]
  have z2 : zG0 (zKd (zCell L xs)) 2 = 0 := by unfold zG0; rw [zset_ne (by decide), zset_ne (by decide), zset_ne (by decide)]
  have h0 : zRM (2100000 * ((0 : Nat) : Int)) 0 (zG0 (zKd (zCell L xs)) 1) 0 μ := by
    rw [show (2100000 * ((0 : Nat) : Int)) = 0 by decide]
    exact ⟨by decide, _, hM, zG0_J (zKd_r _), zKS_fresh, z0, rfl, z2⟩
  have h1 : zRC 0 (zH0 (zCell L xs) 2) 0 σ := ⟨_, hC, rfl, rfl, rfl⟩
  obtain ⟨r, e, h⟩ := z_loop hL (xs := xs) (zHd_fresh (zCell L xs)) 66 0 μ (fun _ => 0) σ 1 _ _ (by decide) rfl (by decide) h0 h1
  rw [e, h]
