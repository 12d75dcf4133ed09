/-! FRESH, the reference: zS0 has the invariant; anew leaves line and beat 0 -/
theorem zM0_sg : ∀ s ∈ sM, s.2.2.2.1 ≤ 0 ∧ 0 ≤ s.2.2.2.2 := by decide +kernel
theorem zM0 : zIM (fun _ => 0) zS0 := by
  refine ⟨⟨fun s hs j _ _ => ?_, fun i z _ => rfl, fun i z _ => rfl, Or.inl rfl⟩, Or.inl rfl, ⟨fun i _ => ?_, fun i _ => ?_⟩, fun i _ => ?_, fun i _ => ?_⟩
  · exact zM0_sg s hs
  · exact zr_c (x := 0) (by decide)
  · exact zr_c (x := 0) (by decide)
  · exact zr_c (x := 0) (by decide)
  · exact zr_c (x := 0) (by decide)
theorem s_anew_24x : ∀ (n : Nat) {G : Nat → Int} {σ : zSt} (hσ : zIM G σ) {x1 : Int32} (h1 : zr 47 87 x1) (h3 : 66 < x1.toInt → G 3 = 0) (h4 : 67 < x1.toInt → G 4 = 0) (hm : 87 - x1.toInt < n), zok (fX12_anew_24 n σ x1) (zIM (zset (zset G 3 0) 4 0)) := by
  intro n
  induction n with
  | zero => intro G σ hσ x1 h1 h3 h4 hm; have := h1.2; exfalso; omega
  | succ n ih =>
    intro G σ hσ x1 h1 h3 h4 hm
    show zok (fX12_anew_24_body (fX12_anew_24 n) σ x1) _
    unfold fX12_anew_24_body
    have c87 : (87 : Int32).toInt = 87 := rfl
    refine zok_if (fun q => ?_) (fun q => ?_)
    · have q1 := Int32.le_iff_toInt_le.mp q
      have e : zset (zset G 3 0) 4 0 = G := by
        have t : zset (zset G 3 (G 3)) 4 (G 4) = G := by rw [zset_id, zset_id]
        rw [h3 (by omega), h4 (by omega)] at t
        exact t
      rw [e]
      refine zok_ck rfl ?_
      refine zok_bs (I := zIM G) (hσ.wi 18 18 (by decide) (zr_c (lo := 57328) (hi := 57328) (by decide)) (by decide +kernel)) (fun σ19 e4 i3 => ?_)
      refine zok_ck rfl ?_
      refine zok_bs (I := zIM G) (i3.wi 30 30 (by decide) (zr_c (lo := 1) (hi := 1) (by decide)) (by decide +kernel)) (fun σ20 e6 i5 => ?_)
      exact zok_if (fun _ => s_X12_anew_79 i5 (zr_w (zr_c (lo := 0) (hi := 0) (by decide)) (by decide)) (zr_c (lo := 31) (hi := 31) (by decide))) (fun _ => s_X12_anew_79 i5 (zr_w (zr_c (lo := 2) (hi := 2) (by decide)) (by decide)) (zr_c (lo := 31) (hi := 31) (by decide)))
    · have q1 := Int32.lt_iff_toInt_lt.mp (z_nle q)
      have h5 : zr 47 86 x1 := ⟨h1.1, by omega⟩
      have b1 := h1.1
      have c1 : (1 : Int32).toInt = 1 := rfl
      have t : (x1 + 1).toInt = x1.toInt + (1 : Int32).toInt := z_tadd h5 (zr_c (lo := 1) (hi := 1) (x := 1) (by decide)) (by decide)
      have nx : ∀ (G1 : Nat → Int) (σ1 : zSt), zIM G1 σ1 → (66 ≤ x1.toInt → G1 3 = 0) → (67 ≤ x1.toInt → G1 4 = 0) → zset (zset G1 3 0) 4 0 = zset (zset G 3 0) 4 0 → zok (zbv (x1 + 1) (fun v22 => fX12_anew_24 n σ1 v22)) (zIM (zset (zset G 3 0) 4 0)) := fun G1 σ1 i a b e => by
        refine zok_bv (fun v e9 => ?_)
        subst e9
        rw [← e]
        exact ih i ⟨by omega, by omega⟩ (fun h => a (by omega)) (fun h => b (by omega)) (by omega)
      refine zok_ck (zin_ok h5 (by decide)) ?_
      by_cases c6 : x1.toInt = 66
      · have ex : x1 = 66 := Int32.toInt_inj.mp (by rw [c6]; rfl)
        subst ex
        exact zok_bs (I := zIM (zset G 3 0)) (zIM.wg (v := 0) 3 hσ (by decide) (by decide) (zr_c (lo := 0) (hi := 0) (by decide)) (by decide +kernel)) (fun σ1 e i => nx _ _ i (fun _ => zset_eq) (fun h => absurd h (by decide)) (by rw [zset_set]))
      · by_cases c7 : x1.toInt = 67
        · have ex : x1 = 67 := Int32.toInt_inj.mp (by rw [c7]; rfl)
          subst ex
          exact zok_bs (I := zIM (zset G 4 0)) (zIM.wg (v := 0) 4 hσ (by decide) (by decide) (zr_c (lo := 0) (hi := 0) (by decide)) (by decide +kernel)) (fun σ1 e i => nx _ _ i (fun _ => by rw [zset_ne (by decide)]; exact h3 (by decide)) (fun _ => zset_eq) (by rw [zset_com (i := 4) (k := 3) (by decide), zset_set]))
        · by_cases c8 : x1.toInt < 66
          · have h6 : zr 47 65 x1 := ⟨b1, by omega⟩
            exact zok_bs (I := zIM G) (hσ.wi 47 65 (z_ix h6 (by decide)) (zr_c (lo := 0) (hi := 0) (by decide)) (by decide +kernel)) (fun σ1 e i => nx _ _ i (fun h => absurd h (by omega)) (fun h => absurd h (by omega)) rfl)
          · have h6 : zr 68 86 x1 := ⟨by omega, by omega⟩
            exact zok_bs (I := zIM G) (hσ.wi 68 86 (z_ix h6 (by decide)) (zr_c (lo := 0) (hi := 0) (by decide)) (by decide +kernel)) (fun σ1 e i => nx _ _ i (fun _ => h3 (by omega)) (fun _ => h4 (by omega)) rfl)
theorem s_anew_2x : ∀ (n : Nat) {G : Nat → Int} {σ : zSt} (hσ : zIM G σ) {x1 : Int32} (h1 : zr 0 42 x1) (hm : 42 - x1.toInt < n), zok (fX12_anew_2 n σ x1) (zIM (zset (zset G 3 0) 4 0)) := by
  intro n
  induction n with
  | zero => intro G σ hσ x1 h1 hm; have := h1.2; exfalso; omega
  | succ n ih =>
    intro G σ hσ x1 h1 hm
    show zok (fX12_anew_2_body (fX12_anew_2 n) σ x1) _
    unfold fX12_anew_2_body
    have c42 : (42 : Int32).toInt = 42 := rfl
    refine zok_if (fun q => ?_) (fun q => ?_)
    · exact s_anew_24x zfuel hσ (zr_c (by decide)) (fun h => absurd h (by decide)) (fun h => absurd h (by decide)) (by decide)
    · have q1 := Int32.lt_iff_toInt_lt.mp (z_nle q)
      have h5 : zr 0 41 x1 := ⟨h1.1, by omega⟩
      have b1 := h1.1
      have c1 : (1 : Int32).toInt = 1 := rfl
      have t : (x1 + 1).toInt = x1.toInt + (1 : Int32).toInt := z_tadd h5 (zr_c (lo := 1) (hi := 1) (x := 1) (by decide)) (by decide)
      refine zok_ck (zin_ok h5 (by decide)) ?_
      refine zok_bs (I := zIM G) (hσ.wi 0 41 (z_ix h5 (by decide)) (zr_c (lo := 0) (hi := 0) (by decide)) (by decide +kernel)) (fun σ1 e i => ?_)
      refine zok_bv (fun v e9 => ?_)
      subst e9
      exact ih i ⟨by omega, by omega⟩ (by omega)
/-- anew, exactly -/
theorem s_anewx {G : Nat → Int} {σ : zSt} (hσ : zIM G σ) : zok (fX12_anew σ) (zIM (zset (zset G 3 0) 4 0)) := by
  unfold fX12_anew
  exact s_anew_2x zfuel hσ (zr_c (by decide)) (by decide)
def zG0 (k : Int32) : Nat → Int := zset (zset (zset (fun _ => 0) 1 k.toInt) 3 0) 4 0
/-- the reference's fresh state -/
theorem s_freshM {k : Int32} (hk : zr 0 2 k) : zok (fX12_anew (zsi (zsi (zsi (zsi (zsi zS0 0 8 (-1)) 0 3 k) 3 44 0) 3 45 1) 3 46 1)) (zIM (zG0 k)) := by
  have h1 : zIM (fun _ => 0) (zsi zS0 0 8 (-1)) := zM0.wi 8 8 (by decide) (zr_c (lo := -1) (hi := -1) (by decide)) (by decide +kernel)
  have h2 : zIM (zset (fun _ => 0) 1 k.toInt) (zsi (zsi zS0 0 8 (-1)) 0 3 k) := h1.wg 1 (by decide) (by decide) hk (by decide +kernel)
  have h3 := h2.wi (k := 3) (j := 44) (v := 0) 44 44 (by decide) (zr_c (lo := 0) (hi := 0) (by decide)) (by decide +kernel)
  have h4 := h3.wi (k := 3) (j := 45) (v := 1) 45 45 (by decide) (zr_c (lo := 1) (hi := 1) (by decide)) (by decide +kernel)
  have h5 := h4.wi (k := 3) (j := 46) (v := 1) 46 46 (by decide) (zr_c (lo := 1) (hi := 1) (by decide)) (by decide +kernel)
  exact s_anewx h5
theorem zG0_J {k : Int32} (hk : zr 0 2 k) : zK 0 (zG0 k) := by
  have v : ∀ i, ¬ i = 1 → zG0 k i = 0 := fun i h1 => by
    unfold zG0 zset
    split
    · rfl
    · split
      · rfl
      · first | rfl | rw [if_neg h1]
  have lb := zln_b (zG0 k)
  unfold zK zGJ zJ
  rw [v 100 (by decide), v 103 (by decide), v 104 (by decide), v 101 (by decide), v 3 (by decide), v 4 (by decide), v 5 (by decide)]
  omega
