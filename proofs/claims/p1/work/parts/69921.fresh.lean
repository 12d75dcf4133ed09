/-! tell on fresh states: nothing but NOP and RST 38h is there -/
theorem zpc_ckF {α : Type} {Q : α → Prop} {b : Bool} {x : Option α} (h : b = true → zpc x Q) : zpc (zck b x) Q := by
  cases b
  · exact zpc_none
  · exact h rfl
theorem z_rem0 (x : Int32) : zrem 0 x = 0 := by
  unfold zrem
  rw [Int32.zero_div, Int32.zero_mul, Int32.sub_zero]
section ZF6
variable {σ μ : zSt} {x : Int32} {k : Fin 3}
theorem pc_readF (h4 : σ.1 1 4 = 0) (h6 : σ.1 1 6 = 0) (hz : ∀ j, σ.1 15 j = 0) : zpc (fX2_read σ x) (fun r => r = (σ, 255) ∨ r = (σ, 0)) := by
  unfold fX2_read
  refine zpc_bv (fun y e => zpc_if (fun _ => zpc_if (fun _ => ?_) (fun q => absurd h6 q)) (fun _ => zpc_ck (zpc_some (Or.inr ?_))))
  · unfold fX2_read_144 fX2_read_169
    refine zpc_if (fun _ => zpc_some (Or.inl rfl)) (fun q => ?_)
    rw [show zgi σ 1 4 = 0 from h4] at q
    have hy : zr 0 65535 y := by rw [e]; exact zr_andr (lo := 0) (hi := 65535) (zr_c (lo := 65535) (hi := 65535) (by decide)) (by decide)
    exact absurd (zq_ge hy (c := 0) rfl (by decide)) q
  · show (σ, σ.1 15 (y &&& 8191).toNatClampNeg) = _
    rw [hz]
theorem pm_readF (h5 : μ.1 0 5 = 0) (h7 : μ.1 0 7 = 0) (hz : ∀ j, μ.1 5 j = 0) : zpc (fX12_read μ x) (fun r => r = (μ, 255) ∨ r = (μ, 0)) := by
  unfold fX12_read
  refine zpc_bv (fun y e => zpc_if (fun _ => zpc_bi (jm_nobat h7) (fun s v e1 => ?_)) (fun _ => zpc_ck (zpc_ck (zpc_some (Or.inr ?_)))))
  · cases e1
    refine zpc_if (fun _ => zpc_if (fun _ => zpc_if (fun _ => zpc_some (Or.inl rfl)) (fun q => ?_)) (fun q => absurd h7 q)) (fun q => absurd rfl q)
    rw [show zgi μ 0 5 = 0 from h5] at q
    have hy : zr 0 65535 y := by rw [e]; exact zr_andr (lo := 0) (hi := 65535) (zr_c (lo := 65535) (hi := 65535) (by decide)) (by decide)
    exact absurd (zq_ge hy (c := 0) rfl (by decide)) q
  · show (μ, μ.1 5 (zrem y 8192).toNatClampNeg &&& 255) = _
    rw [hz]
    rfl
/-! the class's patterns -/
theorem pc_put4 {Q : zSt → Prop} {n1 : Nat} (h : ∀ x2, zpc (fX8_put_41 zfuel σ n1 x2 0 0) Q) : ∀ (n : Nat) (x2 x3 : Int32), zpc (fX8_put_4 n σ n1 x2 x3) Q := by
  intro n
  induction n with
  | zero => intro x2 x3; exact zpc_none
  | succ n ih =>
    intro x2 x3
    show zpc (fX8_put_4_body (fX8_put_4 n) σ n1 x2 x3) _
    unfold fX8_put_4_body fX8_put_28
    exact zpc_ck (zpc_if (fun _ => h x2) (fun _ => zpc_ck (zpc_ck (zpc_if (fun _ => zpc_bv (fun _ _ => zpc_bv (fun _ _ => ih _ _))) (fun _ => zpc_bv (fun _ _ => zpc_bv (fun _ _ => ih _ _)))))))
theorem z_p43 : ∀ i : Fin (zkL 43), ¬ zkC 43 i.val < 65 → ¬ 90 < zkC 43 i.val → zkC 43 i.val = 86 := by decide +kernel
theorem z_p25 : ∀ i : Fin (zkL 25), (i.val < 3 → ¬ zkC 25 i.val = 59 ∧ 90 < zkC 25 i.val) ∧ (i.val = 3 → zkC 25 i.val = 59) := by decide +kernel
theorem z_l25 : zkL 25 < 100 := by decide +kernel
theorem z_zinF {i : Int32} {n : Nat} (h : zin i n = true) : i.toNatClampNeg < n ∧ 0 ≤ i.toInt := by
  have t := zin_in h
  have h1 : ¬ i < 0 := fun q => t (Or.inl q)
  have h2 : ¬ n ≤ i.toNatClampNeg := fun q => t (Or.inr q)
  exact ⟨Nat.lt_of_not_le h2, Int32.le_iff_toInt_le.mp (z_nlt h1)⟩
theorem pc_p43 {σ0 : zSt} : ∀ (n : Nat) (s : zSt) (x2 x3 x4 : Int32), zQ [45] [(10, 2, 2)] [] [] σ0 s → zpc (fX8_put_41 n s 43 x2 x3 x4) (zQ [45] [(10, 2, 2)] [] [] σ0) := by
  intro n
  induction n with
  | zero => intro s x2 x3 x4 _; exact zpc_none
  | succ n ih =>
    intro s x2 x3 x4 h
    show zpc (fX8_put_41_body (fX8_put_41 n) s 43 x2 x3 x4) _
    have nx : ∀ s1 y, zQ [45] [(10, 2, 2)] [] [] σ0 s1 → zpc (fX8_put_110 (fX8_put_41 n) s1 43 x2 y x4) (zQ [45] [(10, 2, 2)] [] [] σ0) := fun s1 y h1 => by
      unfold fX8_put_110
      exact zpc_bv (fun _ _ => ih _ _ _ _ h1)
    unfold fX8_put_41_body fX8_put_104
    refine zpc_ck (zpc_if (fun _ => zpc_some h) (fun _ => zpc_ck (zpc_ckF (fun zi => zpc_bv (fun v ev => ?_)))))
    refine zpc_if (fun _ => zpc_bv (fun w _ => nx s w h)) (fun _ => zpc_ck (zpc_if (fun _ => ?_) (fun _ => nx s x3 h)))
    refine zpc_if (fun _ => zpc_bu (ft_fX8_putSign h) (fun s1 h1 => nx s1 x3 h1)) (fun a => zpc_if (fun _ => zpc_bu (ft_fX8_putSign h) (fun s1 h1 => nx s1 x3 h1)) (fun b => ?_))
    have e : v = 86 := by
      have f := z_p43 ⟨x4.toNatClampNeg, (z_zinF zi).1⟩
      rw [ev] at a b ⊢
      exact f a b
    subst e
    refine zpc_bu (P := zQ [45] [(10, 2, 2)] [] [] σ0) ?_ (fun s1 h1 => nx s1 x3 h1)
    unfold fX8_putMeant
    repeat refine zpc_if (fun q => absurd q (by decide)) (fun _ => ?_)
    refine zpc_if (fun _ => ?_) (fun q => absurd rfl q)
    unfold fX8_putMeant_275
    exact zpc_bu (ft_fX8_putByte h) (fun s1 h1 => zpc_some h1)
theorem pc_p25 {σ0 : zSt} (y0 : σ0.1 10 6 = 0) : ∀ (n : Nat) (s : zSt) (x2 x3 x4 : Int32), zQ [45] [(10, 2, 2)] [] [] σ0 s → 0 ≤ x4.toInt → 0 ≤ x3.toInt → x3.toInt ≤ x4.toInt → (x3.toInt = 0 → x4.toInt ≤ 3) → zpc (fX8_put_41 n s 25 x2 x3 x4) (zQ [45] [(10, 2, 2)] [] [] σ0) := by
  intro n
  induction n with
  | zero => intro s x2 x3 x4 _ _ _ _ _; exact zpc_none
  | succ n ih =>
    intro s x2 x3 x4 h h4 h3 h34 h0
    show zpc (fX8_put_41_body (fX8_put_41 n) s 25 x2 x3 x4) _
    unfold fX8_put_41_body fX8_put_104
    refine zpc_ck (zpc_if (fun _ => zpc_some h) (fun _ => zpc_ck (zpc_ckF (fun zi => zpc_bv (fun v ev => ?_)))))
    have z1 := z_zinF zi
    have lb := z_l25
    have k4 := z_clamp h4
    have c1 : (1 : Int32).toInt = 1 := rfl
    have c0 : (0 : Int32).toInt = 0 := rfl
    have t4 : (x4 + 1).toInt = x4.toInt + (1 : Int32).toInt := z_tadd (a := 0) (b := 100) ⟨by omega, by omega⟩ (zr_c (lo := 1) (hi := 1) (x := 1) (by decide)) (by decide)
    have t3 : (x3 + 1).toInt = x3.toInt + (1 : Int32).toInt := z_tadd (a := 0) (b := 100) ⟨by omega, by omega⟩ (zr_c (lo := 1) (hi := 1) (x := 1) (by decide)) (by decide)
    have f := z_p25 ⟨x4.toNatClampNeg, z1.1⟩
    have f1 : x4.toNatClampNeg < 3 → ¬ v = 59 ∧ 90 < v := by rw [ev]; exact f.1
    have f2 : x4.toNatClampNeg = 3 → v = 59 := by rw [ev]; exact f.2
    have nx : ∀ s1 y, zQ [45] [(10, 2, 2)] [] [] σ0 s1 → 0 ≤ y.toInt → y.toInt ≤ x4.toInt + 1 → (y.toInt = 0 → x4.toInt ≤ 2) → zpc (fX8_put_110 (fX8_put_41 n) s1 25 x2 y x4) (zQ [45] [(10, 2, 2)] [] [] σ0) := fun s1 y h1 a b c => by
      unfold fX8_put_110
      refine zpc_bv (fun w ew => ?_)
      subst ew
      exact ih _ _ _ _ h1 (by omega) a (by omega) (fun r => by have := c r; omega)
    refine zpc_if (fun _ => zpc_bv (fun w ew => ?_)) (fun n59 => zpc_ck ?_)
    · subst ew
      exact nx s _ h (by omega) (by omega) (fun r => by omega)
    · have e6 : zgi s 10 6 = 0 := (h.1 10 6 rfl).trans y0
      rw [e6, z_rem0]
      refine zpc_if (fun e3 => ?_) (fun e3 => ?_)
      · have e3' : x3.toInt = 0 := by rw [e3]; rfl
        have l3 := h0 e3'
        have lt : x4.toNatClampNeg < 3 := by
          by_cases q : x4.toNatClampNeg < 3
          · exact q
          · exact absurd (f2 (by omega)) n59
        have g := f1 lt
        refine zpc_if (fun q => ?_) (fun _ => zpc_if (fun _ => ?_) (fun q => absurd g.2 q))
        · have a := Int32.lt_iff_toInt_lt.mp q
          have b := Int32.lt_iff_toInt_lt.mp g.2
          have c65 : (65 : Int32).toInt = 65 := rfl
          have c90 : (90 : Int32).toInt = 90 := rfl
          exfalso; omega
        · exact zpc_bu (ft_fX8_putSign h) (fun s1 h1 => nx s1 x3 h1 (by omega) (by omega) (fun _ => by omega))
      · have ne : ¬ x3.toInt = 0 := fun r => e3 (Int32.toInt_inj.mp r)
        exact nx s x3 h (by omega) (by omega) (fun r => absurd r ne)
theorem pc_tell (h4 : σ.1 1 4 = 0) (h6 : σ.1 1 6 = 0) (hz : ∀ j, σ.1 15 j = 0) : zpc (fX11_tell σ x) (fun r => r.2 = 1) := by
  unfold fX11_tell
  refine zpc_bi (P := fun r => r.2 = 1) ?_ (fun s v e => zpc_some e)
  unfold fX8_write
  refine zpc_bv (fun s1 e1 => zpc_bv (fun s2 e2 => zpc_bv (fun s3 e3 => zpc_bv (fun s4 e4 => zpc_ck (zpc_bv (fun s5 e5 => ?_))))))
  have g4 : s5.1 1 4 = 0 := by subst e5; subst e4; subst e3; subst e2; subst e1; exact h4
  have g6 : s5.1 1 6 = 0 := by subst e5; subst e4; subst e3; subst e2; subst e1; exact h6
  have gz : ∀ j, s5.1 15 j = 0 := fun j => by subst e5; subst e4; subst e3; subst e2; subst e1; exact hz j
  have gc : s5.1 10 4 = 0 := by subst e5; subst e4; subst e3; subst e2; rfl
  refine zpc_bi (P := fun r => (r.2 = 255 ∨ r.2 = 0) ∧ r.1.1 10 4 = 1) ?_ (fun s6 v6 q6 => ?_)
  · unfold fX8_take
    refine zpc_bi (pc_readF g4 g6 gz) (fun s6 v6 q6 => zpc_bv (fun s7 e7 => zpc_some ?_))
    have hs : s6 = s5 := by rcases q6 with e | e <;> cases e <;> rfl
    refine ⟨?_, ?_⟩
    · rcases q6 with e | e <;> cases e
      · exact Or.inl rfl
      · exact Or.inr rfl
    · subst e7
      subst hs
      show s6.1 10 4 + 1 = 1
      rw [gc]
      rfl
  obtain ⟨q6, c6⟩ := q6
  have q6 : v6 = 255 ∨ v6 = 0 := q6
  have c6 : s6.1 10 4 = 1 := c6
  have fin : ∀ (s : zSt) (n1 : Nat), s.1 10 4 = 1 → (∀ x2, zpc (fX8_put_41 zfuel s n1 x2 0 0) (zQ [45] [(10, 2, 2)] [] [] s)) → zpc (zbu (fX8_put s n1) (fun σ4 => some (σ4, zgi σ4 10 4))) (fun r => r.2 = 1) := fun s n1 c hh => by
    unfold fX8_put
    refine zpc_bu (pc_put4 hh _ _ _) (fun s1 h1 => zpc_some ?_)
    show s1.1 10 4 = 1
    rw [h1.1 10 4 rfl]
    exact c
  rcases q6 with e | e <;> subst e
  · refine zpc_if (fun q => absurd q (by decide)) (fun _ => zpc_if (fun q => absurd q (by decide)) (fun _ => ?_))
    unfold fX8_write_124 fX8_patternsOf fX8_split
    refine zpc_bk (P := fun r => r.2 = 43 ∧ r.1.1 10 4 = 1) ?_ (fun s7 n7 q7 => ?_)
    · refine zpc_if (fun q => absurd q (by decide)) (fun _ => zpc_if (fun q => absurd q (by decide)) (fun _ => ?_))
      refine zpc_bu (P := fun r => r = zsi (zsi (zsi s6 10 5 3) 10 6 7) 10 7 7) (zpc_bv (fun t1 f1 => zpc_bv (fun t2 f2 => zpc_bv (fun t3 f3 => zpc_some ?_)))) (fun t4 f4 => ?_)
      · subst f3; subst f2; subst f1; rfl
      · subst f4
        refine zpc_if (fun q => absurd (show (3 : Int32) = 0 from q) (by decide)) (fun _ => zpc_if (fun q => absurd (show (3 : Int32) = 1 from q) (by decide)) (fun _ => zpc_if (fun q => absurd (show (3 : Int32) = 2 from q) (by decide)) (fun _ => ?_)))
        refine zpc_bk (P := fun r => r.2 = 43 ∧ r.1.1 10 4 = 1) ?_ (fun s8 n8 q8 => zpc_some q8)
        unfold fX8_lastPatterns
        refine zpc_if (fun q => absurd (show (7 : Int32) = 0 from q) (by decide)) (fun _ => zpc_if (fun q => absurd (show (7 : Int32) = 1 from q) (by decide)) (fun _ => zpc_if (fun q => absurd (show (7 : Int32) = 2 from q) (by decide)) (fun _ => zpc_if (fun q => absurd (show (7 : Int32) = 3 from q) (by decide)) (fun _ => zpc_if (fun q => absurd (show (7 : Int32) = 4 from q) (by decide)) (fun _ => zpc_if (fun q => absurd (show (7 : Int32) = 5 from q) (by decide)) (fun _ => zpc_if (fun q => absurd (show (7 : Int32) = 6 from q) (by decide)) (fun _ => zpc_some ⟨rfl, c6⟩)))))))
    · obtain ⟨a, b⟩ := q7
      have a : n7 = 43 := a
      subst a
      exact fin s7 43 b (fun x2 => pc_p43 _ _ _ _ _ zQ.rf)
  · refine zpc_if (fun q => absurd q (by decide)) (fun _ => zpc_if (fun q => absurd q (by decide)) (fun _ => ?_))
    unfold fX8_write_124 fX8_patternsOf fX8_split
    refine zpc_bk (P := fun r => r.2 = 25 ∧ r.1.1 10 4 = 1 ∧ r.1.1 10 6 = 0) ?_ (fun s7 n7 q7 => ?_)
    · refine zpc_if (fun q => absurd q (by decide)) (fun _ => zpc_if (fun q => absurd q (by decide)) (fun _ => ?_))
      refine zpc_bu (P := fun r => r = zsi (zsi (zsi s6 10 5 0) 10 6 0) 10 7 0) (zpc_bv (fun t1 f1 => zpc_bv (fun t2 f2 => zpc_bv (fun t3 f3 => zpc_some ?_)))) (fun t4 f4 => ?_)
      · subst f3; subst f2; subst f1; rfl
      · subst f4
        refine zpc_if (fun _ => ?_) (fun q => absurd rfl q)
        refine zpc_bk (P := fun r => r.2 = 25 ∧ r.1.1 10 4 = 1 ∧ r.1.1 10 6 = 0) ?_ (fun s8 n8 q8 => zpc_some q8)
        unfold fX8_firstPatterns
        exact zpc_if (fun _ => zpc_some ⟨rfl, c6, rfl⟩) (fun q => absurd rfl q)
    · obtain ⟨a, b, c⟩ := q7
      have a : n7 = 25 := a
      subst a
      exact fin s7 25 b (fun x2 => pc_p25 c _ _ _ _ _ zQ.rf (by decide) (by decide) (by decide) (fun _ => by decide))
theorem pm_tell (h5 : μ.1 0 5 = 0) (h7 : μ.1 0 7 = 0) (hz : ∀ j, μ.1 5 j = 0) : zpc (fX12_tell μ x) (fun r => r.2 = 1) := by
  unfold fX12_tell
  refine zpc_bv (fun s1 e1 => zpc_bv (fun s2 e2 => zpc_bv (fun s3 e3 => zpc_bv (fun s4 e4 => zpc_ck (zpc_bv (fun s5 e5 => zpc_bv (fun a ea => ?_)))))))
  have g5 : s5.1 0 5 = 0 := by subst e5; subst e4; subst e3; subst e2; subst e1; exact h5
  have g7 : s5.1 0 7 = 0 := by subst e5; subst e4; subst e3; subst e2; subst e1; exact h7
  have gz : ∀ j, s5.1 5 j = 0 := fun j => by subst e5; subst e4; subst e3; subst e2; subst e1; exact hz j
  refine zpc_bi (P := fun r => (r.2 = 255 ∨ r.2 = 0) ∧ r.1.1 0 40 = a + 1) ?_ (fun s6 v6 q6 => ?_)
  · unfold fX12_taken
    refine zpc_bi (pm_readF g5 g7 gz) (fun s6 v6 q6 => zpc_bv (fun s7 e7 => zpc_some ?_))
    have hs : s6 = s5 := by rcases q6 with e | e <;> cases e <;> rfl
    refine ⟨?_, ?_⟩
    · rcases q6 with e | e <;> cases e
      · exact Or.inl rfl
      · exact Or.inr rfl
    · subst e7
      subst hs
      show s6.1 0 40 + 1 = a + 1
      rw [ea]
      rfl
  obtain ⟨q6, c6⟩ := q6
  have q6 : v6 = 255 ∨ v6 = 0 := q6
  have c6 : s6.1 0 40 = a + 1 := c6
  have fin : ∀ s, zQ [26] [(0, 39, 39)] [] [] s6 s → zpc (fX12_tell_112 s a) (fun r => r.2 = 1) := fun s h => by
    unfold fX12_tell_112
    refine zpc_some ?_
    show s.1 0 40 - a = 1
    rw [h.1 0 40 rfl, c6, Int32.add_comm, Int32.add_sub_cancel]
  rcases q6 with e | e <;> subst e
  · refine zpc_if (fun q => absurd q (by decide)) (fun _ => zpc_if (fun q => absurd q (by decide)) (fun _ => zpc_if (fun q => absurd q (by decide)) (fun _ => zpc_if (fun q => absurd q (by decide)) (fun _ => ?_))))
    refine zpc_bu (P := zQ [26] [(0, 39, 39)] [] [] s6) ?_ (fun s h => fin s h)
    unfold fX12_sayPlain
    refine zpc_bv (fun y ey => zpc_bv (fun z ez => ?_))
    rw [show ((255 : Int32) >>> ((3 : Int32) &&& 31)) &&& 7 = 7 by decide] at ey
    rw [show (255 : Int32) &&& 7 = 7 by decide] at ez
    subst ey
    subst ez
    refine zpc_if (fun _ => ?_) (fun q => absurd (by decide) q)
    unfold fX12_sayPlain_32
    refine zpc_if (fun _ => zpc_if (fun q => absurd q (by decide)) (fun _ => zpc_if (fun _ => zpc_if (fun _ => zpc_if (fun _ => ?_) (fun q => absurd (by decide) q)) (fun q => absurd (by decide) q)) (fun q => absurd (by decide) q))) (fun q => absurd (by decide) q)
    refine zpc_bu (P := zQ [26] [(0, 39, 39)] [] [] s6) ?_ (fun s h => zpc_some h)
    unfold fX12_sayLast fX12_sayLast_55 fX12_sayLast_115
    refine zpc_bv (fun y ey => zpc_if (fun q => absurd q (by decide)) (fun _ => zpc_if (fun q => absurd q (by decide)) (fun _ => zpc_if (fun q => absurd q (by decide)) (fun _ => zpc_if (fun q => absurd q (by decide)) (fun _ => ?_)))))
    exact zpc_bu (fT_fX12_say zQ.rf) (fun s h => zpc_bu (fT_fX12_hex h) (fun s2 h2 => zpc_some h2))
  · refine zpc_if (fun q => absurd q (by decide)) (fun _ => zpc_if (fun q => absurd q (by decide)) (fun _ => zpc_if (fun q => absurd q (by decide)) (fun _ => zpc_if (fun q => absurd q (by decide)) (fun _ => ?_))))
    refine zpc_bu (P := zQ [26] [(0, 39, 39)] [] [] s6) ?_ (fun s h => fin s h)
    unfold fX12_sayPlain
    refine zpc_bv (fun y ey => zpc_bv (fun z ez => ?_))
    rw [show ((0 : Int32) >>> ((3 : Int32) &&& 31)) &&& 7 = 0 by decide] at ey
    rw [show (0 : Int32) &&& 7 = 0 by decide] at ez
    subst ey
    subst ez
    refine zpc_if (fun q => absurd q (by decide)) (fun _ => zpc_if (fun q => absurd q (by decide)) (fun _ => ?_))
    refine zpc_bu (P := zQ [26] [(0, 39, 39)] [] [] s6) ?_ (fun s h => zpc_some h)
    unfold fX12_sayZero fX12_sayZero_16 fX12_sayZero_58 fX12_sayZero_80 fX12_sayZero_301
    refine zpc_bv (fun y ey => zpc_ck (zpc_if (fun q => absurd q (by decide)) (fun _ => zpc_if (fun _ => zpc_if (fun _ => ?_) (fun q => absurd rfl q)) (fun q => absurd rfl q))))
    exact zpc_bu (fT_fX12_say zQ.rf) (fun s h => zpc_if (fun _ => zpc_if (fun _ => zpc_some h) (fun q => absurd (by decide) q)) (fun q => absurd (by decide) q))
theorem v1_tell (h : zFr k σ μ) : zp2 (fX11_tell σ x) (fX12_tell μ x) (fun r q => r.2 = q.2) := by
  obtain ⟨e1, e2⟩ := h
  subst e1
  subst e2
  exact zp2_of (pc_tell rfl rfl (fun _ => rfl)) (pm_tell rfl rfl (fun _ => rfl)) (fun a b e f => e.trans f.symm)
end ZF6
