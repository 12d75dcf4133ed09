/-! steps on fresh states: the reference -/
def zLM9 : List (Nat × Nat) := [(0, 5), (0, 7), (3, 19), (3, 23), (3, 26), (3, 27), (3, 28), (3, 47), (3, 48), (3, 66), (3, 67), (3, 89), (3, 171), (0, 3), (0, 0)]
def zJM (b l p K : Int) (μ : zSt) : Prop := (μ.1 0 5 = 0 ∧ μ.1 0 7 = 0) ∧ (μ.1 3 19 = 0 ∨ μ.1 3 19 = 56) ∧ (μ.1 3 23 = 0 ∧ μ.1 3 26 = 0 ∧ μ.1 3 27 = 0 ∧ μ.1 3 28 = 0) ∧ (μ.1 3 47 = 0 ∧ μ.1 3 48 = 0 ∧ (μ.1 3 66).toInt = l ∧ (μ.1 3 67).toInt = b) ∧ (μ.2 4 2).toInt = p ∧ μ.1 3 89 = 0 ∧ μ.1 3 171 = 0 ∧ ((μ.1 0 3 = 1 ∧ K = 313) ∨ (¬ μ.1 0 3 = 1 ∧ K = 262)) ∧ μ.1 0 0 = 0
theorem zJM.of {b l p K : Int} {μ μ' : zSt} (h : zJM b l p K μ) (e : ∀ c ∈ zLM9, μ'.1 c.1 c.2 = μ.1 c.1 c.2) (e2 : μ'.2 4 2 = μ.2 4 2) : zJM b l p K μ' := by
  unfold zJM
  rw [e (0, 5) (by decide), e (0, 7) (by decide), e (3, 19) (by decide), e (3, 23) (by decide), e (3, 26) (by decide), e (3, 27) (by decide), e (3, 28) (by decide), e (3, 47) (by decide), e (3, 48) (by decide), e (3, 66) (by decide), e (3, 67) (by decide), e (3, 89) (by decide), e (3, 171) (by decide), e (0, 3) (by decide), e (0, 0) (by decide), e2]
  exact h
theorem zJM.q {R S : List Nat} {A B : List (Nat × Nat × Nat)} {b l p K : Int} {μ μ' : zSt} (h : zJM b l p K μ) (q : zQ R A S B μ μ') (c : (zLM9.all (fun c => zcv R A c.1 c.2 == false)) = true) (d : zcv S B 4 2 = false) : zJM b l p K μ' := by
  refine h.of (fun x hx => q.1 x.1 x.2 ?_) (q.2 4 2 d)
  have := List.all_eq_true.mp c x hx
  exact eq_of_beq this
section ZJM
variable {b l p K : Int} {μ : zSt}
theorem jm_nobat (h7 : μ.1 0 7 = 0) {v : Int32} : zpc (fX12_isBattery μ v) (fun r => r = (μ, 0)) := by
  refine zpc_mono p_isBat (fun r q => ?_)
  obtain ⟨q1, q2⟩ := q
  rcases q2 with ⟨a, _⟩ | ⟨_, e⟩
  · exact absurd (a.1.symm.trans h7) (by decide)
  · exact Prod.ext q1 e
theorem pm_read0 {x : Int32} (h5 : μ.1 0 5 = 0) (h7 : μ.1 0 7 = 0) (hx : x = 0 ∨ x = 56) : zpc (fX12_read μ x) (fun r => r = (μ, 255)) := by
  unfold fX12_read
  refine zpc_bv (fun y e => ?_)
  have hy : y = 0 ∨ y = 56 := by
    rcases hx with r | r <;> subst r <;> rw [e]
    · exact Or.inl (by decide)
    · exact Or.inr (by decide)
  refine zpc_if (fun _ => zpc_bi (jm_nobat h7) (fun s v e => ?_)) (fun q => ?_)
  · cases e
    refine zpc_if (fun _ => zpc_if (fun _ => zpc_if (fun _ => zpc_some rfl) (fun q => ?_)) (fun q => absurd h7 q)) (fun q => absurd rfl q)
    rw [show zgi μ 0 5 = 0 from h5] at q
    rcases hy with r | r <;> rw [r] at q <;> exact absurd (by decide) q
  · rcases hy with r | r <;> rw [r] at q <;> exact absurd (by decide) q
theorem pm_write0 {x y : Int32} (h7 : μ.1 0 7 = 0) : zpc (fX12_write μ x y) (zQ [5] [] [] [] μ) := by
  have f : ∀ s (v w : Int32), zQ [5] [] [] [] μ s → zpc (fX12_write_31 s v w) (zQ [5] [] [] [] μ) := fun s v w h => by
    have e7 : s.1 0 7 = 0 := (h.1 0 7 rfl).trans h7
    unfold fX12_write_31
    refine zpc_bi (jm_nobat e7) (fun s1 u e => ?_)
    cases e
    unfold fX12_write_52 fX12_write_75 fX12_write_103 fX12_write_140 fX12_write_163
    rw [show zgi s 0 7 = 0 from e7]
    exact zpc_if (fun _ => zpc_if (fun q => absurd q (by decide)) (fun _ => zpc_if (fun q => absurd q (by decide)) (fun _ => zpc_if (fun q => absurd q (by decide)) (fun _ => zpc_if (fun q => absurd q (by decide)) (fun _ => zpc_some h))))) (fun q => absurd rfl q)
  unfold fX12_write
  exact zpc_bv (fun v _ => zpc_bv (fun w _ => zpc_if (fun _ => f μ v w zQ.rf) (fun _ => zpc_ck (zpc_ck (zpc_bs (I := zQ [5] [] [] [] μ) (zQ.wi zQ.rf rfl) (fun s h => f s v w h))))))
/-- as zJM, wherever the counter of the program stands -/
def zJN (b l p K : Int) (μ : zSt) : Prop := zJM b l p K (zsi μ 3 19 0)
theorem zJN.q {R S : List Nat} {A B : List (Nat × Nat × Nat)} {μ' : zSt} (h : zJN b l p K μ) (q : zQ R A S B μ μ') (c : (zLM9.all (fun c => Nat.beq c.1 3 && Nat.beq c.2 19 || zcv R A c.1 c.2 == false)) = true) (d : zcv S B 4 2 = false) : zJN b l p K μ' := by
  refine zJM.of h (fun x hx => ?_) (q.2 4 2 d)
  rw [zsi_at, zsi_at]
  by_cases e : x.1 = 3 ∧ x.2 = 19
  · rw [if_pos e, if_pos e]
  · rw [if_neg e, if_neg e]
    refine q.1 x.1 x.2 ?_
    have := List.all_eq_true.mp c x hx
    rw [Bool.or_eq_true, Bool.and_eq_true] at this
    rcases this with ⟨a1, a2⟩ | a
    · exact absurd ⟨Nat.eq_of_beq_eq_true a1, Nat.eq_of_beq_eq_true a2⟩ e
    · exact eq_of_beq a
theorem zJM.n (h : zJM b l p K μ) : zJN b l p K μ := by
  obtain ⟨a1, a3, a4, a8, a9, a10, a11, a12⟩ := h
  exact ⟨a1, Or.inl rfl, a4, a8, a9, a10, a11, a12⟩
theorem jm_call (h : zJN b l p K μ) : zpc (fX12_call μ 56) (zJM b l p K) := by
  have push : ∀ w, zpc (fX12_push μ w) (zJN b l p K) := fun w => by
    unfold fX12_push
    refine zpc_ck (zpc_ck (zpc_bs (I := zQ [] [(3, 18, 18)] [] [] μ) (zQ.wi zQ.rf rfl) (fun s1 h1 => ?_)))
    have j1 := h.q h1 (by decide) rfl
    refine zpc_ck (zpc_bu (pm_write0 (μ := s1) j1.1.2) (fun s2 h2 => ?_))
    have j2 := j1.q h2 (by decide) rfl
    refine zpc_ck (zpc_ck (zpc_bs (I := zQ [] [(3, 18, 18)] [] [] s2) (zQ.wi zQ.rf rfl) (fun s3 h3 => ?_)))
    have j3 := j2.q h3 (by decide) rfl
    exact zpc_ck (zpc_bu (pm_write0 (μ := s3) j3.1.2) (fun s4 h4 => zpc_some (j3.q h4 (by decide) rfl)))
  unfold fX12_call
  refine zpc_ck (zpc_bu (push _) (fun s1 j1 => ?_))
  refine zpc_ck (zpc_bv (fun s2 e2 => zpc_ck (zpc_bs (I := zQ [] [(3, 20, 20)] [] [] s2) (zQ.wi zQ.rf rfl) (fun s3 h3 => zpc_some ?_))))
  have j2 : zJM b l p K s2 := by
    subst e2
    obtain ⟨a1, a3, a4, a8, a9, a10, a11, a12⟩ := j1
    exact ⟨a1, Or.inr rfl, a4, a8, a9, a10, a11, a12⟩
  exact j2.q h3 (by decide) rfl
theorem jm_instr (h : zJM b l p K μ) : zpc (fX12_instruction μ ) (fun r => zJM b l p K r.1 ∧ r.2 = 11) := by
  unfold fX12_instruction
  refine zpc_bs (I := zQ [] [(0, 31, 32)] [] [] μ) (zQ.wi zQ.rf rfl) (fun s1 h1 => zpc_ck (zpc_bs (I := zQ [] [(0, 31, 32)] [] [] μ) (zQ.wi h1 rfl) (fun s2 h2 => ?_)))
  have j2 := h.q h2 (by decide) rfl
  refine zpc_bi (P := fun r => zJN b l p K r.1 ∧ r.2 = 255) ?_ (fun s3 v3 q3 => ?_)
  · unfold fX12_fetch
    refine zpc_bi (P := fun r => zJN b l p K r.1 ∧ r.2 = 255) ?_ (fun s4 v4 q4 => ?_)
    · unfold fX12_next
      refine zpc_ck (zpc_bi (pm_read0 j2.1.1 j2.1.2 j2.2.1) (fun s4 v4 e4 => ?_))
      cases e4
      refine zpc_ck (zpc_ck (zpc_bs (I := zQ [] [(3, 19, 19)] [] [] s2) (zQ.wi zQ.rf rfl) (fun s5 h5 => zpc_some ⟨j2.n.q h5 (by decide) rfl, rfl⟩)))
    · obtain ⟨j4, e4⟩ := q4
      unfold fX12_grows
      exact zpc_bu (zpc_ck (zpc_ck (zpc_ck (zpc_bs (I := zQ [] [(3, 22, 22)] [] [] s4) (zQ.wi zQ.rf rfl) (fun s5 h5 => zpc_some (zJN.q j4 h5 (by decide) rfl)))))) (fun s5 j5 => zpc_some ⟨j5, e4⟩)
  obtain ⟨j3, e3⟩ := q3
  have e3 : v3 = 255 := e3
  subst e3
  refine zpc_bi (P := fun r => zJM b l p K r.1 ∧ r.2 = 11) ?_ (fun s4 v4 q4 => zpc_some q4)
  unfold fX12_plain
  refine zpc_bv (fun y ey => zpc_bv (fun z ez => ?_))
  rw [show ((255 : Int32) >>> ((3 : Int32) &&& 31)) &&& 7 = 7 by decide] at ey
  rw [show (255 : Int32) &&& 7 = 7 by decide] at ez
  subst ey
  subst ez
  refine zpc_if (fun q => absurd q (by decide)) (fun _ => zpc_if (fun q => absurd q (by decide)) (fun _ => zpc_if (fun q => absurd q (by decide)) (fun _ => zpc_if (fun _ => ?_) (fun q => absurd (by decide) q))))
  refine zpc_bi (P := fun r => zJM b l p K r.1 ∧ r.2 = 11) ?_ (fun s5 v5 q5 => zpc_some q5)
  unfold fX12_more3
  refine zpc_bv (fun y ey => ?_)
  refine zpc_if (fun q => absurd q (by decide)) (fun _ => zpc_if (fun q => absurd q (by decide)) (fun _ => zpc_if (fun _ => ?_) (fun q => absurd rfl q)))
  rw [show (8 : Int32) * 7 = 56 by decide]
  exact zpc_bu (jm_call j3) (fun s5 j5 => zpc_some ⟨j5, rfl⟩)
theorem jm_height (h : zJM b l p K μ) : zpc (fX12_height μ ) (fun r => r = (μ, 192)) := by
  have e0 : μ.1 3 47 = 0 := h.2.2.2.1.1
  have e1 : μ.1 3 48 = 0 := h.2.2.2.1.2.1
  refine zpc_mono (p_heightM (by rw [e0]; exact zr_c (by decide)) (by rw [e1]; exact zr_c (by decide))) (fun r e => ?_)
  rw [e, e0, e1, z_ht0]
theorem jm_planned (h : μ.1 3 171 = 0) : zpc (fX12_planned μ ) (fun r => r = μ) := by
  have f : ∀ n : Nat, zpc (fX12_planned_0 (n + 1) μ ) (fun r => r = μ) := fun n => by
    show zpc (fX12_planned_0_body (fX12_planned_0 n) μ ) _
    unfold fX12_planned_0_body fX12_planned_113
    refine zpc_ck (zpc_if (fun _ => zpc_some rfl) (fun q => ?_))
    rw [show zgi μ 3 (171 : Int32).toNatClampNeg = 0 from h] at q
    exact absurd (by decide) q
  exact f 1999999
theorem jm_ends (h : zJM b l p K μ) (hl : 0 ≤ l) (hl2 : l < K) (hp : 0 ≤ p) (hp2 : p ≤ 1000000) : zpc (fX12_ends μ ) (zJM b (zl1 l K) (zp1 l p K) K) := by
  have f169 : ∀ s l1 p1, zJM b l1 p1 K s → zpc (fX12_ends_169 s 192) (zJM b l1 p1 K) := fun s l1 p1 j => by
    unfold fX12_ends_169 fX12_ends_195
    exact zpc_ck (zpc_if (fun _ => zpc_ck (zpc_ck (zpc_bs (I := zQ [] [(3, 62, 62)] [] [] s) (zQ.wi zQ.rf rfl) (fun s2 h2 => zpc_some (j.q h2 (by decide) rfl))))) (fun _ => zpc_some j))
  have f96 : ∀ s, zJM b l p K s → zpc (fX12_ends_96 s 192) (zJM b (zl1 l K) (zp1 l p K) K) := fun s j => by
    have kb : K ≤ 313 := by rcases j.2.2.2.2.2.2.2.1 with ⟨_, e⟩ | ⟨_, e⟩ <;> omega
    obtain ⟨a1, a3, a4, ⟨b0, b1, b2, b3⟩, a9, a10, a11, a12⟩ := j
    have c1 : (1 : Int32).toInt = 1 := rfl
    have t : (s.1 3 66 + 1).toInt = (s.1 3 66).toInt + (1 : Int32).toInt := z_tadd (a := 0) (b := 1000) ⟨by omega, by omega⟩ (zr_c (lo := 1) (hi := 1) (x := 1) (by decide)) (by decide)
    unfold fX12_ends_96
    refine zpc_ck (zpc_ck (zpc_bv (fun s1 e1 => zpc_ck ?_)))
    have e66 : s1.1 3 66 = s.1 3 66 + 1 := by subst e1; rfl
    have j1 : zJM b (l + 1) p K s1 := by subst e1; exact ⟨a1, a3, a4, ⟨b0, b1, by show (s.1 3 66 + 1).toInt = l + 1; omega, b3⟩, a9, a10, a11, a12⟩
    have f131 : ∀ c : Int32, c.toInt = K → zpc (fX12_ends_131 s1 192 c (zgi s1 3 (66 : Int32).toNatClampNeg)) (zJM b (zl1 l K) (zp1 l p K) K) := fun c hc => by
      unfold fX12_ends_131
      refine zpc_if (fun q => ?_) (fun q => ?_)
      · have q : s1.1 3 66 = c := q
        rw [e66] at q
        have q1 : (s.1 3 66 + 1).toInt = c.toInt := by rw [q]
        unfold zl1 zp1
        rw [if_neg (by omega), if_neg (by omega)]
        refine zpc_ck (zpc_bv (fun s2 e2 => ?_))
        have j2 : zJM b 0 p K s2 := by
          obtain ⟨a1, a3, a4, ⟨b0, b1, b2, b3⟩, a9, a10, a11, a12⟩ := j1
          subst e2
          exact ⟨a1, a3, a4, ⟨b0, b1, rfl, b3⟩, a9, a10, a11, a12⟩
        refine zpc_bi (P := fun r => r.1 = s2) ?_ (fun s3 v3 e3 => ?_)
        · unfold fX12_reg
          exact zpc_ck (zpc_some rfl)
        have e3 : s3 = s2 := e3
        subst e3
        refine zpc_ck (zpc_bs (I := zQ [] [(3, 65, 65)] [] [] s3) (zQ.wi zQ.rf rfl) (fun s4 h4 => ?_))
        have j4 := j2.q h4 (by decide) rfl
        refine zpc_ck (zpc_ck (zpc_bv (fun s5 e5 => ?_)))
        have j5 : zJM b 0 (p + 1) K s5 := by
          obtain ⟨a1, a3, a4, a8, a9, a10, a11, a12⟩ := j4
          subst e5
          refine ⟨a1, a3, a4, a8, ?_, a10, a11, a12⟩
          show (s4.2 4 2 + 1).toInt = p + 1
          have t : (s4.2 4 2 + 1).toInt = (s4.2 4 2).toInt + (1 : Int64).toInt := z_tladd (a := 0) (b := 1000000) (c := 1) (d := 1) ⟨by omega, by omega⟩ (zrl_c (by decide)) (by decide)
          rw [t, a9]
          rfl
        refine zpc_bu (jm_planned j5.2.2.2.2.2.2.1) (fun s6 e6 => ?_)
        rw [e6]
        exact f169 s5 _ _ j5
      · have q : ¬ s1.1 3 66 = c := q
        rw [e66] at q
        have q1 : ¬ (s.1 3 66 + 1).toInt = c.toInt := fun r => q (Int32.toInt_inj.mp r)
        unfold zl1 zp1
        rw [if_pos (by omega), if_pos (by omega)]
        exact f169 s1 _ _ j1
    have k0 : s1.1 0 3 = s.1 0 3 := by subst e1; rfl
    refine zpc_if (fun q => f131 313 ?_) (fun q => f131 262 ?_)
    · rcases a12.1 with ⟨_, e⟩ | ⟨n, _⟩
      · rw [e]; rfl
      · exact absurd (k0.symm.trans q) n
    · rcases a12.1 with ⟨y, _⟩ | ⟨_, e⟩
      · exact absurd (show zgi s1 0 3 = 1 from k0.trans y) q
      · rw [e]; rfl
  have f27 : ∀ s, zJM b l p K s → zpc (fX12_ends_27 s 192) (zJM b (zl1 l K) (zp1 l p K) K) := fun s j => by
    unfold fX12_ends_27
    have rg : ∀ s : zSt, zpc (fX12_reg s 10) (fun r => r.1 = s) := fun s => by
      unfold fX12_reg
      exact zpc_ck (zpc_some rfl)
    refine zpc_ck (zpc_if (fun _ => zpc_bi (rg s) (fun s1 v1 e1 => ?_)) (fun _ => ?_))
    · have e1 : s1 = s := e1
      subst e1
      exact zpc_ck (zpc_bs (I := zQ [] [(3, 64, 64)] [] [] s1) (zQ.wi zQ.rf rfl) (fun s2 h2 => f96 s2 (j.q h2 (by decide) rfl)))
    · refine zpc_ck (zpc_ck (zpc_bs (I := zQ [] [(3, 64, 64)] [] [] s) (zQ.wi zQ.rf rfl) (fun s2 h2 => zpc_ck (zpc_if (fun _ => f96 s2 (j.q h2 (by decide) rfl)) (fun _ => zpc_bi (rg s2) (fun s3 v3 e3 => ?_))))))
      have e3 : s3 = s2 := e3
      subst e3
      have j3 := j.q h2 (by decide) rfl
      refine zpc_ck (zpc_bs (I := zQ [] [(3, 64, 64)] [] [] s3) (zQ.wi zQ.rf rfl) (fun s4 h4 => ?_))
      have j4 := j3.q h4 (by decide) rfl
      exact zpc_ck (zpc_bs (I := zQ [] [(3, 63, 63)] [] [] s4) (zQ.wi zQ.rf rfl) (fun s5 h5 => f96 s5 (j4.q h5 (by decide) rfl)))
  unfold fX12_ends
  refine zpc_bi (jm_height h) (fun s v e => ?_)
  cases e
  exact zpc_ck (zpc_if (fun _ => f27 μ h) (fun _ => zpc_ck (zpc_bu (fD_fX12_draws zQ.rf) (fun s2 h2 => f27 s2 (h.q h2 (by decide) rfl)))))
theorem jm_once (h : zJM b l p K μ) (hb : 0 ≤ b) (hb2 : b < 228) (hl : 0 ≤ l) (hl2 : l < K) (hp : 0 ≤ p) (hp2 : p ≤ 1000000) : zpc (fX12_once μ ) (zJM (zbb b) (zbl1 b l K) (zbp1 b l p K) K) := by
  have f298 : ∀ (s : zSt) (x : Int64) b1 l1 p1, zJM b1 l1 p1 K s → zpc (fX12_once_298 s x) (zJM b1 l1 p1 K) := fun s x b1 l1 p1 j => zpc_mono (fW_fX12_once_298 zQ.rf) (fun r q => j.q q (by decide) rfl)
  have f229 : ∀ s, zJM b l p K s → zpc (fX12_once_229 s 11) (zJM (zbb b) (zbl1 b l K) (zbp1 b l p K) K) := fun s j => by
    unfold fX12_once_229
    refine zpc_ck (zpc_ck (zpc_bs (I := zQ [] [] [] [(4, 0, 1)] s) (zQ.wl zQ.rf rfl) (fun s1 h1 => zpc_ck (zpc_bv (fun v1 _ => zpc_ck (zpc_ck (zpc_bs (I := zQ [] [] [] [(4, 0, 1)] s) (zQ.wl h1 rfl) (fun s2 h2 => ?_))))))))
    have j2 := j.q h2 (by decide) rfl
    obtain ⟨a1, a3, a4, ⟨b0, b1, b2, b3⟩, a9, a10, a11, a12⟩ := j2
    have c11 : (11 : Int32).toInt = 11 := rfl
    have c228 : (228 : Int32).toInt = 228 := rfl
    have t : (s2.1 3 67 + 11).toInt = (s2.1 3 67).toInt + (11 : Int32).toInt := z_tadd (a := 0) (b := 227) ⟨by omega, by omega⟩ (zr_c (lo := 11) (hi := 11) (x := 11) (by decide)) (by decide)
    refine zpc_ck (zpc_ck (zpc_bv (fun s3 e3 => zpc_ck ?_)))
    have e67 : s3.1 3 67 = s2.1 3 67 + 11 := by subst e3; rfl
    have j3 : zJM (b + 11) l p K s3 := by subst e3; exact ⟨a1, a3, a4, ⟨b0, b1, b2, by show (s2.1 3 67 + 11).toInt = b + 11; omega⟩, a9, a10, a11, a12⟩
    refine zpc_if (fun q => ?_) (fun q => ?_)
    · have q1 := Int32.lt_iff_toInt_lt.mp (show s3.1 3 67 < (228 : Int32) from q)
      rw [e67] at q1
      unfold zbb zbl1 zbp1
      rw [if_pos (by omega), if_pos (by omega), if_pos (by omega)]
      exact f298 s3 _ _ _ _ j3
    · have q1 := Int32.le_iff_toInt_le.mp (z_nlt (show ¬ s3.1 3 67 < (228 : Int32) from q))
      have q2 := q1
      rw [e67] at q1
      unfold zbb zbl1 zbp1
      rw [if_neg (by omega), if_neg (by omega), if_neg (by omega)]
      refine zpc_ck (zpc_ck (zpc_bv (fun s4 e4 => ?_)))
      have j4 : zJM (b + 11 - 228) l p K s4 := by
        obtain ⟨a1, a3, a4, ⟨b0, b1, b2, b3⟩, a9, a10, a11, a12⟩ := j3
        have t2 : (s3.1 3 67 - 228).toInt = (s3.1 3 67).toInt - (228 : Int32).toInt := z_tsub (a := 0) (b := 300) ⟨by omega, by omega⟩ (zr_c (lo := 228) (hi := 228) (x := 228) (by decide)) (by decide)
        subst e4
        exact ⟨a1, a3, a4, ⟨b0, b1, b2, by show (s3.1 3 67 - 228).toInt = b + 11 - 228; omega⟩, a9, a10, a11, a12⟩
      exact zpc_bu (jm_ends j4 hl hl2 hp hp2) (fun s5 j5 => f298 s5 _ _ _ _ j5)
  have f204 : ∀ s, zJM b l p K s → zpc (fX12_once_204 s ) (zJM (zbb b) (zbl1 b l K) (zbp1 b l p K) K) := fun s j => by
    unfold fX12_once_204
    refine zpc_ck (zpc_if (fun q => absurd ((show s.1 3 26 = 1 from q).symm.trans j.2.2.1.2.1) (by decide)) (fun _ => zpc_bi (jm_instr j) (fun s1 v1 q1 => ?_)))
    obtain ⟨j1, e1⟩ := q1
    have e1 : v1 = 11 := e1
    subst e1
    exact f229 s1 j1
  unfold fX12_once
  refine zpc_ck (zpc_ck (zpc_ck (zpc_bs (I := zQ [21] [] [0] [] μ) (zQ.wi zQ.rf rfl) (fun s1 h1 => zpc_bs (I := zQ [21] [] [0] [] μ) (zQ.wl h1 rfl) (fun s2 h2 => zpc_ck ?_)))))
  have j2 := h.q h2 (by decide) rfl
  refine zpc_if (fun _ => ?_) (fun q => absurd (show zgi s2 3 (27 : Int32).toNatClampNeg = 0 from j2.2.2.1.2.2.1) q)
  unfold fX12_once_46
  refine zpc_ck (zpc_bv (fun s3 e3 => zpc_ck ?_))
  have j3 : zJM b l p K s3 := by
    obtain ⟨a1, a3, ⟨c1, c2, c3, c4⟩, a8, a9, a10, a11, a12⟩ := j2
    subst e3
    exact ⟨a1, a3, ⟨c1, c2, rfl, c4⟩, a8, a9, a10, a11, a12⟩
  refine zpc_if (fun q => absurd ((show s3.1 3 28 = 1 from q).symm.trans j3.2.2.1.2.2.2) (by decide)) (fun _ => ?_)
  unfold fX12_once_102
  exact zpc_ck (zpc_if (fun q => absurd ((show s3.1 3 23 = 1 from q).symm.trans j3.2.2.1.1) (by decide)) (fun _ => f204 s3 j3))
end ZJM
