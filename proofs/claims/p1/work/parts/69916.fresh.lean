/-! steps on fresh states: RST 38h for ever. The class -/
def zLC9 : List (Nat × Nat) := [(1, 4), (1, 6), (36, 19), (36, 23), (36, 26), (36, 27), (36, 28), (23, 0), (23, 1), (23, 20), (23, 21), (40, 8), (42, 769), (2, 1)]
def zJC (b l p K : Int) (σ : zSt) : Prop := (σ.1 1 4 = 0 ∧ σ.1 1 6 = 0) ∧ (σ.1 36 19 = 0 ∨ σ.1 36 19 = 56) ∧ (σ.1 36 23 = 0 ∧ σ.1 36 26 = 0 ∧ σ.1 36 27 = 0 ∧ σ.1 36 28 = 0) ∧ (σ.1 23 0 = 0 ∧ σ.1 23 1 = 0 ∧ (σ.1 23 20).toInt = l ∧ (σ.1 23 21).toInt = b) ∧ (σ.2 38 2).toInt = p ∧ σ.1 40 8 = 0 ∧ σ.1 42 769 = 0 ∧ (σ.1 2 1).toInt = K
theorem zJC.of {b l p K : Int} {σ σ' : zSt} (h : zJC b l p K σ) (e : ∀ c ∈ zLC9, σ'.1 c.1 c.2 = σ.1 c.1 c.2) (e2 : σ'.2 38 2 = σ.2 38 2) : zJC b l p K σ' := by
  unfold zJC
  rw [e (1, 4) (by decide), e (1, 6) (by decide), e (36, 19) (by decide), e (36, 23) (by decide), e (36, 26) (by decide), e (36, 27) (by decide), e (36, 28) (by decide), e (23, 0) (by decide), e (23, 1) (by decide), e (23, 20) (by decide), e (23, 21) (by decide), e (40, 8) (by decide), e (42, 769) (by decide), e (2, 1) (by decide), e2]
  exact h
theorem zJC.q {R S : List Nat} {A B : List (Nat × Nat × Nat)} {b l p K : Int} {σ σ' : zSt} (h : zJC b l p K σ) (q : zQ R A S B σ σ') (c : (zLC9.all (fun c => zcv R A c.1 c.2 == false)) = true) (d : zcv S B 38 2 = false) : zJC b l p K σ' := by
  refine h.of (fun x hx => q.1 x.1 x.2 ?_) (q.2 38 2 d)
  have := List.all_eq_true.mp c x hx
  exact eq_of_beq this
theorem zp2_bll {α β : Type} {o : Option (zSt × Int64)} {p : Option β} {f : zSt → Int64 → Option α} {P : zSt × Int64 → Prop} {Q : α → β → Prop} (h : zpc o P) (k : ∀ σ v, P (σ, v) → zp2 (f σ v) p Q) : zp2 (zbl o f) p Q := by
  cases o with
  | none => exact zp2_nl
  | some a => exact k a.1 a.2 (h a rfl)
theorem zp2_bur {α β : Type} {o : Option α} {p : Option zSt} {f : zSt → Option β} {P : zSt → Prop} {Q : α → β → Prop} (h : zpc p P) (k : ∀ σ, P σ → zp2 o (f σ) Q) : zp2 o (zbu p f) Q := by
  cases p with
  | none => exact zp2_nr
  | some a => exact k a (h a rfl)
theorem zcv_mono {R : List Nat} {A : List (Nat × Nat × Nat)} {k j : Nat} (c : zcv R A k j = false) : zcv R [] k j = false := by
  unfold zcv at c ⊢
  rw [Bool.or_eq_false_iff] at c
  rw [c.1]
  rfl
section ZJC
variable {b l p K : Int} {σ : zSt}
theorem jc_note (h : zJC b l p K σ) {x : Int32} : zpc (fX1_noteStep σ x) (zJC b l p K) := by
  unfold fX1_noteStep
  refine zpc_ck (zpc_bs (I := zQ [44, 9] [] [] [] σ) (zQ.wi zQ.rf rfl) (fun s1 h1 => zpc_bs (I := zQ [44, 9] [] [] [] σ) (zQ.wi h1 rfl) (fun s2 h2 => zpc_some ?_)))
  exact h.q h2 (by decide) rfl
theorem jc_answer (h : zJC b l p K σ) {x : Int32} : zpc (fX5_answerCalls σ x) (fun r => zJC b l p K r.1 ∧ r.2 = 0) := by
  have h' := h
  obtain ⟨⟨a1, a2⟩, a3, ⟨a4, a5, a6, a7⟩, a8, a9, a10, a11, a12⟩ := h
  have k : zJC b l p K (zsi σ 36 28 0) := by
    refine h'.of (fun c hc => ?_) rfl
    rw [zsi_at]
    by_cases q : c.1 = 36 ∧ c.2 = 28
    · rw [if_pos q, q.1, q.2, a7]
    · rw [if_neg q]
  unfold fX5_answerCalls fX5_answerCalls_15 fX5_answerCalls_64 fX5_answerCalls_82
  refine zpc_ck (zpc_if (fun _ => zpc_ck (zpc_bv (fun s e => ?_))) (fun q => absurd a7 q))
  subst e
  refine zpc_if (fun q => absurd q (by decide)) (fun _ => zpc_ck (zpc_if (fun q => ?_) (fun _ => zpc_if (fun q => absurd q (by decide)) (fun _ => zpc_if (fun _ => zpc_some ⟨k, rfl⟩) (fun _ => zpc_ck (zpc_if (fun _ => zpc_some ⟨k, rfl⟩) (fun q => ?_)))))))
  · have q : σ.1 36 27 = 1 := q
    rw [a6] at q
    exact absurd q (by decide)
  · exact absurd (show σ.1 36 23 = 0 from a4) q
/-- nothing is there to be read: 255 -/
theorem pc_read0 {x : Int32} (h4 : σ.1 1 4 = 0) (h6 : σ.1 1 6 = 0) (hx : x = 0 ∨ x = 56) : zpc (fX2_read σ x) (fun r => r = (σ, 255)) := by
  have hz : ∀ y : Int32, y = 0 ∨ y = 56 → zpc (fX2_read_144 σ y) (fun r => r = (σ, 255)) := fun y hy => by
    unfold fX2_read_144 fX2_read_169
    refine zpc_if (fun _ => zpc_some rfl) (fun q => ?_)
    rw [show zgi σ 1 4 = 0 from h4] at q
    rcases hy with e | e <;> subst e <;> exact absurd (by decide) q
  unfold fX2_read
  refine zpc_bv (fun y e => ?_)
  have hy : y = 0 ∨ y = 56 := by
    rcases hx with r | r <;> subst r <;> rw [e]
    · exact Or.inl (by decide)
    · exact Or.inr (by decide)
  refine zpc_if (fun _ => zpc_if (fun _ => hz y hy) (fun q => absurd h6 q)) (fun q => ?_)
  rcases hy with r | r <;> rw [r] at q <;> exact absurd (by decide) q
theorem pc_write0 {x y : Int32} (h6 : σ.1 1 6 = 0) : zpc (fX2_write σ x y) (zQ [15] [] [] [] σ) := by
  have f : ∀ s (v : Int32), zQ [15] [] [] [] σ s → zpc (fX2_write_22 s y v) (zQ [15] [] [] [] σ) := fun s v h => by
    have e6 : s.1 1 6 = 0 := (h.1 1 6 rfl).trans h6
    unfold fX2_write_22 fX2_write_130 fX2_write_151
    rw [show zgi s 1 6 = 0 from e6]
    exact zpc_if (fun q => absurd q (by decide)) (fun _ => zpc_if (fun q => absurd q (by decide)) (fun _ => zpc_if (fun q => absurd q (by decide)) (fun _ => zpc_some h)))
  unfold fX2_write
  exact zpc_bv (fun v _ => zpc_if (fun _ => f σ v zQ.rf) (fun _ => zpc_ck (zpc_bs (I := zQ [15] [] [] [] σ) (zQ.wi zQ.rf rfl) (fun s h => f s v h))))
theorem jc_push (h : zJC b l p K σ) {x : Int32} : zpc (fX5_push σ x) (zJC b l p K) := by
  unfold fX5_push
  refine zpc_ck (zpc_bu (pc_write0 h.1.2) (fun s1 h1 => ?_))
  have j1 := h.q h1 (by decide) rfl
  refine zpc_ck (zpc_bu (pc_write0 j1.1.2) (fun s2 h2 => ?_))
  have j2 := j1.q h2 (by decide) rfl
  refine zpc_ck (zpc_ck (zpc_bs (I := zQ [] [(36, 18, 18)] [] [] s2) (zQ.wi zQ.rf rfl) (fun s3 h3 => zpc_some ?_)))
  exact j2.q h3 (by decide) rfl
theorem jc_go (h : zJC b l p K σ) : zpc (fX5_goTo σ 56) (zJC b l p K) := by
  unfold fX5_goTo
  refine zpc_ck (zpc_bv (fun s1 e1 => zpc_ck (zpc_bs (I := zQ [] [(36, 20, 20)] [] [] s1) (zQ.wi zQ.rf rfl) (fun s2 h2 => zpc_some ?_))))
  have j1 : zJC b l p K s1 := by
    subst e1
    obtain ⟨a1, a3, a4, a8, a9, a10, a11, a12⟩ := h
    exact ⟨a1, Or.inr rfl, a4, a8, a9, a10, a11, a12⟩
  exact j1.q h2 (by decide) rfl
theorem jc_carry (h : zJC b l p K σ) : zpc (fX5_carryOn σ ) (fun r => zJC b l p K r.1 ∧ r.2 = 11) := by
  have a5 := h.2.2.1.2.1
  unfold fX5_carryOn
  refine zpc_ck (zpc_if (fun q => absurd ((show σ.1 36 26 = 1 from q).symm.trans a5) (by decide)) (fun _ => ?_))
  refine zpc_bs (I := zQ [7] [] [] [] σ) (zQ.wi zQ.rf rfl) (fun s1 h1 => ?_)
  refine zpc_bi (P := fun r => r.1 = s1) ?_ (fun s2 v2 e2 => ?_)
  · unfold fX5_pairAt
    exact zpc_ck (zpc_ck (zpc_some rfl))
  have e2 : s2 = s1 := e2
  subst e2
  refine zpc_bs (I := zQ [7] [] [] [] σ) (zQ.wi h1 rfl) (fun s3 h3 => ?_)
  have j3 := h.q h3 (by decide) rfl
  refine zpc_bi (P := fun r => zJC b l p K (zsi r.1 36 19 0) ∧ r.2 = 255) ?_ (fun s4 v4 q4 => ?_)
  · unfold fX5_fetchOp fX5_growR
    refine zpc_bu (P := zJC b l p K) (zpc_ck (zpc_ck (zpc_ck (zpc_bs (I := zQ [] [(36, 22, 22)] [] [] s3) (zQ.wi zQ.rf rfl) (fun s5 h5 => zpc_some (j3.q h5 (by decide) rfl)))))) (fun s5 j5 => ?_)
    refine zpc_bi (P := fun r => zJC b l p K (zsi r.1 36 19 0) ∧ r.2 = 255) ?_ (fun s6 v6 q6 => zpc_some q6)
    unfold fX5_fetch
    refine zpc_ck (zpc_bi (pc_read0 j5.1.1 j5.1.2 j5.2.1) (fun s6 v6 e6 => ?_))
    cases e6
    refine zpc_ck (zpc_ck (zpc_bv (fun s7 e7 => zpc_some ⟨?_, rfl⟩)))
    subst e7
    obtain ⟨a1, a3, a4, a8, a9, a10, a11, a12⟩ := j5
    exact ⟨a1, Or.inl rfl, a4, a8, a9, a10, a11, a12⟩
  obtain ⟨j4, e4⟩ := q4
  have e4 : v4 = 255 := e4
  subst e4
  refine zpc_if (fun q => absurd q (by decide)) (fun _ => zpc_if (fun q => absurd q (by decide)) (fun _ => ?_))
  unfold fX5_carryOn_141
  refine zpc_if (fun q => absurd q (by decide)) (fun _ => zpc_if (fun q => absurd q (by decide)) (fun _ => zpc_if (fun q => absurd q (by decide)) (fun _ => zpc_if (fun q => absurd q (by decide)) (fun _ => zpc_if (fun q => absurd q (by decide)) (fun _ => zpc_if (fun q => absurd q (by decide)) (fun _ => ?_))))))
  refine zpc_bi (P := fun r => zJC b l p K r.1 ∧ r.2 = 11) ?_ (fun s8 v8 q8 => ?_)
  · unfold fX5_lastQuarter
    refine zpc_bv (fun y ey => ?_)
    rw [show ((255 : Int32) >>> ((3 : Int32) &&& 31)) &&& 7 = 7 by decide] at ey
    subst ey
    refine zpc_if (fun q => absurd q (by decide)) (fun _ => zpc_if (fun q => absurd q (by decide)) (fun _ => zpc_if (fun q => absurd q (by decide)) (fun _ => zpc_if (fun q => absurd q (by decide)) (fun _ => zpc_if (fun q => absurd q (by decide)) (fun _ => zpc_if (fun q => absurd q (by decide)) (fun _ => zpc_if (fun q => absurd q (by decide)) (fun _ => ?_)))))))
    unfold fX5_lastQuarter_196
    -- the push does not ask where the counter stands
    have jp : ∀ w, zpc (fX5_push s4 w) (fun r => zJC b l p K (zsi r 36 19 0)) := fun w => by
      have e6 : s4.1 1 6 = 0 := j4.1.2
      unfold fX5_push
      refine zpc_ck (zpc_bu (pc_write0 e6) (fun s5 h5 => ?_))
      have e6' : s5.1 1 6 = 0 := (h5.1 1 6 rfl).trans e6
      refine zpc_ck (zpc_bu (pc_write0 e6') (fun s6 h6 => ?_))
      refine zpc_ck (zpc_ck (zpc_bs (I := zQ [15] [(36, 18, 18)] [] [] s4) ?_ (fun s7 h7 => zpc_some ?_)))
      · exact zQ.wi (zQ.tr (⟨fun i j c => h5.1 i j (zcv_mono c), fun i j c => h5.2 i j c⟩) (⟨fun i j c => h6.1 i j (zcv_mono c), fun i j c => h6.2 i j c⟩)) rfl
      · refine j4.of (fun c hc => ?_) (h7.2 38 2 rfl)
        rw [zsi_at, zsi_at]
        by_cases q : c.1 = 36 ∧ c.2 = 19
        · rw [if_pos q, if_pos q]
        · rw [if_neg q, if_neg q]
          exact h7.1 c.1 c.2 (eq_of_beq (List.all_eq_true.mp (show (zLC9.all (fun c => zcv [15] [(36, 18, 18)] c.1 c.2 == false)) = true by decide) c hc))
    refine zpc_ck (zpc_bu (jp _) (fun s5 j5 => ?_))
    rw [show (8 : Int32) * 7 = 56 by decide]
    refine zpc_bu (P := zJC b l p K) ?_ (fun s6 j6 => zpc_some ⟨j6, rfl⟩)
    unfold fX5_goTo
    refine zpc_ck (zpc_bv (fun s6 e6 => zpc_ck (zpc_bs (I := zQ [] [(36, 20, 20)] [] [] s6) (zQ.wi zQ.rf rfl) (fun s7 h7 => zpc_some ?_))))
    have j6 : zJC b l p K s6 := by
      subst e6
      obtain ⟨a1, a3, a4, a8, a9, a10, a11, a12⟩ := j5
      exact ⟨a1, Or.inr rfl, a4, a8, a9, a10, a11, a12⟩
    exact j6.q h7 (by decide) rfl
  · obtain ⟨j8, e8⟩ := q8
    have e8 : v8 = 11 := e8
    subst e8
    unfold fX5_carryOn_275
    exact zpc_some ⟨j8, show (0 : Int32) + 11 = 11 by decide⟩
end ZJC
