/-! steps on fresh states: the class's line and clock -/
theorem z_ht0 : zht 0 0 = 192 := by decide
section ZJC2
variable {b l p K : Int} {σ : zSt}
/-- one line more -/
def zl1 (l K : Int) : Int := if l + 1 < K then l + 1 else 0
def zp1 (l p K : Int) : Int := if l + 1 < K then p else p + 1
theorem jc_plans (h : σ.1 42 769 = 0) {x : Int64} : zpc (fX1_carryOutPlans σ x) (fun r => r = σ) := by
  have f : ∀ n : Nat, zpc (fX1_carryOutPlans_3 (n + 1) σ x 0) (fun r => r = σ) := fun n => by
    show zpc (fX1_carryOutPlans_3_body (fX1_carryOutPlans_3 n) σ x 0) _
    unfold fX1_carryOutPlans_3_body fX1_carryOutPlans_107
    refine zpc_if (fun _ => zpc_some rfl) (fun _ => zpc_ck (zpc_if (fun _ => zpc_some rfl) (fun q => ?_)))
    rw [show zgi σ 42 (769 : Int32).toNatClampNeg = 0 from h] at q
    exact absurd (by decide) q
  exact f 1999999
theorem jc_height (h : zJC b l p K σ) : zpc (fX9_height σ ) (fun r => r = (σ, 192)) := by
  have e0 : σ.1 23 0 = 0 := h.2.2.2.1.1
  have e1 : σ.1 23 1 = 0 := h.2.2.2.1.2.1
  refine zpc_mono (p_heightC (by rw [e0]; exact zr_c (by decide)) (by rw [e1]; exact zr_c (by decide))) (fun r e => ?_)
  rw [e, e0, e1, z_ht0]
theorem jc_next (h : zJC b l p K σ) (hK : K ≤ 1000) (hl : 0 ≤ l) (hl2 : l < K) : zpc (fX9_goesToNextLine σ ) (fun r => (l + 1 < K ∧ r.2 = 0 ∧ zJC b (l + 1) p K r.1) ∨ (K ≤ l + 1 ∧ r.2 = 1 ∧ zJC b 0 p K r.1)) := by
  have h' := h
  unfold fX9_goesToNextLine
  refine zpc_bi (jc_height h) (fun s v e => ?_)
  cases e
  -- from the line's count on
  have f76 : ∀ s, zJC b l p K s → zpc (fX9_goesToNextLine_76 s 192) (fun r => (l + 1 < K ∧ r.2 = 0 ∧ zJC b (l + 1) p K r.1) ∨ (K ≤ l + 1 ∧ r.2 = 1 ∧ zJC b 0 p K r.1)) := fun s j => by
    have f133 : ∀ (s1 : zSt) (x : Int32) (l1 : Int), zJC b l1 p K s1 → zpc (fX9_goesToNextLine_133 s1 192 x) (fun r => r.2 = x ∧ zJC b l1 p K r.1) := fun s1 x l1 j1 => by
      unfold fX9_goesToNextLine_133 fX9_goesToNextLine_159
      refine zpc_ck (zpc_if (fun _ => zpc_ck (zpc_ck (zpc_bs (I := zQ [] [(23, 15, 15)] [] [] s1) (zQ.wi zQ.rf rfl) (fun s2 h2 => zpc_ck (zpc_some ⟨rfl, j1.q h2 (by decide) rfl⟩))))) (fun _ => zpc_ck (zpc_some ⟨rfl, j1⟩)))
    unfold fX9_goesToNextLine_76 fX9_goesToNextLine_106
    refine zpc_ck (zpc_ck (zpc_bv (fun s4 e4 => zpc_ck ?_)))
    obtain ⟨a1, a3, a4, ⟨b0, b1, b2, b3⟩, a9, a10, a11, a12⟩ := j
    have c1 : (1 : Int32).toInt = 1 := rfl
    have t : (s.1 23 20 + 1).toInt = (s.1 23 20).toInt + (1 : Int32).toInt := z_tadd (a := 0) (b := 1000) ⟨by omega, by omega⟩ (zr_c (lo := 1) (hi := 1) (x := 1) (by decide)) (by decide)
    have e20 : s4.1 23 20 = s.1 23 20 + 1 := by subst e4; rfl
    have j4 : zJC b (l + 1) p K s4 := by subst e4; exact ⟨a1, a3, a4, ⟨b0, b1, by show (s.1 23 20 + 1).toInt = l + 1; omega, b3⟩, a9, a10, a11, a12⟩
    have e21 : s4.1 2 1 = s.1 2 1 := by subst e4; rfl
    refine zpc_if (fun q => zpc_if (fun _ => ?_) (fun r => absurd rfl r)) (fun q => zpc_if (fun r => absurd r (by decide)) (fun _ => ?_))
    · have q : s4.1 23 20 < s4.1 2 1 := q
      have q1 := Int32.lt_iff_toInt_lt.mp q
      rw [e20, e21] at q1
      exact zpc_mono (f133 s4 0 (l + 1) j4) (fun r e => Or.inl ⟨by omega, e.1, e.2⟩)
    · have q : ¬ s4.1 23 20 < s4.1 2 1 := q
      have q1 := Int32.le_iff_toInt_le.mp (z_nlt q)
      rw [e20, e21] at q1
      refine zpc_ck (zpc_bv (fun s5 e5 => zpc_ck (zpc_ck (zpc_bs (I := zQ [] [(23, 19, 19)] [] [] s5) (zQ.wi zQ.rf rfl) (fun s6 h6 => ?_)))))
      have j5 : zJC b 0 p K s5 := by
        obtain ⟨a1, a3, a4, ⟨b0, b1, b2, b3⟩, a9, a10, a11, a12⟩ := j4
        subst e5
        exact ⟨a1, a3, a4, ⟨b0, b1, rfl, b3⟩, a9, a10, a11, a12⟩
      exact zpc_mono (f133 s6 1 0 (j5.q h6 (by decide) rfl)) (fun r e => Or.inr ⟨by omega, e.1, e.2⟩)
  refine zpc_ck (zpc_if (fun _ => ?_) (fun _ => ?_))
  · refine zpc_ck (zpc_ck (zpc_bs (I := zQ [] [(23, 18, 18)] [] [] σ) (zQ.wi zQ.rf rfl) (fun s1 h1 => zpc_ck (zpc_if (fun _ => f76 s1 (h.q h1 (by decide) rfl)) (fun _ => ?_)))))
    have j1 := h.q h1 (by decide) rfl
    refine zpc_ck (zpc_ck (zpc_bs (I := zQ [] [(23, 18, 18)] [] [] s1) (zQ.wi zQ.rf rfl) (fun s2 h2 => ?_)))
    have j2 := j1.q h2 (by decide) rfl
    exact zpc_ck (zpc_bs (I := zQ [] [(23, 16, 16)] [] [] s2) (zQ.wi zQ.rf rfl) (fun s3 h3 => f76 s3 (j2.q h3 (by decide) rfl)))
  · exact zpc_ck (zpc_ck (zpc_bs (I := zQ [] [(23, 18, 18)] [] [] σ) (zQ.wi zQ.rf rfl) (fun s1 h1 => f76 s1 (h.q h1 (by decide) rfl))))
theorem jc_end (h : zJC b l p K σ) (hK : K ≤ 1000) (hl : 0 ≤ l) (hl2 : l < K) (hp : 0 ≤ p) (hp2 : p ≤ 1000000) : zpc (fX11_endLine σ ) (zJC b (zl1 l K) (zp1 l p K) K) := by
  have f26 : ∀ s, zJC b l p K s → zpc (fX11_endLine_26 s ) (zJC b (zl1 l K) (zp1 l p K) K) := fun s j => by
    unfold fX11_endLine_26 fX11_endLine_62
    refine zpc_bi (jc_next j hK hl hl2) (fun s1 v q => ?_)
    rcases q with ⟨q1, q2, q3⟩ | ⟨q1, q2, q3⟩
    · have q2 : v = 0 := q2
      refine zpc_if (fun _ => zpc_some ?_) (fun r => absurd q2 r)
      unfold zl1 zp1
      rw [if_pos q1, if_pos q1]
      exact q3
    · have q2 : v = 1 := q2
      refine zpc_if (fun r => absurd (q2.symm.trans r) (by decide)) (fun _ => ?_)
      unfold zl1 zp1
      rw [if_neg (by omega), if_neg (by omega)]
      refine zpc_bu (P := zJC b 0 (p + 1) K) ?_ (fun s2 j2 => ?_)
      · unfold fX0_countPicture
        refine zpc_ck (zpc_ck (zpc_bv (fun s2 e2 => zpc_some ?_)))
        have q3 : zJC b 0 p K s1 := q3
        obtain ⟨a1, a3, a4, a8, a9, a10, a11, a12⟩ := q3
        subst e2
        refine ⟨a1, a3, a4, a8, ?_, a10, a11, a12⟩
        show (s1.2 38 2 + 1).toInt = p + 1
        have t : (s1.2 38 2 + 1).toInt = (s1.2 38 2).toInt + (1 : Int64).toInt := z_tladd (a := 0) (b := 1000000) (c := 1) (d := 1) ⟨by omega, by omega⟩ (zrl_c (by decide)) (by decide)
        rw [t, a9]
        rfl
      · refine zpc_bll (P := fun r => r.1 = s2) ?_ (fun s3 v3 e3 => ?_)
        · unfold fX0_count fX0_count_19 fX0_count_20
          exact zpc_if (fun _ => zpc_some rfl) (fun _ => zpc_if (fun _ => zpc_some rfl) (fun _ => zpc_ck (zpc_some rfl)))
        · have e3 : s3 = s2 := e3
          subst e3
          refine zpc_bu (jc_plans j2.2.2.2.2.2.2.1) (fun s4 e4 => zpc_some ?_)
          rw [e4]
          exact j2
  unfold fX11_endLine
  refine zpc_bi (P := fun r => r.1 = σ) ?_ (fun s v e => ?_)
  · unfold fX9_held fX9_held_19 fX9_held_20
    exact zpc_if (fun _ => zpc_some rfl) (fun _ => zpc_if (fun _ => zpc_some rfl) (fun _ => zpc_ck (zpc_some rfl)))
  have e : s = σ := e
  subst e
  refine zpc_bi (jc_height h) (fun s1 v1 e1 => ?_)
  cases e1
  refine zpc_if (fun _ => f26 _ h) (fun _ => zpc_bu (fd_fX3_draw zQ.rf) (fun s2 h2 => f26 s2 (h.q h2 (by decide) rfl)))
/-- where the beam is behind 11 beats more -/
def zbb (b : Int) : Int := if b + 11 < 228 then b + 11 else b + 11 - 228
def zbl1 (b l K : Int) : Int := if b + 11 < 228 then l else zl1 l K
def zbp1 (b l p K : Int) : Int := if b + 11 < 228 then p else zp1 l p K
theorem jc_pass (h : zJC b l p K σ) {x : Int32} : zpc (fX0_pass σ x) (zJC b l p K) := zpc_mono (fp_fX0_pass zQ.rf) (fun r q => h.q q (by decide) rfl)
/-- one step of the class, whatever comes behind it -/
theorem jc_step {β : Type} {pm : Option β} {Q : zSt × Int32 → β → Prop} {k : zSt → Int32 → Int64 → Int32 → Option (zSt × Int32)} {x1 x5 x6 : Int32} {x3 : Int64} (h : zJC b l p K σ) (hK : K ≤ 1000) (hb : 0 ≤ b) (hb2 : b < 228) (hl : 0 ≤ l) (hl2 : l < K) (hp : 0 ≤ p) (hp2 : p ≤ 1000000) (hk : ∀ s, zJC (zbb b) (zbl1 b l K) (zbp1 b l p K) K s → zp2 (k s x1 x3 (x5 + 1)) pm Q) : zp2 (fX11_run_65 k σ x1 x3 x5 x6) pm Q := by
  have last : ∀ s, zJC (zbb b) (zbl1 b l K) (zbp1 b l p K) K s → zp2 (fX11_run_120 k s x1 x3 x5 11) pm Q := fun s j => by
    unfold fX11_run_120
    refine zp2_bul (jc_pass j) (fun s1 j1 => zp2_bvl (fun v e => ?_))
    subst e
    exact hk s1 j1
  have tail : ∀ s, zJC b l p K s → zp2 (fX11_run_104 k s x1 x3 x5 11) pm Q := fun s j => by
    unfold fX11_run_104
    refine zp2_bil (P := fun r => (b + 11 < 228 ∧ r.2 = 0 ∧ zJC (b + 11) l p K r.1) ∨ (228 ≤ b + 11 ∧ r.2 = 1 ∧ zJC (b + 11 - 228) l p K r.1)) ?_ (fun s1 v q => ?_)
    · unfold fX9_passes
      obtain ⟨a1, a3, a4, ⟨b0, b1, b2, b3⟩, a9, a10, a11, a12⟩ := j
      have c11 : (11 : Int32).toInt = 11 := rfl
      have c228 : (228 : Int32).toInt = 228 := rfl
      have t : (s.1 23 21 + 11).toInt = (s.1 23 21).toInt + (11 : Int32).toInt := z_tadd (a := 0) (b := 227) ⟨by omega, by omega⟩ (zr_c (lo := 11) (hi := 11) (x := 11) (by decide)) (by decide)
      refine zpc_ck (zpc_ck (zpc_bv (fun s1 e1 => zpc_ck ?_)))
      have e21 : s1.1 23 21 = s.1 23 21 + 11 := by subst e1; rfl
      have j1 : zJC (b + 11) l p K s1 := by subst e1; exact ⟨a1, a3, a4, ⟨b0, b1, b2, by show (s.1 23 21 + 11).toInt = b + 11; omega⟩, a9, a10, a11, a12⟩
      refine zpc_if (fun q => zpc_ck (zpc_ck (zpc_bv (fun s2 e2 => zpc_ck (zpc_some (Or.inr ⟨?_, rfl, ?_⟩)))))) (fun q => zpc_ck (zpc_some (Or.inl ⟨?_, rfl, j1⟩)))
      · have q1 := Int32.le_iff_toInt_le.mp (show (228 : Int32) ≤ s1.1 23 21 from q)
        rw [e21] at q1
        omega
      · obtain ⟨a1, a3, a4, ⟨b0, b1, b2, b3⟩, a9, a10, a11, a12⟩ := j1
        have q1 := Int32.le_iff_toInt_le.mp (show (228 : Int32) ≤ s1.1 23 21 from q)
        have t2 : (s1.1 23 21 - 228).toInt = (s1.1 23 21).toInt - (228 : Int32).toInt := z_tsub (a := 0) (b := 300) ⟨by omega, by omega⟩ (zr_c (lo := 228) (hi := 228) (x := 228) (by decide)) (by decide)
        subst e2
        exact ⟨a1, a3, a4, ⟨b0, b1, b2, by show (s1.1 23 21 - 228).toInt = b + 11 - 228; omega⟩, a9, a10, a11, a12⟩
      · have q1 := Int32.lt_iff_toInt_lt.mp (z_nle (show ¬ (228 : Int32) ≤ s1.1 23 21 from q))
        rw [e21] at q1
        omega
    · rcases q with ⟨q1, q2, q3⟩ | ⟨q1, q2, q3⟩
      · have q2 : v = 0 := q2
        refine zp2_ifl (fun _ => last s1 ?_) (fun r => absurd q2 r)
        unfold zbb zbl1 zbp1
        rw [if_pos q1, if_pos q1, if_pos q1]
        exact q3
      · have q2 : v = 1 := q2
        refine zp2_ifl (fun r => absurd (q2.symm.trans r) (by decide)) (fun _ => zp2_bul (jc_end q3 hK hl hl2 hp hp2) (fun s2 j2 => last s2 ?_))
        unfold zbb zbl1 zbp1
        rw [if_neg (by omega), if_neg (by omega), if_neg (by omega)]
        exact j2
  unfold fX11_run_65
  refine zp2_bul (jc_note h) (fun s1 j1 => zp2_bil (P := fun r => r.1 = s1) ?_ (fun s2 v2 e2 => ?_))
  · exact zpc_mono p_asksC (fun r e => by rw [e])
  have e2 : s2 = s1 := e2
  subst e2
  refine zp2_bil (jc_answer j1) (fun s3 v3 q3 => ?_)
  obtain ⟨j3, e3⟩ := q3
  have e3 : v3 = 0 := e3
  refine zp2_ifl (fun _ => zp2_bil (jc_carry j3) (fun s4 v4 q4 => ?_)) (fun r => absurd e3 r)
  obtain ⟨j4, e4⟩ := q4
  have e4 : v4 = 11 := e4
  subst e4
  exact tail s4 j4
end ZJC2
