/-! PICTURE; STEP AND PICTURE AS CALLS -/
section ZPI
variable {R R' S S' : List Nat} {A A' D D' : List (Nat × Nat × Nat)} {σ μ σ' μ' s t : zSt} {B : Int × Int × Int}
def zoC (R : List Nat) (A : List (Nat × Nat × Nat)) (S : List Nat) (D : List (Nat × Nat × Nat)) : Bool := zeC R A && (zjC R A S D && (zmC R A && (zrw R A 36 && zof R A 7 4 5)))
def zoM (R : List Nat) (A : List (Nat × Nat × Nat)) (S : List Nat) (D : List (Nat × Nat × Nat)) : Bool := zeM R A && (zjM R A S D && (zmM R A && (zof R A 3 0 28 && zof R A 0 31 32)))
theorem zNow.kp (h : zNow B σ μ) (a : zQ R A S D σ σ') (b : zQ R' A' S' D' μ μ') (c : zoC R A S D = true) (d : zoM R' A' S' D' = true) : zNow B σ' μ' := by
  obtain ⟨hT, hF, hW⟩ := h
  unfold zoC at c
  rw [Bool.and_eq_true, Bool.and_eq_true] at c
  unfold zoM at d
  rw [Bool.and_eq_true, Bool.and_eq_true] at d
  obtain ⟨k1, k2⟩ := hT.kp (J := zIa B) ⟨hT.2.2.2.1.kp a b c.1 d.1, hT.2.2.2.2.kp a b c.2.1 d.2.1⟩ a b c.2.2 d.2.2
  exact ⟨k1, k2.f hF, k2.w hW⟩
theorem zNow.th (h : zNow B s t) {v : Int32} : zNow B s (zsi t 0 0 v) := h.kp (zQ.rf (R := []) (A := []) (S := []) (B := [])) (zQ.wi (R := []) (A := [(0, 0, 0)]) (S := []) (B := []) zQ.rf rfl) (by decide +kernel) (by decide +kernel)
theorem zNow.mt (h : zNow B s t) : 0 ≤ zMt t ∧ 0 ≤ (t.2 4 2).toInt := by
  obtain ⟨hT, hF, hW⟩ := h
  have hv := hT.2.2.2.1
  obtain ⟨c0, c1, c2, c3, c4⟩ := hT.2.2.2.2.2.2.1
  have b67 : 0 ≤ (t.1 3 67).toInt := by rw [hv.e21]; exact (hv.2.1.at (k := 23) (j := 21) rfl).1
  have b66 : 0 ≤ (t.1 3 66).toInt := by rw [hv.e20]; exact (hv.2.1.at (k := 23) (j := 20) rfl).1
  refine ⟨?_, c3⟩
  unfold zMt
  by_cases q : t.1 0 3 = 1
  · rw [if_pos q]; omega
  · rw [if_neg q]; omega
/-- other bounds -/
theorem zNow.bd (h : zNow B s t) {C : Int × Int × Int} (h1 : B.1 ≤ C.1) (h2 : (t.2 4 2).toInt ≤ C.2.1) (h3 : C.2.2 ≤ zMt t) : zNow C s t := by
  obtain ⟨⟨a1, a2, a3, hv, hp, ⟨s1, s2, s3⟩, ⟨c0, c1, c2, c3, c4⟩, ms⟩, hF, hW⟩ := h
  exact ⟨⟨a1, a2, a3, hv, hp, ⟨s1, Int.le_trans s2 h1, s3⟩, ⟨c0, c1, c2, c3, h2⟩, h3⟩, hF, hW⟩
/-- picture -/
theorem t_run2 {x3 : Int64} {P0 Nl M0 : Int} {kd : Int32} (hN : Nl = (if kd = 1 then 313 else 262)) (hM : M0 = P0 * Nl * 228) (h0 : 0 ≤ P0) (h3 : P0 ≤ x3.toInt ∧ x3.toInt ≤ P0 + 3) : ∀ (n m : Nat) (B : Int × Int × Int) (s t : zSt) (x5 : Int32), zr 0 1000000 x5 → B.2.2 = M0 + x5.toInt → t.1 0 3 = kd → B.1 + (1000000 - x5.toInt) ≤ 1000000000000000 → B.2.1 ≤ P0 + x5.toInt → P0 ≤ 999999990000000 → zNow B s t → zp2 (fX11_run_15 n s 1000000 x3 x5) (fX12_picture_40 m t x3 x5) (fun r r' => (∃ C : Int × Int × Int, C.1 ≤ B.1 + (1000000 - x5.toInt) ∧ zNow C r.1 r'.1) ∧ r'.2 = r.2) := by
  intro n
  induction n with
  | zero => intro m B s t x5 _ _ _ _ _ _ _; exact zp2_nl
  | succ n ih =>
    intro m B s t x5 h5 hms hk hB hP hP0 hN'
    cases m with
    | zero => exact zp2_nr
    | succ m =>
      show zp2 (fX11_run_15_body (fX11_run_15 n) s 1000000 x3 x5) (fX12_picture_40_body (fX12_picture_40 m) t x3 x5) _
      have hNow := hN'
      obtain ⟨hT, hF, hW⟩ := hN'
      have hv := hT.2.2.2.1
      obtain ⟨c0, c1, c2, c3, c4⟩ := hT.2.2.2.2.2.2.1
      have ms : zMs B.2.2 t := hT.2.2.2.2.2.2.2
      have x50 := h5.1
      have done : (∃ C : Int × Int × Int, C.1 ≤ B.1 + (1000000 - x5.toInt) ∧ zNow C s t) := ⟨B, by have := h5.2; omega, hNow⟩
      have r20 := hv.2.1.at (k := 23) (j := 20) rfl
      have r21 := hv.2.1.at (k := 23) (j := 21) rfl
      have ln : (s.1 23 20).toInt < (s.1 2 1).toInt := hv.2.2.2
      obtain ⟨k0, k1, k2, k3, k4, k5⟩ := hv.2.2.1
      -- the steps are few
      have few : (t.2 4 2).toInt < x3.toInt → x5.toInt < 1000000 := fun lt => by
        unfold zMs zMt at ms
        rw [hms, hk, hv.e20, hv.e21] at ms
        have r21' := r21.2
        rw [k5, hk] at ln
        by_cases q : kd = 1
        · rw [if_pos q] at ms hN ln
          rw [show (313 : Int32).toInt = 313 from rfl] at ln
          rw [hN] at hM
          omega
        · rw [if_neg q] at ms hN ln
          rw [show (262 : Int32).toInt = 262 from rfl] at ln
          rw [hN] at hM
          omega
      unfold fX11_run_15_body fX12_picture_40_body fX11_run_135 fX12_picture_80
      refine zp2_ckr ?_
      by_cases p : 0 ≤ lg_cmp (t.2 4 2) x3
      · refine zp2_ifr (fun _ => ?_) (fun z => absurd p z)
        refine zp2_ifl (fun _ => zp2_some ⟨done, rfl⟩) (fun _ => zp2_bll p_cnt2 (fun s1 v1 e1 => ?_))
        cases e1
        rw [c2]
        exact zp2_ifl (fun _ => zp2_some ⟨done, rfl⟩) (fun z => absurd p z)
      have lt : (t.2 4 2).toInt < x3.toInt := by
        have : ¬ x3.toInt ≤ (t.2 4 2).toInt := fun z => p (z_cmp_ge.mpr z)
        omega
      have x5l := few lt
      refine zp2_ifr (fun z => absurd z p) (fun _ => ?_)
      have nq : ¬ (1000000 : Int32) ≤ x5 := fun z => by
        have := Int32.le_iff_toInt_le.mp z
        rw [show (1000000 : Int32).toInt = 1000000 from rfl] at this
        omega
      refine zp2_ifl (fun z => absurd z nq) (fun _ => zp2_bll p_cnt2 (fun s1 v1 e1 => ?_))
      cases e1
      rw [c2]
      refine zp2_ifl (fun z => absurd z p) (fun _ => zp2_bil p_pc (fun s1 v1 e1 => ?_))
      cases e1
      have t1 : (x5 + 1).toInt = x5.toInt + 1 := z_tadd h5 (zr_c (lo := 1) (hi := 1) (x := 1) (by decide)) (by decide)
      have one : zp2 (fX11_run_65 (fX11_run_15 n) s 1000000 x3 x5 (s.1 36 19)) (fX12_picture_70 (fX12_picture_40 m) t x3 x5) (fun r r' => (∃ C : Int × Int × Int, C.1 ≤ B.1 + (1000000 - x5.toInt) ∧ zNow C r.1 r'.1) ∧ r'.2 = r.2) := by
        unfold fX12_picture_70
        refine zp2_burp (zp2_andr (t_step zLe_all hT hF hW (by omega) (by omega) (Q := fun a t' => t'.1 0 3 = kd → zp2 (some a) (zbv (x5 + 1) (fun v2 => fX12_picture_40 m t' x3 v2)) (fun r r' => (∃ C : Int × Int × Int, C.1 ≤ B.1 + (1000000 - x5.toInt) ∧ zNow C r.1 r'.1) ∧ r'.2 = r.2)) (fun s' t' r1 r2 r3 => ?_)) (fk_fX12_once (σ0 := t) zQ.rf)) (fun a t' q => q.1 ((zQ.o q.2 (k := 0) (a := 3) (b := 3) rfl (by decide) (by decide)).trans hk))
        intro a b ea eb hkb
        cases eb
        refine zp2_in (g := fun t' => zbv (x5 + 1) (fun v2 => fX12_picture_40 m t' x3 v2)) (o := zbv (x5 + 1) (fun v2 => fX11_run_15 n s' 1000000 x3 v2)) (t := t') ?_ a t' ea rfl
        refine zp2_bvl (fun v ev => zp2_bvr (fun w ew => ?_))
        rw [ev, ew]
        refine zp2_mono (ih m (B.1 + 1, B.2.1 + 1, B.2.2 + 1) s' t' (x5 + 1) ⟨by omega, by omega⟩ (by show B.2.2 + 1 = _; omega) hkb (by show B.1 + 1 + _ ≤ _; omega) (by show B.2.1 + 1 ≤ _; omega) hP0 ⟨r1, r2, r3⟩) (fun r r' q => ?_)
        obtain ⟨⟨C, d1, d2⟩, d3⟩ := q
        have d1 : C.1 ≤ B.1 + 1 + (1000000 - (x5 + 1).toInt) := d1
        exact ⟨⟨C, by omega, d2⟩, d3⟩
      have z5 : x5 ≤ 0 ↔ x5 = 0 := by
        rw [Int32.le_iff_toInt_le, ← Int32.toInt_inj, show (0 : Int32).toInt = 0 from rfl]
        omega
      refine zp2_iff z5 (fun _ _ => one) (fun _ _ => zp2_ckr ?_)
      have e19 : zgi t 3 (19 : Int32).toNatClampNeg = s.1 36 19 := hT.eq (by decide)
      rw [e19]
      refine zp2_sm (t_isStop hv) (fun v _ => ?_)
      exact zp2_if (fun _ => one) (fun _ => zp2_some ⟨done, rfl⟩)
/-! as calls: what both answer, and the relation behind it -/
def zCal (K : Nat) (B : Int) (r : zRi) (b : zSt × Int32) : Prop := (∃ C : Int × Int × Int, C.1 ≤ B ∧ zNow C (zRis r) b.1) ∧ zAns K r b
theorem zth_own {μ : zSt} {v : Int32} : zTh v (zsi μ 0 0 v) := zTh_own
theorem a_step (h : zNow B s t) (hB : B.1 ≤ 999999999000000) (hP : (t.2 4 2).toInt ≤ 999999999000000) {x : Int32} : zp2 (fX11_step s x) (fX12_step t x) (zCal 1 (B.1 + 20000)) := by
  unfold fX11_step fX12_step fX11_step_12 fX12_step_18
  have m0 := h.mt
  refine zp2_within (fun w1 w2 => ?_) (fun w => ?_)
  · have hx := z_wir w1 w2 (zrl_c (lo := 1) (hi := 1) (by decide)) (zrl_c (lo := 20000) (hi := 20000) (by decide))
    refine zp2_ifr (fun q => absurd q (by decide)) (fun _ => zp2_fails0 (fun t1 e1 => ?_))
    refine zp2_ifr (fun _ => ?_) (fun q => absurd rfl q)
    refine zp2_ifl (fun q => absurd q (zq_lt hx rfl (by decide))) (fun _ => zp2_ifl (fun _ => ?_) (fun q => absurd (zq_le hx rfl (by decide)) q))
    have h1 : zNow B s t1 := by rw [e1]; exact h.th
    have e42 : t1.2 4 2 = t.2 4 2 := by rw [e1]; rfl
    obtain ⟨c0, c1, c2, c3, c4⟩ := h1.1.2.2.2.2.2.2.1
    have h2 : zNow (B.1, (t.2 4 2).toInt, 0) s t1 := h1.bd (Int.le_refl _) (by rw [e42]; exact Int.le_refl _) h1.mt.1
    unfold fX11_run
    refine zp2_bilp (P := fun r r' => ((∃ C : Int × Int × Int, C.1 ≤ B.1 + 20000 ∧ zNow C r.1 r'.1) ∧ r'.2 = r.2) ∧ zQ [3, 5, 6, 7, 8, 9, 21, 22, 23, 24, 25] [(0, 31, 33)] [4, 10, 11] [(0, 30, 30)] t1 r'.1) ?_ (fun r v b q => ?_)
    · refine zp2_bll p_cnt2 (fun s1 v1 ev1 => zp2_bvl (fun v21 e21 => ?_))
      cases ev1
      have hx1 := hx.1
      have hx2 := hx.2
      have tx : (x + 1).toInt = x.toInt + 1 := z_tadd hx (zr_c (lo := 1) (hi := 1) (x := 1) (by decide)) (by decide)
      have t21 : v21.toInt = (t.2 4 2).toInt + x.toInt + 1 := by
        rw [e21, c2, e42]
        have z := z_tladd (x := t.2 4 2) (y := (x + 1).toInt64) (a := 0) (b := 999999999000000) (c := 0) (d := 20001) ⟨m0.2, hP⟩ (by unfold zrl; rw [Int32.toInt_toInt64, tx]; omega) (by decide)
        rw [z, Int32.toInt_toInt64, tx]
        omega
      refine zp2_andr (zp2_mono (t_run1 (P0 := (t.2 4 2).toInt) hx t21 zfuel zfuel (B.1, (t.2 4 2).toInt, 0) s t1 0 (zr_c (by decide)) (by rw [show (0 : Int32).toInt = 0 from rfl]; omega) (by show (t.2 4 2).toInt ≤ _; rw [show (0 : Int32).toInt = 0 from rfl]; omega) (by omega) (by rw [show (0 : Int32).toInt = 0 from rfl]; show B.1 + _ ≤ _; omega) h2) (fun r r' q => ?_)) (fk_fX12_step_29 (σ0 := t1) zfuel t1 x 0 zQ.rf)
      obtain ⟨⟨C, d1, d2, d3, d4⟩, d5⟩ := q
      have d1 : C.1 ≤ B.1 + (x.toInt - (0 : Int32).toInt) := d1
      rw [show (0 : Int32).toInt = 0 from rfl] at d1
      exact ⟨⟨C, by omega, d4⟩, d5⟩
    · obtain ⟨⟨⟨C, d1, d2⟩, d3⟩, d4⟩ := q
      refine zp2_some ⟨⟨C, d1, d2⟩, Or.inr ⟨r, ?_, ?_⟩⟩
      · have d3 : b.2 = v := d3
        rw [d3]
      · have z : b.1.1 0 0 = t1.1 0 0 := zQ.o d4 (k := 0) (a := 0) (b := 0) (j := 0) rfl (by decide) (by decide)
        have y : t1.1 0 0 = 0 := by rw [e1]; exact zsi_ej
        exact z.trans y
  · have hn := z_nin w (a := 1) (b := 20000) rfl rfl
    refine zp2_ifr (fun _ => zp2_fails1 (fun t1 e1 => ?_)) (fun q => absurd rfl q)
    refine zp2_ifr (fun q => absurd q (by decide)) (fun _ => ?_)
    have c1 : (1 : Int32).toInt = 1 := rfl
    have c2 : (20000 : Int32).toInt = 20000 := rfl
    have fin : zp2 (some (Sum.inr (s, 1) : zRi)) (some (t1, (0 : Int32))) (zCal 1 (B.1 + 20000)) := zp2_some ⟨⟨B, by omega, by rw [e1]; exact h.th⟩, Or.inl ⟨s, rfl, by rw [e1]; exact zTh_own⟩⟩
    refine zp2_ifl (fun _ => fin) (fun q => zp2_ifl (fun q1 => ?_) (fun _ => fin))
    have r1 := Int32.le_iff_toInt_le.mp (z_nlt q)
    have r2 := Int32.le_iff_toInt_le.mp q1
    exfalso; omega
end ZPI
