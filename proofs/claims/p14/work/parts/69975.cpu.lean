/-! STOPS AND THE DESK'S LOOPS -/
/-- all of both machines, but for sounds -/
def zNow (B : Int × Int × Int) (σ μ : zSt) : Prop := zTT (zIa B) σ μ ∧ zF σ μ ∧ zWzz σ μ
section ZRU
variable {σ μ s t : zSt} {B : Int × Int × Int}
theorem t_place (h : zVe σ μ) {x : Int32} : ∀ (n m i : Nat), i ≤ 8 → zp2 (fX1_placeOfStop_2 n σ x (Int32.ofNat i)) (fX12_isStop_2 m μ x (Int32.ofNat i)) (fun r r' => r.1 = σ ∧ r'.1 = μ ∧ ((r.2 < 0 ∧ r'.2 = 0) ∨ (¬ r.2 < 0 ∧ r'.2 = 1))) := by
  intro n
  induction n with
  | zero => intro m i _; exact zp2_nl
  | succ n ih =>
    intro m i hi
    cases m with
    | zero => exact zp2_nr
    | succ m =>
      show zp2 (fX1_placeOfStop_2_body (fX1_placeOfStop_2 n) σ x (Int32.ofNat i)) (fX12_isStop_2_body (fX12_isStop_2 m) μ x (Int32.ofNat i)) _
      unfold fX1_placeOfStop_2_body fX12_isStop_2_body fX1_placeOfStop_37
      have e89 : zgi μ 3 (89 : Int32).toNatClampNeg = σ.1 40 8 := h.1.e (z_pn40_8 (d := 0) (by decide))
      have r8 : zr 0 8 (σ.1 40 8) := h.2.1.at (k := 40) (j := 8) rfl
      have none_ : ∀ c : Bool, zp2 (some (σ, (-1 : Int32))) (zck c (some (μ, (0 : Int32)))) (fun r r' => r.1 = σ ∧ r'.1 = μ ∧ ((r.2 < 0 ∧ r'.2 = 0) ∨ (¬ r.2 < 0 ∧ r'.2 = 1))) := fun c => zp2_ckr (zp2_some ⟨rfl, rfl, Or.inl ⟨show (-1 : Int32) < 0 by decide, rfl⟩⟩)
      refine zp2_ckr ?_
      rw [e89]
      have ri : zr 0 8 (Int32.ofNat i) := z_ofr (by omega) (by omega)
      refine zp2_ifl (fun q => ?_) (fun q => zp2_ckl ?_)
      · have q8 := (z_ofL (c := 8) (k := 8) (i := i) (by omega) rfl).mp q
        refine zp2_ifr (fun _ => none_ _) (fun z => absurd ?_ z)
        rw [Int32.le_iff_toInt_le, z_ofI (by omega)]
        have := r8.2
        omega
      have hi2 : i < 8 := by
        have : ¬ 8 ≤ i := fun z => q ((z_ofL (c := 8) (k := 8) (i := i) (by omega) rfl).mpr z)
        omega
      refine zp2_if (fun _ => none_ _) (fun _ => ?_)
      have p := z_pn40_0 (d := i) hi2
      rw [Nat.zero_add] at p
      have ei : zgi μ 3 (90 + Int32.ofNat i).toNatClampNeg = zgi σ 40 (Int32.ofNat i).toNatClampNeg := by
        rw [z_off ri (k := 90) rfl (by decide), z_ofC (by omega)]
        exact h.1.e p
      rw [ei]
      refine zp2_ckl (zp2_ckr (zp2_if (fun _ => zp2_ckr (zp2_some ⟨rfl, rfl, Or.inr ⟨?_, rfl⟩⟩)) (fun _ => zp2_bvl (fun v ev => zp2_bvr (fun w ew => ?_)))))
      · exact zq_lt ri rfl (by decide)
      · rw [ev, ew, z_ofS (by omega)]
        exact ih m (i + 1) (by omega)
theorem t_isStop (h : zVe σ μ) {x : Int32} : zp2 (fX1_isStop σ x) (fX12_isStop μ x) (fun r r' => r.1 = σ ∧ r'.1 = μ ∧ r'.2 = r.2 ∧ zr 0 1 r.2) := by
  unfold fX1_isStop fX12_isStop fX1_placeOfStop
  refine zp2_bilp (t_place h zfuel zfuel 0 (by decide)) (fun s v b q => ?_)
  obtain ⟨q1, q2, q3⟩ := q
  have q1 : s = σ := q1
  subst q1
  unfold fX1_isStop_13
  rcases q3 with ⟨a, c⟩ | ⟨a, c⟩
  · exact zp2_ifl (fun _ => zp2_ckl (zp2_some ⟨rfl, q2, c, show zr 0 1 (0 : Int32) from zr_c (by decide)⟩)) (fun z => absurd a z)
  · exact zp2_ifl (fun z => absurd z a) (fun _ => zp2_ckl (zp2_some ⟨rfl, q2, c, show zr 0 1 (1 : Int32) from zr_c (by decide)⟩))
theorem zp2_in {α : Type} {o : Option α} {g : zSt → Option (zSt × Int32)} {Q : α → zSt × Int32 → Prop} {t : zSt} (h : zp2 o (g t) Q) : zp2 o (some t) (fun a t' => zp2 (some a) (g t') Q) := fun a b ea eb => by
  cases eb
  intro a' b' ea' eb'
  cases ea'
  exact h a b' ea eb'
theorem p_pc : zpc (fX5_value s 19) (fun r => r = (s, s.1 36 19)) := by
  unfold fX5_value fX5_value_20
  exact zpc_if (fun q => absurd q (by decide)) (fun _ => zpc_if (fun q => absurd q (by decide)) (fun _ => zpc_ck (zpc_some rfl)))
theorem p_cnt2 : zpc (fX0_count s 2) (fun r => r = (s, s.2 38 2)) := by
  unfold fX0_count fX0_count_20
  exact zpc_if (fun q => absurd q (by decide)) (fun _ => zpc_if (fun q => absurd q (by decide)) (fun _ => zpc_ck (zpc_some rfl)))
/-- step -/
theorem t_run1 {x1 : Int32} {x3 : Int64} {P0 : Int} (hx1 : zr 1 20000 x1) (h3 : x3.toInt = P0 + x1.toInt + 1) : ∀ (n m : Nat) (B : Int × Int × Int) (s t : zSt) (x5 : Int32), zr 0 20000 x5 → x5.toInt ≤ x1.toInt → B.2.1 ≤ P0 + x5.toInt → P0 ≤ 999999999900000 → B.1 + (x1.toInt - x5.toInt) ≤ 1000000000000000 → zNow B s t → zp2 (fX11_run_15 n s x1 x3 x5) (fX12_step_29 m t x1 x5) (fun r r' => (∃ C : Int × Int × Int, C.1 ≤ B.1 + (x1.toInt - x5.toInt) ∧ C.2.1 ≤ P0 + x1.toInt ∧ C.2.2 = 0 ∧ zNow C r.1 r'.1) ∧ r'.2 = r.2) := by
  intro n
  induction n with
  | zero => intro m B s t x5 _ _ _ _ _ _; exact zp2_nl
  | succ n ih =>
    intro m B s t x5 h5 h51 hP hP0 hB hN
    cases m with
    | zero => exact zp2_nr
    | succ m =>
      show zp2 (fX11_run_15_body (fX11_run_15 n) s x1 x3 x5) (fX12_step_29_body (fX12_step_29 m) t x1 x5) _
      have hN' := hN
      obtain ⟨hT, hF, hW⟩ := hN
      have hv := hT.2.2.2.1
      obtain ⟨c0, c1, c2, c3, c4⟩ := hT.2.2.2.2.2.2.1
      have x50 := h5.1
      have x51 := h5.2
      have done : (∃ C : Int × Int × Int, C.1 ≤ B.1 + (x1.toInt - x5.toInt) ∧ C.2.1 ≤ P0 + x1.toInt ∧ C.2.2 = 0 ∧ zNow C s t) := by
        refine ⟨(B.1, B.2.1, 0), by show B.1 ≤ _; omega, by show B.2.1 ≤ _; omega, rfl, ⟨hT.1, hT.2.1, hT.2.2.1, hv, hT.2.2.2.2.1, hT.2.2.2.2.2.1, ⟨c0, c1, c2, c3, c4⟩, ?_⟩, hF, hW⟩
        have b67 : 0 ≤ (t.1 3 67).toInt := by rw [hv.e21]; exact (hv.2.1.at (k := 23) (j := 21) rfl).1
        have b66 : 0 ≤ (t.1 3 66).toInt := by rw [hv.e20]; exact (hv.2.1.at (k := 23) (j := 20) rfl).1
        unfold zMs zMt
        show (0 : Int) ≤ _
        by_cases q : t.1 0 3 = 1
        · rw [if_pos q]; omega
        · rw [if_neg q]; omega
      unfold fX11_run_15_body fX12_step_29_body fX11_run_135 fX12_step_62
      refine zp2_if (fun _ => zp2_some ⟨done, rfl⟩) (fun q => ?_)
      have ql := Int32.lt_iff_toInt_lt.mp (z_nle q)
      refine zp2_bll p_cnt2 (fun s1 v1 e1 => ?_)
      cases e1
      have nl : ¬ 0 ≤ lg_cmp (s.2 38 2) x3 := fun z => by
        have y := z_cmp_ge.mp z
        rw [c2] at y
        have : (t.2 4 2).toInt ≤ B.2.1 := c4
        omega
      refine zp2_ifl (fun z => absurd z nl) (fun _ => zp2_bil p_pc (fun s1 v1 e1 => ?_))
      cases e1
      have t1 : (x5 + 1).toInt = x5.toInt + 1 := z_tadd h5 (zr_c (lo := 1) (hi := 1) (x := 1) (by decide)) (by decide)
      have one : zp2 (fX11_run_65 (fX11_run_15 n) s x1 x3 x5 (s.1 36 19)) (fX12_step_52 (fX12_step_29 m) t x1 x5) (fun r r' => (∃ C : Int × Int × Int, C.1 ≤ B.1 + (x1.toInt - x5.toInt) ∧ C.2.1 ≤ P0 + x1.toInt ∧ C.2.2 = 0 ∧ zNow C r.1 r'.1) ∧ r'.2 = r.2) := by
        unfold fX12_step_52
        refine zp2_burp (t_step zLe_all hT hF hW (by omega) (by omega) (Q := fun a t' => zp2 (some a) (zbv (x5 + 1) (fun v2 => fX12_step_29 m t' x1 v2)) (fun r r' => (∃ C : Int × Int × Int, C.1 ≤ B.1 + (x1.toInt - x5.toInt) ∧ C.2.1 ≤ P0 + x1.toInt ∧ C.2.2 = 0 ∧ zNow C r.1 r'.1) ∧ r'.2 = r.2)) (fun s' t' r1 r2 r3 => ?_)) (fun a t' q => q)
        refine zp2_in (g := fun t' => zbv (x5 + 1) (fun v2 => fX12_step_29 m t' x1 v2)) (zp2_bvl (fun v ev => zp2_bvr (fun w ew => ?_)))
        rw [ev, ew]
        refine zp2_mono (ih m (B.1 + 1, B.2.1 + 1, B.2.2 + 1) s' t' (x5 + 1) ⟨by omega, by have := hx1.2; omega⟩ (by omega) (by show B.2.1 + 1 ≤ _; omega) hP0 (by show B.1 + 1 + _ ≤ _; omega) ⟨r1, r2, r3⟩) (fun r r' q => ?_)
        obtain ⟨⟨C, d1, d2, d3, d4⟩, d5⟩ := q
        have d1 : C.1 ≤ B.1 + 1 + (x1.toInt - (x5 + 1).toInt) := d1
        exact ⟨⟨C, by omega, d2, d3, d4⟩, d5⟩
      have z5 : x5 ≤ 0 ↔ x5 = 0 := by
        rw [Int32.le_iff_toInt_le, ← Int32.toInt_inj, show (0 : Int32).toInt = 0 from rfl]
        omega
      refine zp2_iff z5 (fun _ _ => one) (fun _ _ => zp2_ckr ?_)
      have e19 : zgi t 3 (19 : Int32).toNatClampNeg = s.1 36 19 := hT.eq (by decide)
      rw [e19]
      refine zp2_sm (t_isStop hv) (fun v _ => ?_)
      exact zp2_if (fun _ => one) (fun _ => zp2_some ⟨done, rfl⟩)
end ZRU
