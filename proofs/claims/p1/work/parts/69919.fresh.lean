/-! step and picture on fresh states: both sides side by side -/
theorem z_inv {b l p K D : Int} (hK : K = 262 ∨ K = 313) (hb : 0 ≤ b) (hb2 : b < 228) (hl : 0 ≤ l) (hl2 : l < K) (hp : 0 ≤ p) (e : 11 * D = 228 * (l + K * p) + b) : 11 * (D + 1) = 228 * (zbl1 b l K + K * zbp1 b l p K) + zbb b ∧ 0 ≤ zbb b ∧ zbb b < 228 ∧ 0 ≤ zbl1 b l K ∧ zbl1 b l K < K ∧ p ≤ zbp1 b l p K ∧ zbp1 b l p K ≤ p + 1 := by
  unfold zbb zbl1 zbp1 zl1 zp1
  by_cases q : b + 11 < 228
  · rw [if_pos q, if_pos q, if_pos q]
    refine ⟨by omega, by omega, by omega, hl, hl2, by omega, by omega⟩
  · rw [if_neg q, if_neg q, if_neg q]
    by_cases r : l + 1 < K
    · rw [if_pos r, if_pos r]
      refine ⟨by omega, by omega, by omega, by omega, by omega, by omega, by omega⟩
    · rw [if_neg r, if_neg r]
      rcases hK with k | k <;> subst k
      · refine ⟨by omega, by omega, by omega, by omega, by omega, by omega, by omega⟩
      · refine ⟨by omega, by omega, by omega, by omega, by omega, by omega, by omega⟩
section ZLP
variable {b l p K : Int} {σ μ : zSt}
theorem jc_isStop (h : σ.1 40 8 = 0) {x : Int32} : zpc (fX1_isStop σ x) (fun r => r = (σ, 0)) := by
  have f : ∀ n : Nat, zpc (fX1_placeOfStop_2 (n + 1) σ x 0) (fun r => r = (σ, -1)) := fun n => by
    show zpc (fX1_placeOfStop_2_body (fX1_placeOfStop_2 n) σ x 0) _
    unfold fX1_placeOfStop_2_body fX1_placeOfStop_37
    refine zpc_if (fun _ => zpc_some rfl) (fun _ => zpc_ck (zpc_if (fun _ => zpc_some rfl) (fun q => ?_)))
    rw [show zgi σ 40 (8 : Int32).toNatClampNeg = 0 from h] at q
    exact absurd (by decide) q
  unfold fX1_isStop fX1_placeOfStop fX1_isStop_13
  refine zpc_bi (f 1999999) (fun s v e => ?_)
  cases e
  exact zpc_if (fun _ => zpc_ck (zpc_some rfl)) (fun q => absurd (by decide) q)
theorem jm_isStop (h : μ.1 3 89 = 0) {x : Int32} : zpc (fX12_isStop μ x) (fun r => r = (μ, 0)) := by
  have f : ∀ n : Nat, zpc (fX12_isStop_2 (n + 1) μ x 0) (fun r => r = (μ, 0)) := fun n => by
    show zpc (fX12_isStop_2_body (fX12_isStop_2 n) μ x 0) _
    unfold fX12_isStop_2_body
    refine zpc_ck (zpc_if (fun _ => zpc_ck (zpc_some rfl)) (fun q => ?_))
    rw [show zgi μ 3 (89 : Int32).toNatClampNeg = 0 from h] at q
    exact absurd (by decide) q
  exact f 1999999
theorem jc_count (h : zJC b l p K σ) : zpc (fX0_count σ 2) (fun r => r.1 = σ ∧ r.2.toInt = p) := by
  unfold fX0_count fX0_count_19 fX0_count_20
  exact zpc_if (fun q => absurd q (by decide)) (fun _ => zpc_if (fun q => absurd q (by decide)) (fun _ => zpc_ck (zpc_some ⟨rfl, h.2.2.2.2.1⟩)))
/-- the head of the class's loop, where it goes on -/
theorem jc_head {β : Type} {pm : Option β} {Q : zSt × Int32 → β → Prop} {k : zSt → Int32 → Int64 → Int32 → Option (zSt × Int32)} {x1 d : Int32} {x3 : Int64} (h : zJC b l p K σ) (hK : K ≤ 1000) (hb : 0 ≤ b) (hb2 : b < 228) (hl : 0 ≤ l) (hl2 : l < K) (hp : 0 ≤ p) (hp2 : p ≤ 1000000) (n1 : ¬ x1 ≤ d) (n2 : p < x3.toInt) (hk : ∀ s, zJC (zbb b) (zbl1 b l K) (zbp1 b l p K) K s → zp2 (k s x1 x3 (d + 1)) pm Q) : zp2 (fX11_run_15_body k σ x1 x3 d) pm Q := by
  unfold fX11_run_15_body
  refine zp2_ifl (fun q => absurd q n1) (fun _ => zp2_bll (jc_count h) (fun s v q => ?_))
  obtain ⟨e1, e2⟩ := q
  have e1 : s = σ := e1
  have e2 : v.toInt = p := e2
  subst e1
  refine zp2_ifl (fun q => ?_) (fun _ => ?_)
  · have lt : lg_cmp v x3 < 0 := z_cmp_lt.mpr (by omega)
    have := Int32.lt_iff_toInt_lt.mp lt
    have := Int32.le_iff_toInt_le.mp q
    exfalso; omega
  · refine zp2_bil (P := fun r => r.1 = s) ?_ (fun s2 v2 e3 => ?_)
    · unfold fX5_value fX5_value_19 fX5_value_20
      exact zpc_if (fun _ => zpc_some rfl) (fun _ => zpc_if (fun _ => zpc_some rfl) (fun _ => zpc_ck (zpc_some rfl)))
    · have e3 : s2 = s := e3
      subst e3
      refine zp2_ifl (fun _ => jc_step h hK hb hb2 hl hl2 hp hp2 hk) (fun _ => zp2_bil (jc_isStop h.2.2.2.2.2.1) (fun s3 v3 e4 => ?_))
      cases e4
      exact zp2_ifl (fun _ => jc_step h hK hb hb2 hl hl2 hp hp2 hk) (fun q => absurd rfl q)
theorem z2_stepl {x : Int32} {x3 : Int64} (hx : x.toInt ≤ 20000) (h3 : x3.toInt = x.toInt + 1) (hK : K = 262 ∨ K = 313) : ∀ (n m : Nat) (σ μ : zSt) (b l p : Int) (d : Int32), zJC b l p K σ → zJM b l p K μ → 0 ≤ b → b < 228 → 0 ≤ l → l < K → 0 ≤ p → p ≤ d.toInt → d.toInt ≤ x.toInt → 11 * d.toInt = 228 * (l + K * p) + b → zp2 (fX11_run_15 n σ x x3 d) (fX12_step_29 m μ x d) (fun r r' => r.2 = r'.2 ∧ zTh 0 r'.1) := by
  intro n
  induction n with
  | zero => intro m σ μ b l p d _ _ _ _ _ _ _ _ _ _; exact zp2_nl
  | succ n ih =>
    intro m σ μ b l p d hC hM hb hb2 hl hl2 hp hpd hd he
    cases m with
    | zero => exact zp2_nr
    | succ m =>
      show zp2 (fX11_run_15_body (fX11_run_15 n) σ x x3 d) (fX12_step_29_body (fX12_step_29 m) μ x d) _
      have kb : K ≤ 1000 := by rcases hK with e | e <;> omega
      by_cases q : x ≤ d
      · unfold fX11_run_15_body fX12_step_29_body fX11_run_135 fX12_step_62
        exact zp2_ifl (fun _ => zp2_ifr (fun _ => zp2_some ⟨rfl, hM.2.2.2.2.2.2.2.2⟩) (fun r => absurd q r)) (fun r => absurd q r)
      · have lt := Int32.lt_iff_toInt_lt.mp (z_nle q)
        have c1 : (1 : Int32).toInt = 1 := rfl
        have t : (d + 1).toInt = d.toInt + (1 : Int32).toInt := z_tadd (a := 0) (b := 20000) ⟨by omega, by omega⟩ (zr_c (lo := 1) (hi := 1) (x := 1) (by decide)) (by decide)
        obtain ⟨i1, i2, i3, i4, i5, i6, i7⟩ := z_inv hK hb hb2 hl hl2 hp he
        refine jc_head hC kb hb hb2 hl hl2 hp (by omega) q (by omega) (fun s j => ?_)
        have go : ∀ μ1, μ1 = μ → zp2 (fX11_run_15 n s x x3 (d + 1)) (fX12_step_52 (fX12_step_29 m) μ1 x d) (fun r r' => r.2 = r'.2 ∧ zTh 0 r'.1) := fun μ1 e => by
          subst e
          unfold fX12_step_52
          refine zp2_bur (jm_once hM hb hb2 hl hl2 hp (by omega)) (fun s2 j2 => zp2_bvr (fun v e => ?_))
          subst e
          exact ih m s s2 _ _ _ _ j j2 i2 i3 i4 i5 (by omega) (by omega) (by omega) (by omega)
        unfold fX12_step_29_body
        refine zp2_ifr (fun r => absurd r q) (fun _ => zp2_ifr (fun _ => go μ rfl) (fun _ => zp2_ckr (zp2_bir (jm_isStop hM.2.2.2.2.2.1) (fun s3 v3 e3 => ?_))))
        cases e3
        exact zp2_ifr (fun _ => go μ rfl) (fun r => absurd rfl r)
theorem z2_pictl {x2 x3 : Int64} (h3 : x3.toInt = x2.toInt) (hx : x2.toInt ≤ 3) (hK : K = 262 ∨ K = 313) : ∀ (n m : Nat) (σ μ : zSt) (b l p : Int) (d : Int32), zJC b l p K σ → zJM b l p K μ → 0 ≤ b → b < 228 → 0 ≤ l → l < K → 0 ≤ p → p ≤ 3 → 0 ≤ d.toInt → 11 * d.toInt = 228 * (l + K * p) + b → zp2 (fX11_run_15 n σ 1000000 x3 d) (fX12_picture_40 m μ x2 d) (fun r r' => r.2 = r'.2 ∧ zTh 0 r'.1) := by
  intro n
  induction n with
  | zero => intro m σ μ b l p d _ _ _ _ _ _ _ _ _ _; exact zp2_nl
  | succ n ih =>
    intro m σ μ b l p d hC hM hb hb2 hl hl2 hp hp3 hd he
    cases m with
    | zero => exact zp2_nr
    | succ m =>
      show zp2 (fX11_run_15_body (fX11_run_15 n) σ 1000000 x3 d) (fX12_picture_40_body (fX12_picture_40 m) μ x2 d) _
      have kb : K ≤ 1000 := by rcases hK with e | e <;> omega
      have cm : (1000000 : Int32).toInt = 1000000 := rfl
      have db : d.toInt ≤ 30000 := by rcases hK with e | e <;> subst e <;> omega
      have q : ¬ (1000000 : Int32) ≤ d := fun r => by
        have := Int32.le_iff_toInt_le.mp r
        omega
      have mp : (μ.2 4 2).toInt = p := hM.2.2.2.2.1
      have c0 : (0 : Int32).toInt = 0 := rfl
      by_cases w : p < x3.toInt
      · have c1 : (1 : Int32).toInt = 1 := rfl
        have t : (d + 1).toInt = d.toInt + (1 : Int32).toInt := z_tadd (a := 0) (b := 30000) ⟨by omega, by omega⟩ (zr_c (lo := 1) (hi := 1) (x := 1) (by decide)) (by decide)
        obtain ⟨i1, i2, i3, i4, i5, i6, i7⟩ := z_inv hK hb hb2 hl hl2 hp he
        refine jc_head hC kb hb hb2 hl hl2 hp (by omega) q w (fun s j => ?_)
        have go : zp2 (fX11_run_15 n s 1000000 x3 (d + 1)) (fX12_picture_70 (fX12_picture_40 m) μ x2 d) (fun r r' => r.2 = r'.2 ∧ zTh 0 r'.1) := by
          unfold fX12_picture_70
          refine zp2_bur (jm_once hM hb hb2 hl hl2 hp (by omega)) (fun s2 j2 => zp2_bvr (fun v e => ?_))
          subst e
          exact ih m s s2 _ _ _ _ j j2 i2 i3 i4 i5 (by omega) (by omega) (by omega) (by omega)
        unfold fX12_picture_40_body
        refine zp2_ckr (zp2_ifr (fun r => ?_) (fun _ => zp2_ifr (fun _ => go) (fun _ => zp2_ckr (zp2_bir (jm_isStop hM.2.2.2.2.2.1) (fun s3 v3 e3 => ?_)))))
        · have lt : lg_cmp (μ.2 4 2) x2 < 0 := z_cmp_lt.mpr (by omega)
          have := Int32.lt_iff_toInt_lt.mp lt
          have := Int32.le_iff_toInt_le.mp (show 0 ≤ lg_cmp (μ.2 4 2) x2 from r)
          exfalso; omega
        · cases e3
          exact zp2_ifr (fun _ => go) (fun r => absurd rfl r)
      · unfold fX11_run_15_body fX11_run_135
        refine zp2_ifl (fun r => absurd r q) (fun _ => zp2_bll (jc_count hC) (fun s v e => ?_))
        obtain ⟨e1, e2⟩ := e
        have e2 : v.toInt = p := e2
        refine zp2_ifl (fun _ => ?_) (fun r => ?_)
        · unfold fX12_picture_40_body fX12_picture_80
          refine zp2_ckr (zp2_ifr (fun _ => zp2_some ⟨rfl, hM.2.2.2.2.2.2.2.2⟩) (fun r => ?_))
          have := z_cmp_lt.mp (z_nle r)
          exfalso
          have e4 : (zgl μ 4 (2 : Int32).toNatClampNeg).toInt = p := mp
          omega
        · have := z_cmp_lt.mp (z_nle r)
          exfalso; omega
theorem zp2_bilp {α β : Type} {o : Option (zSt × Int32)} {p : Option β} {f : zSt → Int32 → Option α} {P : zSt × Int32 → β → Prop} {Q : α → β → Prop} (h : zp2 o p P) (k : ∀ s v b, P (s, v) b → zp2 (f s v) (some b) Q) : zp2 (zbi o f) p Q := by
  intro a b ea eb
  cases e : o with
  | none => rw [e] at ea; cases ea
  | some r =>
    rw [e] at ea
    exact k r.1 r.2 b (h r b e eb) a b ea rfl
theorem f_J : ∀ k : Fin 3, zJC 0 0 0 (if k.val = 1 then 313 else 262) (zFC (Int32.ofNat k.val)) ∧ zJM 0 0 0 (if k.val = 1 then 313 else 262) (zsi (zFM (Int32.ofNat k.val)) 0 0 0) := by
  unfold zJC zJM
  decide +kernel
theorem v1_step {k : Fin 3} {x : Int32} (h : zFr k σ μ) : zp2 (fL_step (fun _ => 0) σ x) (fX12_step μ x) zCv := by
  obtain ⟨e1, e2⟩ := h
  subst e1
  subst e2
  unfold fL_step
  refine zAns.h ?_
  obtain ⟨jc, jm⟩ := f_J k
  have hK : (if k.val = 1 then (313 : Int) else 262) = 262 ∨ (if k.val = 1 then (313 : Int) else 262) = 313 := by
    by_cases q : k.val = 1
    · rw [if_pos q]; exact Or.inr rfl
    · rw [if_neg q]; exact Or.inl rfl
  generalize (if k.val = 1 then (313 : Int) else 262) = K at jc jm hK
  unfold fX11_step fX12_step fX11_step_12 fX12_step_18
  refine zp2_within (fun w1 w2 => ?_) (fun w => ?_)
  · have hx := z_wir w1 w2 (zrl_c (lo := 1) (hi := 1) (by decide)) (zrl_c (lo := 20000) (hi := 20000) (by decide))
    refine zp2_ifr (fun q => absurd q (by decide)) (fun _ => zp2_fails0 (fun μ1 e1 => ?_))
    rw [← e1] at jm
    refine zp2_ifr (fun _ => ?_) (fun q => absurd rfl q)
    refine zp2_ifl (fun q => absurd q (zq_lt hx rfl (by decide))) (fun _ => zp2_ifl (fun _ => ?_) (fun q => absurd (zq_le hx rfl (by decide)) q))
    refine zp2_bilp (P := fun r r' => r.2 = r'.2 ∧ zTh 0 r'.1) ?_ (fun s v r' q => zp2_some (Or.inr ⟨s, by rw [← q.1], q.2⟩))
    unfold fX11_run
    refine zp2_bll (jc_count jc) (fun s v q => zp2_bvl (fun y ey => ?_))
    obtain ⟨q1, q2⟩ := q
    have q1 : s = zFC (Int32.ofNat k.val) := q1
    have q2 : v.toInt = 0 := q2
    have hx1 := hx.1
    have hx2 := hx.2
    have c1 : (1 : Int32).toInt = 1 := rfl
    have t : (x + 1).toInt = x.toInt + (1 : Int32).toInt := z_tadd hx (zr_c (lo := 1) (hi := 1) (x := 1) (by decide)) (by decide)
    have t2 : (v + (x + 1).toInt64).toInt = v.toInt + (x + 1).toInt64.toInt := z_tladd (a := 0) (b := 0) (c := 0) (d := 30000) ⟨by omega, by omega⟩ ⟨by rw [Int32.toInt_toInt64]; omega, by rw [Int32.toInt_toInt64]; omega⟩ (by decide)
    rw [Int32.toInt_toInt64] at t2
    rw [q1]
    have kp : 0 < K := by rcases hK with e | e <;> omega
    exact z2_stepl (x := x) (x3 := y) hx2 (by rw [ey]; omega) hK zfuel zfuel _ _ 0 0 0 0 jc jm (by decide) (by decide) (by decide) kp (by decide) (by decide) (by show (0 : Int) ≤ x.toInt; omega) (by show 11 * (0 : Int) = _; omega)
  · have hn := z_nin w (a := 1) (b := 20000) rfl rfl
    refine zp2_ifr (fun _ => zp2_fails1 (fun μ1 e1 => ?_)) (fun q => absurd rfl q)
    refine zp2_ifr (fun q => absurd q (by decide)) (fun _ => ?_)
    have c2 : (20000 : Int32).toInt = 20000 := rfl
    have c1 : (1 : Int32).toInt = 1 := rfl
    refine zp2_ifl (fun _ => zp2_some (Or.inl ⟨_, rfl, by rw [e1]; exact zTh_own⟩)) (fun q => zp2_ifl (fun q1 => ?_) (fun _ => zp2_some (Or.inl ⟨_, rfl, by rw [e1]; exact zTh_own⟩)))
    have r1 := Int32.le_iff_toInt_le.mp (z_nlt q)
    have r2 := Int32.le_iff_toInt_le.mp q1
    exfalso; omega
theorem v1_picture {k : Fin 3} {x : Int32} (h : zFr k σ μ) : zp2 (fL_picture (fun _ => 0) σ x) (fX12_picture μ x) zCv := by
  obtain ⟨e1, e2⟩ := h
  subst e1
  subst e2
  unfold fL_picture
  refine zAns.h ?_
  obtain ⟨jc, jm⟩ := f_J k
  have hK : (if k.val = 1 then (313 : Int) else 262) = 262 ∨ (if k.val = 1 then (313 : Int) else 262) = 313 := by
    by_cases q : k.val = 1
    · rw [if_pos q]; exact Or.inr rfl
    · rw [if_neg q]; exact Or.inl rfl
  generalize (if k.val = 1 then (313 : Int) else 262) = K at jc jm hK
  unfold fX11_picture fX12_picture fX11_picture_10 fX12_picture_18
  refine zp2_within (fun w1 w2 => ?_) (fun w => ?_)
  · have hx := z_wir w1 w2 (zrl_c (lo := 1) (hi := 1) (by decide)) (zrl_c (lo := 3) (hi := 3) (by decide))
    refine zp2_ifr (fun q => absurd q (by decide)) (fun _ => zp2_fails0 (fun μ1 e1 => ?_))
    rw [← e1] at jm
    refine zp2_ifr (fun _ => zp2_ckr (zp2_bvr (fun y2 ey2 => ?_))) (fun q => absurd rfl q)
    refine zp2_ifl (fun q => absurd q (zq_lt hx rfl (by decide))) (fun _ => zp2_ifl (fun _ => ?_) (fun q => absurd (zq_le hx rfl (by decide)) q))
    refine zp2_bilp (P := fun r r' => r.2 = r'.2 ∧ zTh 0 r'.1) ?_ (fun s v r' q => zp2_some (Or.inr ⟨s, by rw [← q.1], q.2⟩))
    unfold fX11_run
    refine zp2_bll (jc_count jc) (fun s v q => zp2_bvl (fun y ey => ?_))
    obtain ⟨q1, q2⟩ := q
    have q1 : s = zFC (Int32.ofNat k.val) := q1
    have q2 : v.toInt = 0 := q2
    have hx1 := hx.1
    have hx2 := hx.2
    have t2 : (v + x.toInt64).toInt = v.toInt + x.toInt64.toInt := z_tladd (a := 0) (b := 0) (c := 0) (d := 30000) ⟨by omega, by omega⟩ ⟨by rw [Int32.toInt_toInt64]; omega, by rw [Int32.toInt_toInt64]; omega⟩ (by decide)
    have m2 : (μ1.2 4 2).toInt = 0 := jm.2.2.2.2.1
    have t3 : (μ1.2 4 2 + x.toInt64).toInt = (μ1.2 4 2).toInt + x.toInt64.toInt := z_tladd (a := 0) (b := 0) (c := 0) (d := 30000) ⟨by omega, by omega⟩ ⟨by rw [Int32.toInt_toInt64]; omega, by rw [Int32.toInt_toInt64]; omega⟩ (by decide)
    have ey2 : y2 = μ1.2 4 2 + x.toInt64 := ey2
    rw [Int32.toInt_toInt64] at t2 t3
    rw [q1]
    have kp : 0 < K := by rcases hK with e | e <;> omega
    exact z2_pictl (x2 := y2) (x3 := y) (by rw [ey, ey2]; omega) (by rw [ey2]; omega) hK zfuel zfuel _ _ 0 0 0 0 jc jm (by decide) (by decide) (by decide) kp (by decide) (by decide) (by decide) (by show 11 * (0 : Int) = _; omega)
  · have hn := z_nin w (a := 1) (b := 3) rfl rfl
    refine zp2_ifr (fun _ => zp2_fails1 (fun μ1 e1 => ?_)) (fun q => absurd rfl q)
    refine zp2_ifr (fun q => absurd q (by decide)) (fun _ => ?_)
    have c2 : (3 : Int32).toInt = 3 := rfl
    have c1 : (1 : Int32).toInt = 1 := rfl
    refine zp2_ifl (fun _ => zp2_some (Or.inl ⟨_, rfl, by rw [e1]; exact zTh_own⟩)) (fun q => zp2_ifl (fun q1 => ?_) (fun _ => zp2_some (Or.inl ⟨_, rfl, by rw [e1]; exact zTh_own⟩)))
    have r1 := Int32.le_iff_toInt_le.mp (z_nlt q)
    have r2 := Int32.le_iff_toInt_le.mp q1
    exfalso; omega
end ZLP
