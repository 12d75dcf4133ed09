/-! answers on fresh states, by hand -/
theorem zAns.h2 {o : Nat → Int64} {q : Option zRi} {p : Option (zSt × Int32)} (h : zp2 q p (zAns 1)) : zp2 (zbr q (zhi o zh2)) p zCv := by
  intro a c ea ec
  cases e : q with
  | none => rw [e] at ea; cases ea
  | some r =>
    have i := h r c e ec
    rw [e] at ea
    have ea : zhi o zh2 r = some a := ea
    rcases i with ⟨s, e1, t⟩ | ⟨s, e1, t⟩
    · subst e1
      have ea : some ((o, s), (1 : Int32)) = some a := ea
      cases ea
      exact ⟨t, fun z => absurd (show (1 : Int32) = 0 from z) (by decide)⟩
    · subst e1
      have ea : some ((vp_updL o 0 c.2.toInt64, s), (0 : Int32)) = some a := ea
      cases ea
      refine ⟨t, fun _ => ?_⟩
      show (if (0 : Nat) = 0 then c.2.toInt64 else o 0).toInt = _
      rw [if_pos rfl, Int32.toInt_toInt64]
section ZF4
variable {σ μ : zSt} {x y z : Int32} {k : Fin 3}
theorem f_me (h : zFr k σ μ) : zMe σ μ ∧ zMr σ μ := by
  obtain ⟨e1, e2⟩ := h
  subst e1
  subst e2
  refine ⟨⟨fun j _ => (show (0 : Int32) = 0 &&& 255 by decide), fun j _ => (show (0 : Int32) = 0 &&& 255 by decide), fun j hj => ?_, rfl, ⟨rfl, rfl, rfl, rfl, fun j hj => ?_, fun h => absurd (show (0 : Int) ≤ (-1 : Int32).toInt from h) (by decide)⟩, fun j h1 h2 => ?_⟩, ?_⟩
  · match j, hj with
    | 0, _ => rfl
    | 1, _ => rfl
    | 2, _ => rfl
  · have hj : (j : Int) < (0 : Int32).toInt := hj
    have : (0 : Int32).toInt = 0 := rfl
    exfalso; omega
  · have h2 : (j : Int) < 16384 * (0 : Int32).toInt := h2
    have : (0 : Int32).toInt = 0 := rfl
    exfalso; omega
  · refine ⟨zr_c (x := 0) (by decide), zr_c (x := 0) (by decide), zr_c (x := 0) (by decide), zr_c (x := 0) (by decide), Or.inl rfl, fun j h1 h2 => ?_⟩
    rcases (show j = 29 ∨ j = 30 ∨ j = 31 ∨ j = 32 by omega) with e | e | e | e <;> subst e
    · exact zr_c (x := 0) (by decide)
    · exact zr_c (x := 1) (by decide)
    · exact zr_c (x := 2) (by decide)
    · exact zr_c (x := 0) (by decide)
theorem v1_battery (h : zFr k σ μ) : zp2 (fL_battery (fun _ => 0) σ x) (fX12_battery μ x) zCv := by
  unfold fL_battery
  exact zAns.h (v_battery (f_me h).1)
theorem v1_peek (h : zFr k σ μ) : zp2 (fX11_peek σ x) (fX12_peek μ x) (fun r q => r.2 = q.2) := v_peek (f_me h).1 (f_me h).2
/-! dots and rows: nothing is painted yet -/
theorem pc_dotAt (h : ∀ j, σ.1 25 j = 0) : zpc (fX3_dotAt σ x y) (fun r => r.2 = 0) := by
  unfold fX3_dotAt fX3_placeOf fX3_placeOf_26 fX3_dotAt_30 fX3_dotAt_31
  refine zpc_bi (P := fun r => r.1 = σ) (zpc_if (fun _ => zpc_some rfl) (fun _ => zpc_some rfl)) (fun s v e => ?_)
  have e : s = σ := e
  subst e
  exact zpc_bv (fun w _ => zpc_if (fun _ => zpc_some rfl) (fun _ => zpc_if (fun _ => zpc_some rfl) (fun _ => zpc_ck (zpc_some (h _)))))
theorem p_width : zpc (fX3_width σ ) (fun r => r = (σ, if σ.1 3 1 = 0 then 256 else 160)) := by
  unfold fX3_width fX3_width_16
  exact zpc_if (fun q => zpc_some (by rw [if_pos (show σ.1 3 1 = 0 from q)])) (fun q => zpc_some (by rw [if_neg (show ¬ σ.1 3 1 = 0 from q)]))
theorem p_pheight (h0 : zr 0 255 (σ.1 23 0)) (h1 : zr 0 255 (σ.1 23 1)) : zpc (fX3_height σ ) (fun r => r = (σ, if σ.1 3 1 = 0 then zht (σ.1 23 0) (σ.1 23 1) else 144)) := by
  unfold fX3_height fX3_height_20
  refine zpc_if (fun q => zpc_bi (p_heightC h0 h1) (fun s v e => ?_)) (fun q => zpc_some (by rw [if_neg (show ¬ σ.1 3 1 = 0 from q)]))
  cases e
  exact zpc_some (by rw [if_pos (show σ.1 3 1 = 0 from q)])
def zDt (w h x y : Int32) : Prop := ¬ x < 0 ∧ ¬ w ≤ x ∧ ¬ y < 0 ∧ y < h
theorem pc_dot (h0 : zr 0 255 (σ.1 23 0)) (h1 : zr 0 255 (σ.1 23 1)) (hz : ∀ j, σ.1 25 j = 0) : zpc (fX11_dot σ x y) (fun r => (zDt (if σ.1 3 1 = 0 then 256 else 160) (if σ.1 3 1 = 0 then zht (σ.1 23 0) (σ.1 23 1) else 144) x y ∧ ∃ s, r = Sum.inl (s, 0)) ∨ (¬ zDt (if σ.1 3 1 = 0 then 256 else 160) (if σ.1 3 1 = 0 then zht (σ.1 23 0) (σ.1 23 1) else 144) x y ∧ ∃ s, r = Sum.inr (s, 3))) := by
  unfold fX11_dot fX11_dot_30
  refine zpc_if (fun a => zpc_some (Or.inr ⟨fun d => d.1 a, σ, rfl⟩)) (fun a => zpc_bi p_width (fun s v e => ?_))
  cases e
  refine zpc_if (fun b => zpc_some (Or.inr ⟨fun d => d.2.1 b, σ, rfl⟩)) (fun b => zpc_if (fun c => zpc_some (Or.inr ⟨fun d => d.2.2.1 c, σ, rfl⟩)) (fun c => zpc_bi (p_pheight h0 h1) (fun s v e => ?_)))
  cases e
  refine zpc_if (fun d => zpc_bi (pc_dotAt hz) (fun s v e => ?_)) (fun d => zpc_some (Or.inr ⟨fun f => d f.2.2.2, σ, rfl⟩))
  have e : v = 0 := e
  exact zpc_some (Or.inl ⟨⟨a, b, c, d⟩, s, by rw [e]⟩)
theorem pm_dot (h0 : zr 0 255 (μ.1 3 47)) (h1 : zr 0 255 (μ.1 3 48)) (hz : ∀ j, μ.1 9 j = 0) : zpc (fX12_dot μ x y) (fun r => (zDt (if μ.1 0 3 = 2 then 160 else 256) (if μ.1 0 3 = 2 then 144 else zht (μ.1 3 47) (μ.1 3 48)) x y ∧ r.2 = 0 ∧ zTh 0 r.1) ∨ (¬ zDt (if μ.1 0 3 = 2 then 160 else 256) (if μ.1 0 3 = 2 then 144 else zht (μ.1 3 47) (μ.1 3 48)) x y ∧ zTh 1 r.1)) := by
  have no : ∀ (w h s : Int32), ¬ zDt w h x y → zpc (fX12_dot_58 μ x y s) (fun r => (zDt w h x y ∧ r.2 = 0 ∧ zTh 0 r.1) ∨ (¬ zDt w h x y ∧ zTh 1 r.1)) := fun w h s n => by
    unfold fX12_dot_58 fX12_dot_63
    exact zpc_fails1 (fun μ1 e1 => zpc_if (fun q => absurd q (by decide)) (fun _ => zpc_some (Or.inr ⟨n, by subst e1; exact zTh_own⟩)))
  have yes : ∀ (w h s : Int32), zDt w h x y → zpc (fX12_dot_63 μ x y s 0) (fun r => (zDt w h x y ∧ r.2 = 0 ∧ zTh 0 r.1) ∨ (¬ zDt w h x y ∧ zTh 1 r.1)) := fun w h s d => by
    unfold fX12_dot_63 fX12_dot_103
    refine zpc_fails0 (fun μ1 e1 => zpc_if (fun _ => ?_) (fun q => absurd rfl q))
    have t : zTh 0 μ1 := by subst e1; exact zTh_own
    have z9 : ∀ j, μ1.1 9 j = 0 := fun j => by subst e1; rw [zsi_ne (by decide)]; exact hz j
    exact zpc_if (fun _ => zpc_ck (zpc_some (Or.inl ⟨d, z9 _, t⟩))) (fun _ => zpc_ck (zpc_some (Or.inl ⟨d, z9 _, t⟩)))
  unfold fX12_dot fX12_dot_13 fX12_dot_37 fX12_dot_55
  refine zpc_if (fun k2 => ?_) (fun k2 => ?_)
  · have k2 : μ.1 0 3 = 2 := k2
    rw [if_pos k2, if_pos k2]
    refine zpc_if (fun a => no _ _ _ (fun d => d.1 a)) (fun a => zpc_if (fun c => no _ _ _ (fun d => d.2.2.1 c)) (fun c => zpc_if (fun q => absurd q (by decide)) (fun _ => ?_)))
    refine zpc_if (fun b => no _ _ _ (fun d => d.2.1 b)) (fun b => zpc_if (fun q => absurd q (by decide)) (fun _ => ?_))
    exact zpc_if (fun d => yes _ _ _ ⟨a, b, c, d⟩) (fun d => no _ _ _ (fun f => d f.2.2.2))
  · have k2 : ¬ μ.1 0 3 = 2 := k2
    rw [if_neg k2, if_neg k2]
    refine zpc_if (fun a => no _ _ _ (fun d => d.1 a)) (fun a => zpc_if (fun c => no _ _ _ (fun d => d.2.2.1 c)) (fun c => zpc_if (fun _ => ?_) (fun q => absurd rfl q)))
    refine zpc_if (fun b => no _ _ _ (fun d => d.2.1 b)) (fun b => zpc_if (fun _ => ?_) (fun q => absurd rfl q))
    refine zpc_bi (p_heightM h0 h1) (fun s v e => ?_)
    cases e
    exact zpc_if (fun d => yes _ _ _ ⟨a, b, c, d⟩) (fun d => no _ _ _ (fun f => d f.2.2.2))
theorem f_kd : ∀ k : Fin 3, ((zFC (Int32.ofNat k.val)).1 3 1 = 0 ∧ ¬ (zFM (Int32.ofNat k.val)).1 0 3 = 2) ∨ (¬ (zFC (Int32.ofNat k.val)).1 3 1 = 0 ∧ (zFM (Int32.ofNat k.val)).1 0 3 = 2) := by decide +kernel
theorem v1_dot (h : zFr k σ μ) : zp2 (fL_dot (fun _ => 0) σ x y) (fX12_dot μ x y) zCv := by
  obtain ⟨e1, e2⟩ := h
  subst e1
  subst e2
  unfold fL_dot
  refine zAns.h (zp2_of (pc_dot (zr_c (x := 0) (by decide)) (zr_c (x := 0) (by decide)) (fun j => rfl)) (pm_dot (zr_c (x := 0) (by decide)) (zr_c (x := 0) (by decide)) (fun j => rfl)) (fun a b p q => ?_))
  have z1 : zht ((zFC (Int32.ofNat k.val)).1 23 0) ((zFC (Int32.ofNat k.val)).1 23 1) = zht ((zFM (Int32.ofNat k.val)).1 3 47) ((zFM (Int32.ofNat k.val)).1 3 48) := rfl
  rw [z1] at p
  rcases f_kd k with ⟨c, d⟩ | ⟨c, d⟩
  · rw [if_pos c, if_pos c] at p
    rw [if_neg d, if_neg d] at q
    rcases p with ⟨p1, s, p2⟩ | ⟨p1, s, p2⟩ <;> rcases q with ⟨q1, q2, q3⟩ | ⟨q1, q2⟩
    · exact Or.inr ⟨s, by rw [p2, q2], q3⟩
    · exact absurd p1 q1
    · exact absurd q1 p1
    · exact Or.inl ⟨s, p2, q2⟩
  · rw [if_neg c, if_neg c] at p
    rw [if_pos d, if_pos d] at q
    rcases p with ⟨p1, s, p2⟩ | ⟨p1, s, p2⟩ <;> rcases q with ⟨q1, q2, q3⟩ | ⟨q1, q2⟩
    · exact Or.inr ⟨s, by rw [p2, q2], q3⟩
    · exact absurd p1 q1
    · exact absurd q1 p1
    · exact Or.inl ⟨s, p2, q2⟩
theorem pc_sum (hz : ∀ j, σ.1 25 j = 0) : ∀ (n : Nat) (a b : Int32), zpc (fX3_sumOfLine_31 n σ 0 a b) (fun r => r.2 = 0) := by
  intro n
  induction n with
  | zero => intro a b; exact zpc_none
  | succ n ih =>
    intro a b
    show zpc (fX3_sumOfLine_31_body (fX3_sumOfLine_31 n) σ 0 a b) _
    unfold fX3_sumOfLine_31_body
    refine zpc_if (fun _ => zpc_some rfl) (fun _ => zpc_ck (zpc_bv (fun v e => zpc_bv (fun w _ => ?_))))
    have e : v = 31 * 0 + σ.1 25 b.toNatClampNeg := e
    rw [hz, show (31 : Int32) * 0 + 0 = 0 by decide] at e
    subst e
    exact ih a w
theorem pc_row (h0 : zr 0 255 (σ.1 23 0)) (h1 : zr 0 255 (σ.1 23 1)) (hz : ∀ j, σ.1 25 j = 0) : zpc (fX11_row σ x) (fun r => ((¬ x < 0 ∧ x < (if σ.1 3 1 = 0 then zht (σ.1 23 0) (σ.1 23 1) else 144)) ∧ ∃ s, r = Sum.inl (s, 0)) ∨ (¬ (¬ x < 0 ∧ x < (if σ.1 3 1 = 0 then zht (σ.1 23 0) (σ.1 23 1) else 144)) ∧ ∃ s, r = Sum.inr (s, 3))) := by
  unfold fX11_row fX11_row_15
  refine zpc_if (fun a => zpc_some (Or.inr ⟨fun d => d.1 a, σ, rfl⟩)) (fun a => zpc_bi (p_pheight h0 h1) (fun s v e => ?_))
  cases e
  refine zpc_if (fun d => zpc_bi (P := fun r => r.2 = 0) ?_ (fun s v e => ?_)) (fun d => zpc_some (Or.inr ⟨fun f => d f.2, σ, rfl⟩))
  · unfold fX3_sumOfLine fX3_placeOf fX3_placeOf_26
    refine zpc_bi (P := fun r => r.1 = σ) (zpc_if (fun _ => zpc_some rfl) (fun _ => zpc_some rfl)) (fun s v e => ?_)
    have e : s = σ := e
    subst e
    refine zpc_bi p_width (fun s v e => ?_)
    cases e
    exact zpc_bv (fun _ _ => zpc_bv (fun _ _ => pc_sum hz _ _ _))
  · have e : v = 0 := e
    exact zpc_some (Or.inl ⟨⟨a, d⟩, s, by rw [e]⟩)
theorem pm_sum (hz : ∀ j, μ.1 9 j = 0) : ∀ (n : Nat) (a b c : Int32), zpc (fX12_row_56 n μ a b 0 c) (fun r => r.1 = μ ∧ r.2 = 0) := by
  intro n
  induction n with
  | zero => intro a b c; exact zpc_none
  | succ n ih =>
    intro a b c
    show zpc (fX12_row_56_body (fX12_row_56 n) μ a b 0 c) _
    have f : ∀ s0, zpc (fX12_row_111 (fX12_row_56 n) μ a b c s0 (31 * 0)) (fun r => r.1 = μ ∧ r.2 = 0) := fun s0 => by
      unfold fX12_row_111
      refine zpc_ck (zpc_bv (fun v e => zpc_bv (fun w _ => ?_)))
      have e : v = 31 * 0 + μ.1 9 s0.toNatClampNeg := e
      rw [hz, show (31 : Int32) * 0 + 0 = 0 by decide] at e
      subst e
      exact ih a b w
    unfold fX12_row_56_body fX12_row_71
    exact zpc_if (fun _ => zpc_if (fun _ => zpc_some ⟨rfl, rfl⟩) (fun _ => zpc_if (fun _ => f _) (fun _ => f _))) (fun _ => zpc_if (fun _ => zpc_some ⟨rfl, rfl⟩) (fun _ => zpc_if (fun _ => f _) (fun _ => f _)))
theorem pm_row (h0 : zr 0 255 (μ.1 3 47)) (h1 : zr 0 255 (μ.1 3 48)) (hz : ∀ j, μ.1 9 j = 0) : zpc (fX12_row μ x) (fun r => ((¬ x < 0 ∧ x < (if μ.1 0 3 = 2 then 144 else zht (μ.1 3 47) (μ.1 3 48))) ∧ r.2 = 0 ∧ zTh 0 r.1) ∨ (¬ (¬ x < 0 ∧ x < (if μ.1 0 3 = 2 then 144 else zht (μ.1 3 47) (μ.1 3 48))) ∧ zTh 1 r.1)) := by
  have no : ∀ (h s : Int32), ¬ (¬ x < 0 ∧ x < h) → zpc (fX12_row_37 μ x s) (fun r => ((¬ x < 0 ∧ x < h) ∧ r.2 = 0 ∧ zTh 0 r.1) ∨ (¬ (¬ x < 0 ∧ x < h) ∧ zTh 1 r.1)) := fun h s n => by
    unfold fX12_row_37 fX12_row_42
    exact zpc_fails1 (fun μ1 e1 => zpc_if (fun q => absurd q (by decide)) (fun _ => zpc_some (Or.inr ⟨n, by subst e1; exact zTh_own⟩)))
  have yes : ∀ (h s : Int32), (¬ x < 0 ∧ x < h) → zpc (fX12_row_42 μ x s 0) (fun r => ((¬ x < 0 ∧ x < h) ∧ r.2 = 0 ∧ zTh 0 r.1) ∨ (¬ (¬ x < 0 ∧ x < h) ∧ zTh 1 r.1)) := fun h s d => by
    unfold fX12_row_42
    refine zpc_fails0 (fun μ1 e1 => zpc_if (fun _ => ?_) (fun q => absurd rfl q))
    have t : zTh 0 μ1 := by subst e1; exact zTh_own
    have z9 : ∀ j, μ1.1 9 j = 0 := fun j => by subst e1; rw [zsi_ne (by decide)]; exact hz j
    exact zpc_mono (pm_sum z9 _ _ _ _) (fun r e => Or.inl ⟨d, e.2, by rw [e.1]; exact t⟩)
  unfold fX12_row fX12_row_13 fX12_row_34
  refine zpc_if (fun k2 => ?_) (fun k2 => ?_)
  · have k2 : μ.1 0 3 = 2 := k2
    rw [if_pos k2]
    exact zpc_if (fun a => no _ _ (fun d => d.1 a)) (fun a => zpc_if (fun q => absurd q (by decide)) (fun _ => zpc_if (fun d => yes _ _ ⟨a, d⟩) (fun d => no _ _ (fun f => d f.2))))
  · have k2 : ¬ μ.1 0 3 = 2 := k2
    rw [if_neg k2]
    refine zpc_if (fun a => no _ _ (fun d => d.1 a)) (fun a => zpc_if (fun _ => zpc_bi (p_heightM h0 h1) (fun s v e => ?_)) (fun q => absurd rfl q))
    cases e
    exact zpc_if (fun d => yes _ _ ⟨a, d⟩) (fun d => no _ _ (fun f => d f.2))
theorem v1_row (h : zFr k σ μ) : zp2 (fL_row (fun _ => 0) σ x) (fX12_row μ x) zCv := by
  obtain ⟨e1, e2⟩ := h
  subst e1
  subst e2
  unfold fL_row
  refine zAns.h (zp2_of (pc_row (zr_c (x := 0) (by decide)) (zr_c (x := 0) (by decide)) (fun j => rfl)) (pm_row (zr_c (x := 0) (by decide)) (zr_c (x := 0) (by decide)) (fun j => rfl)) (fun a b p q => ?_))
  have z1 : zht ((zFC (Int32.ofNat k.val)).1 23 0) ((zFC (Int32.ofNat k.val)).1 23 1) = zht ((zFM (Int32.ofNat k.val)).1 3 47) ((zFM (Int32.ofNat k.val)).1 3 48) := rfl
  rw [z1] at p
  rcases f_kd k with ⟨c, d⟩ | ⟨c, d⟩
  · rw [if_pos c] at p
    rw [if_neg d] at q
    rcases p with ⟨p1, s, p2⟩ | ⟨p1, s, p2⟩ <;> rcases q with ⟨q1, q2, q3⟩ | ⟨q1, q2⟩
    · exact Or.inr ⟨s, by rw [p2, q2], q3⟩
    · exact absurd p1 q1
    · exact absurd q1 p1
    · exact Or.inl ⟨s, p2, q2⟩
  · rw [if_neg c] at p
    rw [if_pos d] at q
    rcases p with ⟨p1, s, p2⟩ | ⟨p1, s, p2⟩ <;> rcases q with ⟨q1, q2, q3⟩ | ⟨q1, q2⟩
    · exact Or.inr ⟨s, by rw [p2, q2], q3⟩
    · exact absurd p1 q1
    · exact absurd q1 p1
    · exact Or.inl ⟨s, p2, q2⟩
/-! video: all 0 -/
theorem pc_eight (hz : ∀ j, σ.1 21 j = 0) : ∀ (n : Nat) (a b : Int32), zpc (fX9_eightFrom_6 n σ a 0 b) (fun r => r.2 = 0) := by
  intro n
  induction n with
  | zero => intro a b; exact zpc_none
  | succ n ih =>
    intro a b
    show zpc (fX9_eightFrom_6_body (fX9_eightFrom_6 n) σ a 0 b) _
    unfold fX9_eightFrom_6_body
    refine zpc_if (fun _ => zpc_some rfl) (fun _ => zpc_ck (zpc_bv (fun v e => zpc_bv (fun w _ => ?_))))
    have e : v = (zlshl 0 8) ||| ((σ.1 21 ((a + b) &&& 16383).toNatClampNeg).toInt64) := e
    rw [hz, show (zlshl 0 8) ||| ((0 : Int32).toInt64) = 0 by decide] at e
    subst e
    exact ih a w
theorem pm_eight (hz : ∀ j, μ.1 7 j = 0) : ∀ (n : Nat) (a b : Int32), zpc (fX12_video_11 n μ a 0 b) (fun r => r.2 = 0) := by
  intro n
  induction n with
  | zero => intro a b; exact zpc_none
  | succ n ih =>
    intro a b
    show zpc (fX12_video_11_body (fX12_video_11 n) μ a 0 b) _
    unfold fX12_video_11_body
    refine zpc_if (fun _ => zpc_some rfl) (fun _ => zpc_bi (P := fun r => r = (μ, 0)) ?_ (fun s u e => ?_))
    · unfold fX12_video8
      refine zpc_ck (zpc_some ?_)
      show (μ, μ.1 7 ((a + b) &&& 16383).toNatClampNeg &&& 255) = _
      rw [hz, show (0 : Int32) &&& 255 = 0 by decide]
    · cases e
      refine zpc_bv (fun v e => zpc_bv (fun w _ => ?_))
      rw [show (zlshl 0 8) ||| ((0 : Int32).toInt64) = 0 by decide] at e
      subst e
      exact ih a w
theorem f_v7 (k : Int32) (j : Nat) : (zFM k).1 7 j = 0 := by
  show (if 7 = 7 ∧ 0 + 0 ≤ j ∧ j < 0 + 16384 then (0 : Int32) else 0) = 0
  split <;> rfl
theorem v1_video (h : zFr k σ μ) : zp2 (fX11_video σ x) (fX12_video μ x) (fun r q => r.2.toInt = q.2.toInt) := by
  obtain ⟨e1, e2⟩ := h
  subst e1
  subst e2
  unfold fX11_video fX9_eightFrom fX12_video
  refine zp2_of (P := fun r => r.2 = 0) (P' := fun r => r.2 = 0) ?_ ?_ (fun a b e f => by rw [e, f])
  · exact zpc_bll (pc_eight (fun j => rfl) _ _ _) (fun s v e => zpc_some e)
  · exact zpc_bv (fun μ1 e => pm_eight (fun j => by subst e; rw [zsi_ne (by decide)]; exact f_v7 _ j) _ _ _)
/-! text: nothing is told yet -/
theorem v1_text (h : zFr k σ μ) : zp2 (fL_text (fun _ => 0) σ x) (fX12_text μ x) zCl := by
  obtain ⟨e1, e2⟩ := h
  subst e1
  subst e2
  unfold fL_text
  refine zOutl ?_ ?_
  · unfold fX11_text fX11_text_15
    refine zpc_if (fun _ => zpc_some ⟨_, rfl⟩) (fun q => zpc_if (fun r => absurd (show x < 0 from r) q) (fun _ => zpc_some ⟨_, rfl⟩))
  · unfold fX12_text
    refine zpc_within (fun w1 w2 => ?_) (fun w => zpc_if (fun _ => ?_) (fun q => absurd rfl q))
    · have a : (0 : Int) ≤ x.toInt64.toInt := w1
      have b : x.toInt64.toInt ≤ -1 := w2
      exfalso; omega
    · unfold fX12_text_22
      exact zpc_fails1 (fun μ1 e1 => zpc_if (fun q => absurd q (by decide)) (fun _ => zpc_some (by subst e1; exact zTh_own)))
end ZF4
