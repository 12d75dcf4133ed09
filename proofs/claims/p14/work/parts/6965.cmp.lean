/-! partial answers: what holds of an answer, if there is one -/
def zpc {α : Type} (o : Option α) (Q : α → Prop) : Prop := ∀ r, o = some r → Q r
theorem zpc_none {α : Type} {Q : α → Prop} : zpc (none : Option α) Q := fun r e => by cases e
theorem zpc_some {α : Type} {Q : α → Prop} {a : α} (h : Q a) : zpc (some a) Q := fun r e => by cases e; exact h
theorem zpc_ck {α : Type} {Q : α → Prop} {b : Bool} {x : Option α} (h : zpc x Q) : zpc (zck b x) Q := by
  cases b
  · exact zpc_none
  · exact h
theorem zpc_if {α : Type} {c : Prop} {d : Decidable c} {x y : Option α} {Q : α → Prop} (h1 : c → zpc x Q) (h2 : ¬ c → zpc y Q) : zpc (@ite _ c d x y) Q := by
  by_cases q : c
  · rw [if_pos q]; exact h1 q
  · rw [if_neg q]; exact h2 q
theorem zpc_bv {α β : Type} {x : α} {f : α → Option β} {Q : β → Prop} (h : ∀ y, y = x → zpc (f y) Q) : zpc (zbv x f) Q := h x rfl
theorem zpc_bi {α : Type} {o : Option (zSt × Int32)} {f : zSt → Int32 → Option α} {P : zSt × Int32 → Prop} {Q : α → Prop} (h : zpc o P) (k : ∀ σ v, P (σ, v) → zpc (f σ v) Q) : zpc (zbi o f) Q := by
  cases o with
  | none => exact zpc_none
  | some a => exact k a.1 a.2 (h a rfl)
theorem zpc_bu {α : Type} {o : Option zSt} {f : zSt → Option α} {P : zSt → Prop} {Q : α → Prop} (h : zpc o P) (k : ∀ σ, P σ → zpc (f σ) Q) : zpc (zbu o f) Q := by
  cases o with
  | none => exact zpc_none
  | some a => exact k a (h a rfl)
theorem zpc_of {α : Type} {o : Option α} {P : α → Prop} (h : zok o P) : zpc o P := fun r e => by
  obtain ⟨a, e1, p⟩ := h
  rw [e1] at e
  cases e
  exact p
theorem zok_zpc {α : Type} {o : Option α} {P Q : α → Prop} (h : zok o P) (k : zpc o Q) : zok o (fun r => P r ∧ Q r) := by
  obtain ⟨a, e, p⟩ := h
  exact ⟨a, e, p, k a e⟩
theorem zpc_and {α : Type} {o : Option α} {P Q : α → Prop} (h : zpc o P) (k : zpc o Q) : zpc o (fun r => P r ∧ Q r) := fun r e => ⟨h r e, k r e⟩
theorem zpc_mono {α : Type} {o : Option α} {P Q : α → Prop} (h : zpc o P) (k : ∀ a, P a → Q a) : zpc o Q := fun r e => k r (h r e)
theorem zpc_within {α : Type} {σ : zSt} {a l h : Int64} {f : zSt → Int32 → Option α} {P : α → Prop} (k1 : l.toInt ≤ a.toInt → a.toInt ≤ h.toInt → zpc (f σ 1) P) (k0 : (a.toInt < l.toInt ∨ h.toInt < a.toInt) → zpc (f σ 0) P) : zpc (zbi (fX12_within σ a l h) f) P := by
  unfold fX12_within
  by_cases q1 : lg_cmp a l < 0
  · rw [if_pos q1]; exact k0 (Or.inl (z_cmp_lt.mp q1))
  · rw [if_neg q1]
    by_cases q2 : 0 < lg_cmp a h
    · rw [if_pos q2]; exact k0 (Or.inr (z_cmp_gt.mp q2))
    · rw [if_neg q2]
      exact k1 (Int.not_lt.mp (fun r => q1 (z_cmp_lt.mpr r))) (Int.not_lt.mp (fun r => q2 (z_cmp_gt.mpr r)))
theorem zpc_fails0 {α : Type} {σ : zSt} {c : Int32} {f : zSt → Int32 → Option α} {P : α → Prop} (k : ∀ σ1, σ1 = zsi σ 0 0 0 → zpc (f σ1 0) P) : zpc (zbi (fX12_fails σ 0 c) f) P := by
  unfold fX12_fails
  rw [if_pos rfl]
  exact k _ rfl
theorem zpc_fails1 {α : Type} {σ : zSt} {c : Int32} {f : zSt → Int32 → Option α} {P : α → Prop} (k : ∀ σ1, σ1 = zsi σ 0 0 c → zpc (f σ1 1) P) : zpc (zbi (fX12_fails σ 1 c) f) P := by
  unfold fX12_fails
  rw [if_neg (by decide)]
  exact k _ rfl
/-! the reference's thrown kind -/
def zTh (v : Int32) (σ : zSt) : Prop := zgi σ 0 0 = v
theorem zTh_own {σ : zSt} {v : Int32} : zTh v (zsi σ 0 0 v) := by
  show (zsi σ 0 0 v).1 0 0 = v
  exact zsi_ej
theorem zTh.w {v x : Int32} {σ : zSt} {k j : Nat} (h : zTh v σ) (c : ¬ (0 = k ∧ 0 = j)) : zTh v (zsi σ k j x) := by
  show (zsi σ k j x).1 0 0 = v
  rw [zsi_off c]
  exact h
theorem z_within {x : Int32} {l h : Int64} {a b : Int} (w : x.toInt64.toInt < l.toInt ∨ h.toInt < x.toInt64.toInt) (hl : l.toInt = a) (hh : h.toInt = b) : ¬ zr a b x := by
  rw [Int32.toInt_toInt64, hl, hh] at w
  intro q
  obtain ⟨q1, q2⟩ := q
  omega
theorem z_cmp {A : Prop} {v w : Int32} (h : (A ∧ v = 0) ∨ (¬ A ∧ v = 1)) (k : (A ∧ w = 0) ∨ (¬ A ∧ w = 1)) : w = v := by
  rcases h with ⟨a, b⟩ | ⟨a, b⟩ <;> rcases k with ⟨c, d⟩ | ⟨c, d⟩
  · exact d.trans b.symm
  · exact absurd a c
  · exact absurd c a
  · exact d.trans b.symm
theorem zTh_hu {n : Nat} {A : Prop} {I : zSt → Prop} {q : Option zRu} (h : zok q (fun r => (A ∧ ∃ s, r = Sum.inl s ∧ I s) ∨ (¬ A ∧ ∃ s, r = Sum.inr (s, n) ∧ I s))) : zok (zbr q (zhu (zh1 n))) (fun r => I r.1 ∧ ((A ∧ r.2 = 0) ∨ (¬ A ∧ r.2 = 1))) := by
  refine zok_zbr h (fun r hr => ?_)
  rcases hr with ⟨a, s, e, i⟩ | ⟨a, s, e, i⟩
  · subst e
    show zok (some (s, (0 : Int32))) _
    exact zok_some ⟨i, Or.inl ⟨a, rfl⟩⟩
  · subst e
    show zok (zh1 n s n) _
    unfold zh1
    rw [if_pos rfl]
    exact zok_some ⟨i, Or.inr ⟨a, rfl⟩⟩
/-! line -/
theorem q_lineC {H : Nat → Int} {σ : zSt} (hσ : zIC H σ) {a b : Int32} (hb : zr 0 1 b) : zok (fL_line σ a b) (fun r => zIC H r.1 ∧ ((zr 0 1 a ∧ r.2 = 0) ∨ (¬ zr 0 1 a ∧ r.2 = 1))) := by
  unfold fL_line
  refine zTh_hu ?_
  unfold fX11_line fX11_line_9
  have c0 : (0 : Int32).toInt = 0 := rfl
  have c1 : (1 : Int32).toInt = 1 := rfl
  refine zok_if (fun q => zok_some (Or.inr ⟨fun h => ?_, σ, rfl, hσ⟩)) (fun q => zok_if (fun q1 => ?_) (fun q1 => zok_some (Or.inr ⟨fun h => ?_, σ, rfl, hσ⟩)))
  · have r := Int32.lt_iff_toInt_lt.mp q; have := h.1; omega
  · have r := Int32.le_iff_toInt_le.mp (z_nlt q)
    have r1 := Int32.le_iff_toInt_le.mp q1
    have ha : zr 0 1 a := ⟨by omega, by omega⟩
    exact zok_bu (s_X4_moveLine hσ ha hb) (fun σ3 i3 => zok_some (Or.inl ⟨ha, σ3, rfl, i3⟩))
  · have r := Int32.lt_iff_toInt_lt.mp (z_nle q1); have := h.2; omega
theorem p_lineAt {σ : zSt} {x : Int32} : zpc (fX12_lineAt σ x) (fun r => r.1 = σ) := by
  unfold fX12_lineAt fX12_lineAt_45
  exact zpc_ck (zpc_if (fun _ => zpc_ck (zpc_some rfl)) (fun _ => zpc_ck (zpc_some rfl)))
theorem p_hCount {σ : zSt} : zpc (fX12_hCount σ ) (fun r => r.1 = σ) := by
  unfold fX12_hCount fX12_hCount_27
  exact zpc_ck (zpc_ck (zpc_bv (fun _ _ => zpc_if (fun _ => zpc_some rfl) (fun _ => zpc_some rfl))))
theorem p_line {μ : zSt} {a b : Int32} : zpc (fX12_line μ a b) (fun r => (zr 0 1 a ∧ zTh 0 r) ∨ (¬ zr 0 1 a ∧ zTh 1 r)) := by
  unfold fX12_line
  refine zpc_within (fun w1 w2 => ?_) (fun w3 => ?_)
  · have h := z_wir w1 w2 (zrl_c (lo := 0) (hi := 0) (by decide)) (zrl_c (lo := 1) (hi := 1) (by decide))
    refine zpc_if (fun q => absurd q (by decide)) (fun _ => ?_)
    unfold fX12_line_16
    refine zpc_fails0 (fun σ1 e1 => ?_)
    have t1 : zTh 0 σ1 := by subst e1; exact zTh_own
    refine zpc_if (fun _ => ?_) (fun q => absurd rfl q)
    have fin : ∀ σ2, zTh 0 σ2 → zpc (fX12_line_72 σ2 ) (fun r => (zr 0 1 a ∧ zTh 0 r) ∨ (¬ zr 0 1 a ∧ zTh 1 r)) := fun σ2 t => zpc_some (Or.inl ⟨h, t⟩)
    have f47 : ∀ x3 s0 s1, zpc (fX12_line_47 σ1 a x3 s0 s1) (fun r => (zr 0 1 a ∧ zTh 0 r) ∨ (¬ zr 0 1 a ∧ zTh 1 r)) := fun x3 s0 s1 => by
      unfold fX12_line_47
      refine zpc_ck (zpc_bv (fun σ2 e2 => ?_))
      have t2 : zTh 0 σ2 := by subst e2; exact t1.w (fun r => absurd r.1 (by decide))
      refine zpc_if (fun _ => zpc_bi p_lineAt (fun σ3 v3 h3 => ?_)) (fun _ => fin _ t2)
      have h3 : σ3 = σ2 := h3
      subst h3
      refine zpc_if (fun _ => zpc_bi p_hCount (fun σ4 v5 h4 => ?_)) (fun _ => fin _ t2)
      have h4 : σ4 = σ3 := h4
      subst h4
      exact zpc_ck (zpc_bv (fun σ6 e6 => fin _ (by subst e6; exact t2.w (fun r => absurd r.1 (by decide)))))
    refine zpc_bi p_lineAt (fun σ9 v10 h9 => ?_)
    have h9 : σ9 = σ1 := h9
    subst h9
    exact zpc_if (fun _ => f47 _ _ _) (fun _ => f47 _ _ _)
  · refine zpc_if (fun _ => ?_) (fun q => absurd rfl q)
    unfold fX12_line_16
    refine zpc_fails1 (fun σ1 e1 => ?_)
    exact zpc_if (fun q => absurd q (by decide)) (fun _ => zpc_some (Or.inr ⟨z_within w3 rfl rfl, by subst e1; exact zTh_own⟩))
theorem q_lineM {G : Nat → Int} {μ : zSt} (hμ : zIM G μ) {a b : Int32} (hb : zr 0 1 b) : zok (fX12_line μ a b) (fun r => zIM G r ∧ ((zr 0 1 a ∧ zgi r 0 0 = 0) ∨ (¬ zr 0 1 a ∧ zgi r 0 0 = 1))) := zok_zpc (s_X12_line hμ hb) p_line
/-! set -/
theorem q_setC {H : Nat → Int} {σ : zSt} (hσ : zIC H σ) {a b : Int32} : zok (fL_set σ a b) (fun r => zIC H r.1 ∧ ((zr 0 25 a ∧ r.2 = 0) ∨ (¬ zr 0 25 a ∧ r.2 = 1))) := by
  unfold fL_set
  refine zTh_hu ?_
  unfold fX11_set fX11_set_10
  have c0 : (0 : Int32).toInt = 0 := rfl
  have c1 : (25 : Int32).toInt = 25 := rfl
  refine zok_if (fun q => zok_some (Or.inr ⟨fun h => ?_, σ, rfl, hσ⟩)) (fun q => zok_if (fun q1 => ?_) (fun q1 => zok_some (Or.inr ⟨fun h => ?_, σ, rfl, hσ⟩)))
  · have r := Int32.lt_iff_toInt_lt.mp q; have := h.1; omega
  · have r := Int32.le_iff_toInt_le.mp (z_nlt q)
    have r1 := Int32.le_iff_toInt_le.mp q1
    have ha : zr 0 25 a := ⟨by omega, by omega⟩
    exact zok_bu (s_X5_change hσ ha) (fun σ3 i3 => zok_some (Or.inl ⟨ha, σ3, rfl, i3⟩))
  · have r := Int32.lt_iff_toInt_lt.mp (z_nle q1); have := h.2; omega
theorem p_set {μ : zSt} {a b : Int32} : zpc (fX12_set μ a b) (fun r => (zr 0 25 a ∧ zTh 0 r) ∨ (¬ zr 0 25 a ∧ zTh 1 r)) := by
  unfold fX12_set
  refine zpc_within (fun w1 w2 => ?_) (fun w3 => ?_)
  · have h := z_wir w1 w2 (zrl_c (lo := 0) (hi := 0) (by decide)) (zrl_c (lo := 25) (hi := 25) (by decide))
    refine zpc_if (fun q => absurd q (by decide)) (fun _ => ?_)
    unfold fX12_set_18
    refine zpc_fails0 (fun σ1 e1 => ?_)
    have t1 : zTh 0 σ1 := by subst e1; exact zTh_own
    refine zpc_if (fun _ => ?_) (fun q => absurd rfl q)
    have f1 : ∀ s0 s1, zpc (fX12_set_51 σ1 s0 s1) (fun r => (zr 0 25 a ∧ zTh 0 r) ∨ (¬ zr 0 25 a ∧ zTh 1 r)) := fun s0 s1 => zpc_ck (zpc_bv (fun σ2 e2 => zpc_some (Or.inl ⟨h, by subst e2; exact t1.w (fun r => absurd r.1 (by decide))⟩)))
    have f2 : ∀ s0 s1, zpc (fX12_set_104 σ1 s0 s1) (fun r => (zr 0 25 a ∧ zTh 0 r) ∨ (¬ zr 0 25 a ∧ zTh 1 r)) := fun s0 s1 => zpc_ck (zpc_bv (fun σ2 e2 => zpc_some (Or.inl ⟨h, by subst e2; exact t1.w (fun r => absurd r.1 (by decide))⟩)))
    exact zpc_if (fun _ => zpc_if (fun _ => f1 _ _) (fun _ => f1 _ _)) (fun _ => zpc_if (fun _ => zpc_if (fun _ => zpc_if (fun _ => f2 _ _) (fun _ => f2 _ _)) (fun _ => f2 _ _)) (fun _ => f2 _ _))
  · refine zpc_if (fun _ => ?_) (fun q => absurd rfl q)
    unfold fX12_set_18
    refine zpc_fails1 (fun σ1 e1 => ?_)
    exact zpc_if (fun q => absurd q (by decide)) (fun _ => zpc_some (Or.inr ⟨z_within w3 rfl rfl, by subst e1; exact zTh_own⟩))
theorem q_setM {G : Nat → Int} {μ : zSt} (hμ : zIM G μ) {a b : Int32} : zok (fX12_set μ a b) (fun r => zIM G r ∧ ((zr 0 25 a ∧ zgi r 0 0 = 0) ∨ (¬ zr 0 25 a ∧ zgi r 0 0 = 1))) := zok_zpc (s_X12_set hμ) p_set
