/-! FLAGS -/
theorem zpc_j {α : Type} {c : Prop} {d : Decidable c} {K : Int32 → Option α} {a b : Int32} {Q : α → Prop} (h : ∀ v, v = @ite _ c d a b → zpc (K v) Q) : zpc (@ite _ c d (K a) (K b)) Q := by
  by_cases q : c
  · rw [if_pos q]; exact h a (if_pos q).symm
  · rw [if_neg q]; exact h b (if_neg q).symm
theorem zsi_own {ν : zSt} {k j : Nat} : zsi ν k j (ν.1 k j) = ν := by
  refine Prod.ext (funext fun a => funext fun b => ?_) rfl
  rw [zsi_at]
  by_cases q : a = k ∧ b = j
  · rw [if_pos q, q.1, q.2]
  · rw [if_neg q]
theorem zsi_ow {ν : zSt} {k j : Nat} {v w : Int32} : zsi (zsi ν k j v) k j w = zsi ν k j w := by
  refine Prod.ext (funext fun a => funext fun b => ?_) rfl
  rw [zsi_at, zsi_at, zsi_at]
  by_cases q : a = k ∧ b = j
  · rw [if_pos q, if_pos q]
  · rw [if_neg q, if_neg q, if_neg q]
/-- the reference: a flag is put -/
def pt (f b v : Int32) : Int32 := if v = 0 then f &&& ((1 <<< (b &&& 31)) ^^^ (-1)) else f ||| (1 <<< (b &&& 31))
def gxy (f x : Int32) : Int32 := pt (pt f 5 (if x &&& 32 = 0 then 0 else 1)) 3 (if x &&& 8 = 0 then 0 else 1)
def gby (f x : Int32) : Int32 := gxy (pt (pt f 7 (if x &&& 128 = 0 then 0 else 1)) 6 (if x = 0 then 1 else 0)) x
def gsm (v : Int32) : Int32 := 0 + ((v >>> ((0 : Int32) &&& 31)) &&& 1) + ((v >>> ((1 : Int32) &&& 31)) &&& 1) + ((v >>> ((2 : Int32) &&& 31)) &&& 1) + ((v >>> ((3 : Int32) &&& 31)) &&& 1) + ((v >>> ((4 : Int32) &&& 31)) &&& 1) + ((v >>> ((5 : Int32) &&& 31)) &&& 1) + ((v >>> ((6 : Int32) &&& 31)) &&& 1) + ((v >>> ((7 : Int32) &&& 31)) &&& 1)
def gev (v : Int32) : Int32 := if zrem (gsm v) 2 = 0 then 1 else 0
section ZFL
variable {μ σ : zSt} {f b v x : Int32}
theorem p_put : zpc (fX12_put (zsi μ 3 1 f) b v) (fun r => r = zsi μ 3 1 (pt f b v)) := by
  unfold fX12_put fX12_put_34 pt
  refine zpc_if (fun q => zpc_ck (zpc_ck (zpc_bv (fun s e => zpc_some ?_)))) (fun q => zpc_ck (zpc_ck (zpc_bv (fun s e => zpc_some ?_))))
  · rw [if_pos q, e]; exact zsi_ow
  · rw [if_neg q, e]; exact zsi_ow
theorem p_xy : zpc (fX12_xy (zsi μ 3 1 f) x) (fun r => r = zsi μ 3 1 (gxy f x)) := by
  unfold fX12_xy
  refine zpc_j (K := fun v => fX12_xy_14 (zsi μ 3 1 f) x v 5) (a := 0) (b := 1) (fun v ev => ?_)
  unfold fX12_xy_14
  refine zpc_bu p_put (fun s e => ?_)
  subst e
  refine zpc_j (K := fun w => fX12_xy_31 (zsi μ 3 1 (pt f 5 v)) w 3) (a := 0) (b := 1) (fun w ew => ?_)
  unfold fX12_xy_31
  refine zpc_bu p_put (fun s e => zpc_some ?_)
  rw [e, ev, ew]
  rfl
theorem p_by : zpc (fX12_by (zsi μ 3 1 f) x) (fun r => r = zsi μ 3 1 (gby f x)) := by
  unfold fX12_by
  refine zpc_j (K := fun v => fX12_by_16 (zsi μ 3 1 f) x v 7) (a := 0) (b := 1) (fun v ev => ?_)
  unfold fX12_by_16
  refine zpc_bu p_put (fun s e => ?_)
  subst e
  refine zpc_j (K := fun w => fX12_by_31 (zsi μ 3 1 (pt f 7 v)) x w 6) (a := 1) (b := 0) (fun w ew => ?_)
  unfold fX12_by_31
  refine zpc_bu p_put (fun s e => ?_)
  subst e
  refine zpc_bu p_xy (fun s e => zpc_some ?_)
  rw [e, ev, ew]
  rfl
theorem p_flag : zpc (fX12_flag μ b) (fun r => r = (μ, (μ.1 3 1 >>> (b &&& 31)) &&& 1)) := by
  unfold fX12_flag
  exact zpc_ck (zpc_some rfl)
theorem e_even (n : Nat) : fX12_isEven_4 (n + 9) μ v 0 0 = zck (decide (¬ (2 : Int32) = 0)) (if zrem (gsm v) 2 = 0 then fX12_isEven_35 μ 1 else fX12_isEven_35 μ 0) := rfl
theorem p_even : zpc (fX12_isEven μ v) (fun r => r = (μ, gev v)) := by
  unfold fX12_isEven
  have e : fX12_isEven_4 zfuel μ v 0 0 = _ := e_even (μ := μ) (v := v) 1999991
  rw [e]
  unfold fX12_isEven_35 gev
  refine zpc_ck (zpc_if (fun q => zpc_ck (zpc_some ?_)) (fun q => zpc_ck (zpc_some ?_)))
  · rw [if_pos q]
  · rw [if_neg q]
theorem p_signed : zpc (fX12_signed μ v) (fun r => r = (μ, if 128 ≤ v then v - 256 else v)) := by
  unfold fX12_signed fX12_signed_16
  exact zpc_if (fun q => zpc_some (by rw [if_pos q])) (fun q => zpc_some (by rw [if_neg q]))
/-! the class -/
def cby (x : Int32) : Int32 := (x &&& 168) ||| (if x = 0 then 64 else 0)
def gbc (x : Int32) : Int32 :=
  let v1 := x - ((zush x 1) &&& 1431655765)
  let v2 := (v1 &&& 858993459) + ((zush v1 2) &&& 858993459)
  let v3 := (v2 + (zush v2 4)) &&& 252645135
  let v4 := v3 + (zush v3 8)
  (v4 + (zush v4 16)) &&& 63
def cpar (x : Int32) : Int32 := if (gbc x) &&& 1 = 0 then 4 else 0
theorem p_byC : zpc (fX5_by σ x) (fun r => r = (σ, cby x)) := by
  unfold fX5_by fX5_by_15 cby
  exact zpc_if (fun q => zpc_some (by rw [if_pos q])) (fun q => zpc_some (by rw [if_neg q]))
theorem p_parC : zpc (fX5_parity σ x) (fun r => r = (σ, cpar x)) := by
  unfold fX5_parity fX5_parity_14 cpar
  refine zpc_bi (P := fun r => r = (σ, gbc x)) (fun r e => ?_) (fun s w e => ?_)
  · have e : some (σ, gbc x) = some r := e
    cases e
    rfl
  · cases e
    exact zpc_if (fun q => zpc_some (by rw [if_pos q])) (fun q => zpc_some (by rw [if_neg q]))
end ZFL
def zfl (b7 b6 b5 b4 b3 b2 b1 b0 : Bool) : Int32 := (bif b7 then 128 else 0) ||| (bif b6 then 64 else 0) ||| (bif b5 then 32 else 0) ||| (bif b4 then 16 else 0) ||| (bif b3 then 8 else 0) ||| (bif b2 then 4 else 0) ||| (bif b1 then 2 else 0) ||| (bif b0 then 1 else 0)
theorem pt_0 {b7 b6 b5 b4 b3 b2 b1 b0 : Bool} {v : Int32} : pt (zfl b7 b6 b5 b4 b3 b2 b1 b0) 0 v = zfl b7 b6 b5 b4 b3 b2 b1 (decide (¬ v = 0)) := by
  unfold pt
  by_cases h : v = 0
  · rw [if_pos h, show decide (¬ v = 0) = false from decide_eq_false (fun r => r h)]
    revert b7 b6 b5 b4 b3 b2 b1 b0
    decide
  · rw [if_neg h, show decide (¬ v = 0) = true from decide_eq_true h]
    revert b7 b6 b5 b4 b3 b2 b1 b0
    decide
theorem pt_1 {b7 b6 b5 b4 b3 b2 b1 b0 : Bool} {v : Int32} : pt (zfl b7 b6 b5 b4 b3 b2 b1 b0) 1 v = zfl b7 b6 b5 b4 b3 b2 (decide (¬ v = 0)) b0 := by
  unfold pt
  by_cases h : v = 0
  · rw [if_pos h, show decide (¬ v = 0) = false from decide_eq_false (fun r => r h)]
    revert b7 b6 b5 b4 b3 b2 b1 b0
    decide
  · rw [if_neg h, show decide (¬ v = 0) = true from decide_eq_true h]
    revert b7 b6 b5 b4 b3 b2 b1 b0
    decide
theorem pt_2 {b7 b6 b5 b4 b3 b2 b1 b0 : Bool} {v : Int32} : pt (zfl b7 b6 b5 b4 b3 b2 b1 b0) 2 v = zfl b7 b6 b5 b4 b3 (decide (¬ v = 0)) b1 b0 := by
  unfold pt
  by_cases h : v = 0
  · rw [if_pos h, show decide (¬ v = 0) = false from decide_eq_false (fun r => r h)]
    revert b7 b6 b5 b4 b3 b2 b1 b0
    decide
  · rw [if_neg h, show decide (¬ v = 0) = true from decide_eq_true h]
    revert b7 b6 b5 b4 b3 b2 b1 b0
    decide
theorem pt_3 {b7 b6 b5 b4 b3 b2 b1 b0 : Bool} {v : Int32} : pt (zfl b7 b6 b5 b4 b3 b2 b1 b0) 3 v = zfl b7 b6 b5 b4 (decide (¬ v = 0)) b2 b1 b0 := by
  unfold pt
  by_cases h : v = 0
  · rw [if_pos h, show decide (¬ v = 0) = false from decide_eq_false (fun r => r h)]
    revert b7 b6 b5 b4 b3 b2 b1 b0
    decide
  · rw [if_neg h, show decide (¬ v = 0) = true from decide_eq_true h]
    revert b7 b6 b5 b4 b3 b2 b1 b0
    decide
theorem pt_4 {b7 b6 b5 b4 b3 b2 b1 b0 : Bool} {v : Int32} : pt (zfl b7 b6 b5 b4 b3 b2 b1 b0) 4 v = zfl b7 b6 b5 (decide (¬ v = 0)) b3 b2 b1 b0 := by
  unfold pt
  by_cases h : v = 0
  · rw [if_pos h, show decide (¬ v = 0) = false from decide_eq_false (fun r => r h)]
    revert b7 b6 b5 b4 b3 b2 b1 b0
    decide
  · rw [if_neg h, show decide (¬ v = 0) = true from decide_eq_true h]
    revert b7 b6 b5 b4 b3 b2 b1 b0
    decide
theorem pt_5 {b7 b6 b5 b4 b3 b2 b1 b0 : Bool} {v : Int32} : pt (zfl b7 b6 b5 b4 b3 b2 b1 b0) 5 v = zfl b7 b6 (decide (¬ v = 0)) b4 b3 b2 b1 b0 := by
  unfold pt
  by_cases h : v = 0
  · rw [if_pos h, show decide (¬ v = 0) = false from decide_eq_false (fun r => r h)]
    revert b7 b6 b5 b4 b3 b2 b1 b0
    decide
  · rw [if_neg h, show decide (¬ v = 0) = true from decide_eq_true h]
    revert b7 b6 b5 b4 b3 b2 b1 b0
    decide
theorem pt_6 {b7 b6 b5 b4 b3 b2 b1 b0 : Bool} {v : Int32} : pt (zfl b7 b6 b5 b4 b3 b2 b1 b0) 6 v = zfl b7 (decide (¬ v = 0)) b5 b4 b3 b2 b1 b0 := by
  unfold pt
  by_cases h : v = 0
  · rw [if_pos h, show decide (¬ v = 0) = false from decide_eq_false (fun r => r h)]
    revert b7 b6 b5 b4 b3 b2 b1 b0
    decide
  · rw [if_neg h, show decide (¬ v = 0) = true from decide_eq_true h]
    revert b7 b6 b5 b4 b3 b2 b1 b0
    decide
theorem pt_7 {b7 b6 b5 b4 b3 b2 b1 b0 : Bool} {v : Int32} : pt (zfl b7 b6 b5 b4 b3 b2 b1 b0) 7 v = zfl (decide (¬ v = 0)) b6 b5 b4 b3 b2 b1 b0 := by
  unfold pt
  by_cases h : v = 0
  · rw [if_pos h, show decide (¬ v = 0) = false from decide_eq_false (fun r => r h)]
    revert b7 b6 b5 b4 b3 b2 b1 b0
    decide
  · rw [if_neg h, show decide (¬ v = 0) = true from decide_eq_true h]
    revert b7 b6 b5 b4 b3 b2 b1 b0
    decide
theorem fl_f : ∀ i : Fin 256, Int32.ofNat i.val = zfl (decide (¬ Int32.ofNat i.val &&& 128 = 0)) (decide (¬ Int32.ofNat i.val &&& 64 = 0)) (decide (¬ Int32.ofNat i.val &&& 32 = 0)) (decide (¬ Int32.ofNat i.val &&& 16 = 0)) (decide (¬ Int32.ofNat i.val &&& 8 = 0)) (decide (¬ Int32.ofNat i.val &&& 4 = 0)) (decide (¬ Int32.ofNat i.val &&& 2 = 0)) (decide (¬ Int32.ofNat i.val &&& 1 = 0)) := by decide +kernel
theorem fl_of {f : Int32} (h : zr 0 255 f) : f = zfl (decide (¬ f &&& 128 = 0)) (decide (¬ f &&& 64 = 0)) (decide (¬ f &&& 32 = 0)) (decide (¬ f &&& 16 = 0)) (decide (¬ f &&& 8 = 0)) (decide (¬ f &&& 4 = 0)) (decide (¬ f &&& 2 = 0)) (decide (¬ f &&& 1 = 0)) := by
  obtain ⟨i, e⟩ := z_byteF h
  rw [e]
  exact fl_f i
