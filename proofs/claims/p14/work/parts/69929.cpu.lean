/-! DAA -/
theorem z_jx {α : Type} {c : Prop} {d : Decidable c} {K : Int32 → Option α} {X Y : Option α} {a b : Int32} (ex : X = K a) (ey : Y = K b) : @ite _ c d X Y = K (@ite _ c d a b) := by
  by_cases q : c
  · rw [if_pos q, if_pos q]; exact ex
  · rw [if_neg q, if_neg q]; exact ey
theorem zpc_jx {α : Type} {c : Prop} {d : Decidable c} {K : Int32 → Option α} {X Y : Option α} {a b : Int32} {Q : α → Prop} (ex : X = K a) (ey : Y = K b) (h : ∀ v, v = @ite _ c d a b → zpc (K v) Q) : zpc (@ite _ c d X Y) Q := by
  rw [z_jx (K := K) ex ey]
  exact h _ rfl
theorem fl_a16 : ∀ b7 b6 b5 b4 b3 b2 b1 b0 : Bool, zfl b7 b6 b5 b4 b3 b2 b1 b0 &&& 16 = bif b4 then 16 else 0 := by decide
theorem fl_a2 : ∀ b7 b6 b5 b4 b3 b2 b1 b0 : Bool, zfl b7 b6 b5 b4 b3 b2 b1 b0 &&& 2 = bif b1 then 2 else 0 := by decide
theorem fl_a1 : ∀ b7 b6 b5 b4 b3 b2 b1 b0 : Bool, zfl b7 b6 b5 b4 b3 b2 b1 b0 &&& 1 = bif b0 then 1 else 0 := by decide
theorem fl_g0 : ∀ b7 b6 b5 b4 b3 b2 b1 b0 : Bool, (zfl b7 b6 b5 b4 b3 b2 b1 b0 >>> ((0 : Int32) &&& 31)) &&& 1 = bif b0 then 1 else 0 := by decide
theorem fl_g1 : ∀ b7 b6 b5 b4 b3 b2 b1 b0 : Bool, (zfl b7 b6 b5 b4 b3 b2 b1 b0 >>> ((1 : Int32) &&& 31)) &&& 1 = bif b1 then 1 else 0 := by decide
theorem fl_g2 : ∀ b7 b6 b5 b4 b3 b2 b1 b0 : Bool, (zfl b7 b6 b5 b4 b3 b2 b1 b0 >>> ((2 : Int32) &&& 31)) &&& 1 = bif b2 then 1 else 0 := by decide
theorem fl_g3 : ∀ b7 b6 b5 b4 b3 b2 b1 b0 : Bool, (zfl b7 b6 b5 b4 b3 b2 b1 b0 >>> ((3 : Int32) &&& 31)) &&& 1 = bif b3 then 1 else 0 := by decide
theorem fl_g4 : ∀ b7 b6 b5 b4 b3 b2 b1 b0 : Bool, (zfl b7 b6 b5 b4 b3 b2 b1 b0 >>> ((4 : Int32) &&& 31)) &&& 1 = bif b4 then 1 else 0 := by decide
theorem fl_g5 : ∀ b7 b6 b5 b4 b3 b2 b1 b0 : Bool, (zfl b7 b6 b5 b4 b3 b2 b1 b0 >>> ((5 : Int32) &&& 31)) &&& 1 = bif b5 then 1 else 0 := by decide
theorem fl_g6 : ∀ b7 b6 b5 b4 b3 b2 b1 b0 : Bool, (zfl b7 b6 b5 b4 b3 b2 b1 b0 >>> ((6 : Int32) &&& 31)) &&& 1 = bif b6 then 1 else 0 := by decide
theorem fl_g7 : ∀ b7 b6 b5 b4 b3 b2 b1 b0 : Bool, (zfl b7 b6 b5 b4 b3 b2 b1 b0 >>> ((7 : Int32) &&& 31)) &&& 1 = bif b7 then 1 else 0 := by decide
def dH (h : Bool) : Int32 := if (bif h then (16 : Int32) else 0) = 0 then 0 else 1
def dN (n : Bool) : Int32 := if (bif n then (2 : Int32) else 0) = 0 then 0 else 1
def dC (a : Int32) (c : Bool) : Int32 := if a ≤ 153 then (bif c then 1 else 0) else 1
def dL (l : Int32) (h : Bool) : Int32 := if 9 < l then 6 else if dH h = 0 then 0 else 6
def dG (l : Int32) (h n : Bool) : Int32 := if dN n = 0 then (if l ≤ 9 then 0 else 1) else if dH h = 0 then 0 else if 6 ≤ l then 0 else 1
def dD (l : Int32) (h : Bool) (c : Int32) : Int32 := dL l h + (if c = 0 then 0 else 96)
def dW (a l : Int32) (h n : Bool) (c : Int32) : Int32 := (if dN n = 0 then a + dD l h c else a - dD l h c) &&& 255
def dF (w g c : Int32) (n : Bool) : Int32 := (((cby w ||| cpar w) ||| (if g = 0 then 0 else 16)) ||| (bif n then 2 else 0)) ||| c
section ZDA
variable {σ μ : zSt} {b7 b6 b5 b4 b3 b2 b1 b0 : Bool} {a d : Int32}
theorem p_daC (hf : σ.1 36 1 = zfl b7 b6 b5 b4 b3 b2 b1 b0) (ha : σ.1 36 0 = a) : zpc (fX5_adjustA σ ) (fun r => r = zsi (zsi σ 36 0 (dW a (a &&& 15) b4 b1 (dC a b0))) 36 1 (dF (dW a (a &&& 15) b4 b1 (dC a b0)) (dG (a &&& 15) b4 b1) (dC a b0) b1)) := by
  have g1 : zgi σ 36 (1 : Int32).toNatClampNeg = zfl b7 b6 b5 b4 b3 b2 b1 b0 := hf
  have g0 : zgi σ 36 (0 : Int32).toNatClampNeg = a := ha
  unfold fX5_adjustA
  refine zpc_ck (zpc_bv (fun l el => zpc_ck ?_))
  have el : l = a &&& 15 := by rw [el, g0]
  rw [← el, g1, fl_a16]
  refine zpc_jx (K := fun v => fX5_adjustA_27 σ l v) (a := 0) (b := 1) rfl rfl (fun h eh => ?_)
  have eh : h = dH b4 := eh
  unfold fX5_adjustA_27
  refine zpc_ck ?_
  rw [g1, fl_a2]
  refine zpc_jx (K := fun v => fX5_adjustA_44 σ l h v) (a := 0) (b := 1) rfl rfl (fun n en => ?_)
  have en : n = dN b1 := en
  have nx : ∀ c, zpc (fX5_adjustA_69 σ l h n c) (fun r => r = zsi (zsi σ 36 0 (dW a l b4 b1 c)) 36 1 (dF (dW a l b4 b1 c) (dG l b4 b1) c b1)) := fun c => by
    unfold fX5_adjustA_69
    refine zpc_jx (K := fun v => fX5_adjustA_87 σ l h n c v) (a := 6) rfl (z_jx (a := 0) (b := 6) rfl rfl) (fun m em => ?_)
    unfold fX5_adjustA_87
    refine zpc_jx (K := fun v => fX5_adjustA_98 σ l h n c v m) (a := 0) (b := 96) rfl rfl (fun t et => ?_)
    unfold fX5_adjustA_98
    refine zpc_bv (fun d ed => ?_)
    have ed : d = dD l b4 c := by rw [ed, em, et, eh]; rfl
    refine zpc_jx (K := fun v => fX5_adjustA_134 σ n c d v) (z_jx (a := 0) (b := 1) rfl rfl) (z_jx (a := 0) rfl (z_jx (a := 0) (b := 1) rfl rfl)) (fun g eg => ?_)
    have eg : g = dG l b4 b1 := by rw [eg, en, eh]; rfl
    have n2 : ∀ x, zpc (fX5_adjustA_161 σ c g x) (fun r => r = zsi (zsi σ 36 0 (x &&& 255)) 36 1 (dF (x &&& 255) g c b1)) := fun x => by
      unfold fX5_adjustA_161
      refine zpc_bv (fun w ew => zpc_ck (zpc_bv (fun s es => zpc_bi p_byC (fun s1 v1 e1 => ?_))))
      cases e1
      refine zpc_bi p_parC (fun s1 v1 e1 => ?_)
      cases e1
      refine zpc_jx (K := fun v => fX5_adjustA_202 s c v (cby w ||| cpar w) 1) (a := 0) (b := 16) rfl rfl (fun u eu => ?_)
      unfold fX5_adjustA_202
      refine zpc_ck (zpc_ck (zpc_bv (fun s2 e2 => zpc_some ?_)))
      have gs : zgi s 36 (1 : Int32).toNatClampNeg = zfl b7 b6 b5 b4 b3 b2 b1 b0 := by rw [es]; exact hf
      rw [e2, gs, fl_a2, es, eu, ew]
      rfl
    unfold fX5_adjustA_134
    rw [g0]
    unfold dW
    refine zpc_if (fun q => zpc_ck ?_) (fun q => zpc_ck ?_)
    · rw [if_pos (en ▸ q), ← ed, ← eg]; exact n2 _
    · rw [if_neg (en ▸ q), ← ed, ← eg]; exact n2 _
  unfold fX5_adjustA_44
  rw [g0, g1, fl_a1]
  unfold dC
  refine zpc_ck (zpc_if (fun q => zpc_ck ?_) (fun q => ?_))
  · rw [if_pos q]; exact nx _
  · rw [if_neg q]; exact nx _
/-! the reference -/
def eG (l : Int32) (h n : Bool) : Int32 := bif n then (bif h then (if 6 ≤ l then 0 else 1) else 0) else (if l ≤ 9 then 0 else 1)
def eW (a d : Int32) (n : Bool) : Int32 := (bif n then a - d else a + d) &&& 255
theorem p_da130 {x : Int32} : zpc (fX12_adjusts_130 (zsi μ 3 1 (zfl b7 b6 b5 b4 b3 b2 b1 b0)) x 0) (fun r => r = zsi (zsi μ 3 0 (x &&& 255)) 3 1 (zfl (d7 (x &&& 255)) (d6 (x &&& 255)) (d5 (x &&& 255)) b4 (d3 (x &&& 255)) (bc (gev (x &&& 255))) b1 b0)) := by
  unfold fX12_adjusts_130
  refine zpc_ck (zpc_bv (fun s es => zpc_ck ?_))
  have g0 : zgi s 3 (0 : Int32).toNatClampNeg = x &&& 255 := by rw [es]; rfl
  have g1 : s.1 3 1 = zfl b7 b6 b5 b4 b3 b2 b1 b0 := by rw [es]; rfl
  rw [g0]
  refine zpc_bu p_by' (fun s1 e1 => zpc_ck ?_)
  rw [g1, fl_by] at e1
  subst e1
  rw [show zgi (zsi s 3 1 (zfl (d7 (x &&& 255)) (d6 (x &&& 255)) (d5 (x &&& 255)) b4 (d3 (x &&& 255)) b2 b1 b0)) 3 (0 : Int32).toNatClampNeg = x &&& 255 from g0]
  refine zpc_bi p_even (fun s2 v2 e2 => ?_)
  cases e2
  refine zpc_bu p_put (fun s3 e3 => zpc_some ?_)
  rw [pt_2] at e3
  rw [e3, es, show zsi (zsi (zsi μ 3 1 (zfl b7 b6 b5 b4 b3 b2 b1 b0)) 3 (0 : Int32).toNatClampNeg (x &&& 255)) 3 1 = zsi (zsi (zsi μ 3 0 (x &&& 255)) 3 1 (zfl b7 b6 b5 b4 b3 b2 b1 b0)) 3 1 from by rw [show (0 : Int32).toNatClampNeg = 0 from rfl, zsi_comm (by decide)], zsi_ow]
  rfl
theorem p_da55 : zpc (fX12_adjusts_55 (zsi μ 3 1 (zfl b7 b6 b5 b4 b3 b2 b1 b0)) a d) (fun r => r = zsi (zsi μ 3 0 (eW a d b1)) 3 1 (zfl (d7 (eW a d b1)) (d6 (eW a d b1)) (d5 (eW a d b1)) (bc (eG (a &&& 15) b4 b1)) (d3 (eW a d b1)) (bc (gev (eW a d b1))) b1 b0)) := by
  have nx : ∀ g, zpc (fX12_adjusts_105 (zsi μ 3 1 (zfl b7 b6 b5 b4 b3 b2 b1 b0)) a d g 4) (fun r => r = zsi (zsi μ 3 0 (eW a d b1)) 3 1 (zfl (d7 (eW a d b1)) (d6 (eW a d b1)) (d5 (eW a d b1)) (bc g) (d3 (eW a d b1)) (bc (gev (eW a d b1))) b1 b0)) := fun g => by
    unfold fX12_adjusts_105
    refine zpc_bu p_put (fun s es => ?_)
    rw [pt_4] at es
    subst es
    refine zpc_bi p_flag (fun s1 v1 e1 => ?_)
    cases e1
    rw [show (zsi μ 3 1 (zfl b7 b6 b5 (decide (¬ g = 0)) b3 b2 b1 b0)).1 3 1 = zfl b7 b6 b5 (decide (¬ g = 0)) b3 b2 b1 b0 from rfl, fl_g1]
    cases b1
    · exact zpc_if (fun _ => p_da130) (fun q => absurd rfl q)
    · exact zpc_if (fun q => absurd q (by decide)) (fun _ => p_da130)
  unfold fX12_adjusts_55 fX12_adjusts_104
  refine zpc_bi p_flag (fun s1 v1 e1 => ?_)
  cases e1
  rw [show (zsi μ 3 1 (zfl b7 b6 b5 b4 b3 b2 b1 b0)).1 3 1 = zfl b7 b6 b5 b4 b3 b2 b1 b0 from rfl, fl_g1]
  cases b1
  · refine zpc_if (fun _ => ?_) (fun q => absurd rfl q)
    refine zpc_jx (K := fun g => fX12_adjusts_105 (zsi μ 3 1 (zfl b7 b6 b5 b4 b3 b2 false b0)) a d g 4) (a := 0) (b := 1) rfl rfl (fun g eg => ?_)
    have n1 := nx g
    rw [eg] at n1 ⊢
    exact n1
  · refine zpc_if (fun q => absurd q (by decide)) (fun _ => zpc_bi p_flag (fun s1 v1 e1 => ?_))
    cases e1
    rw [show (zsi μ 3 1 (zfl b7 b6 b5 b4 b3 b2 true b0)).1 3 1 = zfl b7 b6 b5 b4 b3 b2 true b0 from rfl, fl_g4]
    cases b4
    · exact zpc_if (fun q => absurd q (by decide)) (fun _ => nx 0)
    · refine zpc_if (fun _ => ?_) (fun q => absurd rfl q)
      refine zpc_jx (K := fun g => fX12_adjusts_105 (zsi μ 3 1 (zfl b7 b6 b5 true b3 b2 true b0)) a d g 4) (a := 0) (b := 1) rfl rfl (fun g eg => ?_)
      have n1 := nx g
      rw [eg] at n1 ⊢
      exact n1
def eC (a : Int32) (c : Bool) : Bool := bif c then true else decide (153 < a)
def eD (a d : Int32) (c : Bool) : Int32 := bif eC a c then d + 96 else d
theorem p_da30 : zpc (fX12_adjusts_30 (zsi μ 3 1 (zfl b7 b6 b5 b4 b3 b2 b1 b0)) a d) (fun r => r = zsi (zsi μ 3 0 (eW a (eD a d b0) b1)) 3 1 (zfl (d7 (eW a (eD a d b0) b1)) (d6 (eW a (eD a d b0) b1)) (d5 (eW a (eD a d b0) b1)) (bc (eG (a &&& 15) b4 b1)) (d3 (eW a (eD a d b0) b1)) (bc (gev (eW a (eD a d b0) b1))) b1 (eC a b0))) := by
  have n46 : zpc (fX12_adjusts_46 (zsi μ 3 1 (zfl b7 b6 b5 b4 b3 b2 b1 b0)) a d) (fun r => r = zsi (zsi μ 3 0 (eW a (d + 96) b1)) 3 1 (zfl (d7 (eW a (d + 96) b1)) (d6 (eW a (d + 96) b1)) (d5 (eW a (d + 96) b1)) (bc (eG (a &&& 15) b4 b1)) (d3 (eW a (d + 96) b1)) (bc (gev (eW a (d + 96) b1))) b1 true)) := by
    unfold fX12_adjusts_46
    refine zpc_bv (fun v ev => zpc_bu p_put (fun s es => ?_))
    rw [pt_0] at es
    subst es
    subst ev
    exact p_da55
  unfold fX12_adjusts_30
  refine zpc_if (fun q => ?_) (fun q => zpc_bi p_flag (fun s1 v1 e1 => ?_))
  · have e : eC a b0 = true := by unfold eC; rw [decide_eq_true q]; cases b0 <;> rfl
    unfold eD
    rw [e]
    exact n46
  · cases e1
    rw [show (zsi μ 3 1 (zfl b7 b6 b5 b4 b3 b2 b1 b0)).1 3 1 = zfl b7 b6 b5 b4 b3 b2 b1 b0 from rfl, fl_g0]
    cases b0
    · have e : eC a false = false := decide_eq_false q
      unfold eD
      rw [e]
      exact zpc_if (fun q => absurd q (by decide)) (fun _ => p_da55)
    · exact zpc_if (fun _ => n46) (fun q => absurd rfl q)
def eL (l : Int32) (h : Bool) : Int32 := if 9 < l then 6 else bif h then 6 else 0
theorem p_da (hf : μ.1 3 1 = zfl b7 b6 b5 b4 b3 b2 b1 b0) (ha : μ.1 3 0 = a) : zpc (fX12_adjusts μ ) (fun r => r = zsi (zsi μ 3 0 (eW a (eD a (eL (a &&& 15) b4) b0) b1)) 3 1 (zfl (d7 (eW a (eD a (eL (a &&& 15) b4) b0) b1)) (d6 (eW a (eD a (eL (a &&& 15) b4) b0) b1)) (d5 (eW a (eD a (eL (a &&& 15) b4) b0) b1)) (bc (eG (a &&& 15) b4 b1)) (d3 (eW a (eD a (eL (a &&& 15) b4) b0) b1)) (bc (gev (eW a (eD a (eL (a &&& 15) b4) b0) b1))) b1 (eC a b0))) := by
  have e27 : ∀ v, fX12_adjusts_27 μ a v = fX12_adjusts_30 (zsi μ 3 1 (zfl b7 b6 b5 b4 b3 b2 b1 b0)) a (v + 6) := fun v => by
    rw [← hf, zsi_own]
    rfl
  have e30 : ∀ v, fX12_adjusts_30 μ a v = fX12_adjusts_30 (zsi μ 3 1 (zfl b7 b6 b5 b4 b3 b2 b1 b0)) a v := fun v => by
    rw [← hf, zsi_own]
  unfold fX12_adjusts
  refine zpc_ck (zpc_bv (fun v ev => ?_))
  have ev : v = a := ev.trans ha
  subst ev
  unfold eL
  refine zpc_if (fun q => ?_) (fun q => zpc_bi p_flag (fun s1 v1 e1 => ?_))
  · rw [if_pos q, e27]; exact p_da30
  · cases e1
    rw [hf, fl_g4, if_neg q]
    cases b4
    · refine zpc_if (fun q => absurd q (by decide)) (fun _ => ?_)
      rw [e30]; exact p_da30
    · refine zpc_if (fun _ => ?_) (fun q => absurd rfl q)
      rw [e27]; exact p_da30
end ZDA
theorem v_daf : ∀ i : Fin 256, ∀ h n c : Bool, eW (Int32.ofNat i.val) (eD (Int32.ofNat i.val) (eL (Int32.ofNat i.val &&& 15) h) c) n = dW (Int32.ofNat i.val) (Int32.ofNat i.val &&& 15) h n (dC (Int32.ofNat i.val) c) ∧ bc (eG (Int32.ofNat i.val &&& 15) h n) = bc (dG (Int32.ofNat i.val &&& 15) h n) ∧ dC (Int32.ofNat i.val) c = (bif eC (Int32.ofNat i.val) c then 1 else 0) ∧ (if dG (Int32.ofNat i.val &&& 15) h n = 0 then (0 : Int32) else 16) = bif bc (dG (Int32.ofNat i.val &&& 15) h n) then 16 else 0 := by decide +kernel
theorem v_da {a : Int32} (ha : zr 0 255 a) (h n c : Bool) : eW a (eD a (eL (a &&& 15) h) c) n = dW a (a &&& 15) h n (dC a c) ∧ bc (eG (a &&& 15) h n) = bc (dG (a &&& 15) h n) ∧ dC a c = (bif eC a c then 1 else 0) ∧ (if dG (a &&& 15) h n = 0 then (0 : Int32) else 16) = bif bc (dG (a &&& 15) h n) then 16 else 0 := by
  obtain ⟨i, e⟩ := z_byteF ha
  subst e
  exact v_daf i h n c
theorem v_daB : ∀ b7 b6 b5 h b3 b2 n c : Bool, zfl b7 b6 b5 h b3 b2 n c = ((zfl b7 b6 b5 h b3 b2 false false) ||| (bif n then 2 else 0)) ||| (bif c then 1 else 0) := by decide
section ZDB
variable {I : zSt → zSt → Prop} {σ μ : zSt}
theorem t_acc4 (hI : zIoK I) (h : zTT I σ μ) (hF : zF σ μ) (hW : zWzz σ μ) : zp2 (zbu (fX5_changeA σ 4) (fun s => some (s, (4 : Int32)))) (fX12_singles μ 4 7) (zEnq I) := by
  have ea : μ.1 3 0 = σ.1 36 0 := h.eq (by decide)
  have ef : μ.1 3 1 = σ.1 36 1 := hF
  have ha : zr 0 255 (σ.1 36 0) := h.b (by decide)
  have hf : zr 0 255 (σ.1 36 1) := h.b (by decide)
  have cC := p_daC (σ := σ) (fl_of hf) rfl
  have cM := p_da (μ := μ) (ef.trans (fl_of hf)) ea
  unfold fX5_changeA fX12_singles fX12_singles_316
  refine zp2_ifr (fun q => absurd q (by decide)) (fun _ => zp2_ifr (fun _ => zp2_ifr (fun _ => zp2_ifr (fun _ => zp2_bur cM (fun t et => ?_)) (fun q => absurd rfl q)) (fun q => absurd (by decide) q)) (fun q => absurd (by decide) q))
  refine zp2_bul (zpc_ck (zpc_bv (fun u1 _ => zpc_ck (zpc_bv (fun u2 _ => zpc_if (fun _ => zpc_bu cC (fun s es => zpc_some es)) (fun q => absurd rfl q)))))) (fun s es => zp2_some ?_)
  obtain ⟨v1, v2, v3, v4⟩ := v_da ha (decide (¬ σ.1 36 1 &&& 16 = 0)) (decide (¬ σ.1 36 1 &&& 2 = 0)) (decide (¬ σ.1 36 1 &&& 1 = 0))
  rw [v1, v2] at et
  have rW : zr 0 255 (dW (σ.1 36 0) (σ.1 36 0 &&& 15) (decide (¬ σ.1 36 1 &&& 16 = 0)) (decide (¬ σ.1 36 1 &&& 2 = 0)) (dC (σ.1 36 0) (decide (¬ σ.1 36 1 &&& 1 = 0)))) := z_r8 _
  rw [v_daB, v_lg rW, ← v4, ← v3] at et
  have rF : zr 0 255 (dF (dW (σ.1 36 0) (σ.1 36 0 &&& 15) (decide (¬ σ.1 36 1 &&& 16 = 0)) (decide (¬ σ.1 36 1 &&& 2 = 0)) (dC (σ.1 36 0) (decide (¬ σ.1 36 1 &&& 1 = 0)))) (dG (σ.1 36 0 &&& 15) (decide (¬ σ.1 36 1 &&& 16 = 0)) (decide (¬ σ.1 36 1 &&& 2 = 0))) (dC (σ.1 36 0) (decide (¬ σ.1 36 1 &&& 1 = 0))) (decide (¬ σ.1 36 1 &&& 2 = 0))) := by
    unfold dF
    rw [v4, ← v_lg rW, v3, ← v_daB]
    exact zfl_r _ _ _ _ _ _ _ _
  exact zEnq_af hI h hW (by rw [es]; exact zQ.wi (zQ.wi zQ.rf rfl) rfl) (by rw [et]; exact zQ.wi (zQ.wi zQ.rf rfl) rfl) (by rw [es]; rfl) (by rw [es]; rfl) (by rw [et]; rfl) (by rw [et]; rfl) rfl rfl rW rF
end ZDB
