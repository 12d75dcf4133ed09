/-! READING THE PORTS -/
theorem zp2_iff {α β : Type} {c c' : Prop} {d : Decidable c} {d' : Decidable c'} {x y : Option α} {x' y' : Option β} {Q : α → β → Prop} (e : c ↔ c') (h1 : c → c' → zp2 x x' Q) (h2 : ¬ c → ¬ c' → zp2 y y' Q) : zp2 (@ite _ c d x y) (@ite _ c' d' x' y') Q := by
  by_cases q : c
  · rw [if_pos q, if_pos (e.mp q)]; exact h1 q (e.mp q)
  · rw [if_neg q, if_neg (fun r => q (e.mpr r))]; exact h2 q (fun r => q (e.mpr r))
theorem zp2_ifn {α β : Type} {c c' : Prop} {d : Decidable c} {d' : Decidable c'} {x y : Option α} {x' y' : Option β} {Q : α → β → Prop} (e : c ↔ ¬ c') (h1 : c → ¬ c' → zp2 x y' Q) (h2 : ¬ c → c' → zp2 y x' Q) : zp2 (@ite _ c d x y) (@ite _ c' d' x' y') Q := by
  by_cases q : c
  · rw [if_pos q, if_neg (e.mp q)]; exact h1 q (e.mp q)
  · have r : c' := Decidable.byContradiction (fun r => q (e.mpr r))
    rw [if_neg q, if_pos r]; exact h2 q r
theorem zx_01 {x : Int32} (h : zr 0 1 x) : x = 0 ∨ x = 1 := by
  have h0 := h.1
  have h1 := h.2
  by_cases q : x.toInt = 0
  · left; exact Int32.toInt_inj.mp q
  · right; exact Int32.toInt_inj.mp (by rw [show (1 : Int32).toInt = 1 from rfl]; omega)
/-- the two lines -/
def zLij (w a m s : Int32) : Int32 := if w &&& m = 0 then (w >>> (s &&& 31)) &&& 1 else a
def zL0 (σ : zSt) : Int32 := zLij (σ.1 34 0) (σ.1 34 10) 2 5
def zL1 (σ : zSt) : Int32 := zLij (σ.1 34 0) (σ.1 34 11) 8 7
theorem zLij_r {w a m s : Int32} (h : zr 0 1 a) : zr 0 1 (zLij w a m s) := by
  unfold zLij
  by_cases q : w &&& m = 0
  · rw [if_pos q]; exact zr_andr (lo := 0) (hi := 1) (zr_c (lo := 1) (hi := 1) (by decide)) (by decide)
  · rw [if_neg q]; exact h
section ZPR
variable {σ μ s t : zSt}
theorem zVe.p0 (h : zVe σ μ) : μ.1 3 33 = σ.1 34 0 := h.1.e (z_pn34_0 (d := 0) (by decide))
theorem zVe.p6 (h : zVe σ μ) : μ.1 3 35 = σ.1 34 6 := h.1.e (z_pn34_6 (d := 0) (by decide))
theorem zVe.p7 (h : zVe σ μ) : μ.1 3 42 = σ.1 34 7 := h.1.e (z_pn34_7 (d := 0) (by decide))
theorem zVe.p8 (h : zVe σ μ) : μ.1 3 43 = σ.1 34 8 := h.1.e (z_pn34_7 (d := 1) (by decide))
theorem zVe.p9 (h : zVe σ μ) : μ.1 3 44 = σ.1 34 9 := h.1.e (z_pn34_7 (d := 2) (by decide))
theorem zVe.p10 (h : zVe σ μ) : μ.1 3 45 = σ.1 34 10 := h.1.e (z_pn34_7 (d := 3) (by decide))
theorem zVe.p11 (h : zVe σ μ) : μ.1 3 46 = σ.1 34 11 := h.1.e (z_pn34_7 (d := 4) (by decide))
theorem zVe.e0 (h : zVe σ μ) : μ.1 3 47 = σ.1 23 0 := h.1.e (z_pn23_0 (d := 0) (by decide))
theorem zVe.r0 (h : zVe σ μ) : zr 0 255 (σ.1 23 0) := h.2.1.at (k := 23) (j := 0) rfl
theorem zVe.e1 (h : zVe σ μ) : μ.1 3 48 = σ.1 23 1 := h.1.e (z_pn23_0 (d := 1) (by decide))
theorem zVe.r1 (h : zVe σ μ) : zr 0 255 (σ.1 23 1) := h.2.1.at (k := 23) (j := 1) rfl
theorem zVe.e9 (h : zVe σ μ) : μ.1 3 56 = σ.1 23 9 := h.1.e (z_pn23_0 (d := 9) (by decide))
theorem zVe.r9 (h : zVe σ μ) : zr 0 255 (σ.1 23 9) := h.2.1.at (k := 23) (j := 9) rfl
theorem zVe.e10 (h : zVe σ μ) : μ.1 3 57 = σ.1 23 10 := h.1.e (z_pn23_0 (d := 10) (by decide))
theorem zVe.r10 (h : zVe σ μ) : zr 0 255 (σ.1 23 10) := h.2.1.at (k := 23) (j := 10) rfl
theorem zVe.e20 (h : zVe σ μ) : μ.1 3 66 = σ.1 23 20 := h.1.e (z_pn23_18 (d := 2) (by decide))
theorem zVe.e21 (h : zVe σ μ) : μ.1 3 67 = σ.1 23 21 := h.1.e (z_pn23_18 (d := 3) (by decide))
theorem zVe.rp0 (h : zVe σ μ) : zr 0 255 (σ.1 34 0) := h.2.1.at (k := 34) (j := 0) rfl
theorem zVe.l0 (h : zVe σ μ) : zr 0 1 (zL0 σ) := zLij_r (h.2.1.at (k := 34) (j := 10) rfl)
theorem zVe.l1 (h : zVe σ μ) : zr 0 1 (zL1 σ) := zLij_r (h.2.1.at (k := 34) (j := 11) rfl)
theorem p_linesC : zpc (fX4_lines σ ) (fun r => r = (σ, zL0 σ ||| (zL1 σ <<< ((1 : Int32) &&& 31)))) := by
  unfold fX4_lines fX4_lines_28 fX4_lines_52 zL0 zL1 zLij
  refine zpc_ck (zpc_bv (fun w ew => ?_))
  have ew : w = σ.1 34 0 := ew
  subst ew
  refine zpc_if (fun q => ?_) (fun q => zpc_ck ?_)
  · rw [if_pos q]
    refine zpc_if (fun q2 => zpc_some ?_) (fun q2 => zpc_ck (zpc_some ?_))
    · rw [if_pos q2]
    · rw [if_neg q2]; rfl
  · rw [if_neg q]
    refine zpc_if (fun q2 => zpc_some ?_) (fun q2 => zpc_ck (zpc_some ?_))
    · rw [if_pos q2]; rfl
    · rw [if_neg q2]; rfl
theorem p_line0 (h : zVe σ μ) : zpc (fX12_lineAt μ 0) (fun r => r = (μ, zL0 σ)) := by
  unfold fX12_lineAt fX12_lineAt_45 zL0 zLij
  have e0 : zgi μ 3 (33 : Int32).toNatClampNeg = σ.1 34 0 := h.p0
  have e10 : zgi μ 3 ((45 : Int32) + 0).toNatClampNeg = σ.1 34 10 := h.p10
  rw [e0, e10]
  have b : (σ.1 34 0 >>> ((1 + (2 * (0 : Int32))) &&& 31)) &&& 1 = if σ.1 34 0 &&& 2 = 0 then 0 else 1 := z_b1 h.rp0
  rw [b]
  by_cases q : σ.1 34 0 &&& 2 = 0
  · rw [if_pos q, if_pos rfl, if_pos q]
    exact zpc_ck (zpc_ck (zpc_some rfl))
  · rw [if_neg q, if_neg (by decide), if_neg q]
    exact zpc_ck (zpc_ck (zpc_some rfl))
theorem p_line1 (h : zVe σ μ) : zpc (fX12_lineAt μ 1) (fun r => r = (μ, zL1 σ)) := by
  unfold fX12_lineAt fX12_lineAt_45 zL1 zLij
  have e0 : zgi μ 3 (33 : Int32).toNatClampNeg = σ.1 34 0 := h.p0
  have e10 : zgi μ 3 ((45 : Int32) + 1).toNatClampNeg = σ.1 34 11 := h.p11
  rw [e0, e10]
  have b : (σ.1 34 0 >>> ((1 + (2 * (1 : Int32))) &&& 31)) &&& 1 = if σ.1 34 0 &&& 8 = 0 then 0 else 1 := z_b3 h.rp0
  rw [b]
  by_cases q : σ.1 34 0 &&& 8 = 0
  · rw [if_pos q, if_pos rfl, if_pos q]
    exact zpc_ck (zpc_ck (zpc_some rfl))
  · rw [if_neg q, if_neg (by decide), if_neg q]
    exact zpc_ck (zpc_ck (zpc_some rfl))
/-- a bit put into a byte -/
def gwo (x n b : Int32) : Int32 := if b = 1 then x ||| (1 <<< (n &&& 31)) else x &&& ((1 <<< (n &&& 31)) ^^^ (-1))
theorem p_wo {x n b : Int32} : zpc (fX12_without μ x n b) (fun r => r = (μ, gwo x n b)) := by
  unfold fX12_without fX12_without_20 gwo
  exact zpc_if (fun q => zpc_some (by rw [if_pos q])) (fun q => zpc_some (by rw [if_neg q]))
theorem v_wo5 : ∀ i : Fin 256, (Int32.ofNat i.val &&& (-33)) ||| 32 = gwo (Int32.ofNat i.val) 5 1 ∧ (Int32.ofNat i.val &&& (-33)) ||| 0 = gwo (Int32.ofNat i.val) 5 0 := by decide +kernel
theorem v_wo3 : ∀ i : Fin 256, (Int32.ofNat i.val &&& (-9)) ||| 8 = gwo (Int32.ofNat i.val) 3 1 ∧ (Int32.ofNat i.val &&& (-9)) ||| 0 = gwo (Int32.ofNat i.val) 3 0 := by decide +kernel
theorem v_w16 : ∀ i : Fin 256, (Int32.ofNat i.val &&& 16) <<< ((1 : Int32) &&& 31) = if Int32.ofNat i.val &&& 16 = 0 then 0 else 32 := by decide +kernel
theorem v_w64 : ∀ i : Fin 256, (Int32.ofNat i.val &&& 64) >>> ((3 : Int32) &&& 31) = if Int32.ofNat i.val &&& 64 = 0 then 0 else 8 := by decide +kernel
theorem v_odd : ∀ i : Fin 64, ∀ a b : Fin 2, ((((Int32.ofNat i.val >>> ((2 : Int32) &&& 31)) ^^^ (-1)) &&& 15) ||| 48) ||| ((Int32.ofNat a.val ||| (Int32.ofNat b.val <<< ((1 : Int32) &&& 31))) <<< ((6 : Int32) &&& 31)) = gwo (gwo ((255 &&& ((Int32.ofNat i.val >>> ((2 : Int32) &&& 31)) ^^^ (-1))) ||| 48) 6 (Int32.ofNat a.val)) 7 (Int32.ofNat b.val) := by decide +kernel
theorem v_oddr : ∀ i : Fin 64, ∀ a b : Fin 2, 0 ≤ (((((Int32.ofNat i.val >>> ((2 : Int32) &&& 31)) ^^^ (-1)) &&& 15) ||| 48) ||| ((Int32.ofNat a.val ||| (Int32.ofNat b.val <<< ((1 : Int32) &&& 31))) <<< ((6 : Int32) &&& 31))).toInt ∧ (((((Int32.ofNat i.val >>> ((2 : Int32) &&& 31)) ^^^ (-1)) &&& 15) ||| 48) ||| ((Int32.ofNat a.val ||| (Int32.ofNat b.val <<< ((1 : Int32) &&& 31))) <<< ((6 : Int32) &&& 31))).toInt ≤ 255 := by decide +kernel
theorem v_wo5r : ∀ i : Fin 256, 0 ≤ ((Int32.ofNat i.val &&& (-33)) ||| 32).toInt ∧ ((Int32.ofNat i.val &&& (-33)) ||| 32).toInt ≤ 255 ∧ 0 ≤ ((Int32.ofNat i.val &&& (-33)) ||| 0).toInt ∧ ((Int32.ofNat i.val &&& (-33)) ||| 0).toInt ≤ 255 := by decide +kernel
theorem v_wo3r : ∀ i : Fin 256, 0 ≤ ((Int32.ofNat i.val &&& (-9)) ||| 8).toInt ∧ ((Int32.ofNat i.val &&& (-9)) ||| 8).toInt ≤ 255 ∧ 0 ≤ ((Int32.ofNat i.val &&& (-9)) ||| 0).toInt ∧ ((Int32.ofNat i.val &&& (-9)) ||| 0).toInt ≤ 255 := by decide +kernel
theorem z_wo5 {v w : Int32} (hv : zr 0 255 v) (hw : zr 0 255 w) : (v &&& (-33)) ||| ((w &&& 16) <<< ((1 : Int32) &&& 31)) = gwo v 5 ((w >>> ((4 : Int32) &&& 31)) &&& 1) ∧ zr 0 255 ((v &&& (-33)) ||| ((w &&& 16) <<< ((1 : Int32) &&& 31))) := by
  have e : (w &&& 16) <<< ((1 : Int32) &&& 31) = if w &&& 16 = 0 then 0 else 32 := by
    obtain ⟨i, e⟩ := z_byteF hw
    subst e
    exact v_w16 i
  rw [z_b4 hw, e]
  obtain ⟨i, e⟩ := z_byteF hv
  subst e
  by_cases q : w &&& 16 = 0
  · rw [if_pos q, if_pos q]
    exact ⟨(v_wo5 i).2, (v_wo5r i).2.2.1, (v_wo5r i).2.2.2⟩
  · rw [if_neg q, if_neg q]
    exact ⟨(v_wo5 i).1, (v_wo5r i).1, (v_wo5r i).2.1⟩
theorem z_wo3 {v w : Int32} (hv : zr 0 255 v) (hw : zr 0 255 w) : (v &&& (-9)) ||| ((w &&& 64) >>> ((3 : Int32) &&& 31)) = gwo v 3 ((w >>> ((6 : Int32) &&& 31)) &&& 1) ∧ zr 0 255 ((v &&& (-9)) ||| ((w &&& 64) >>> ((3 : Int32) &&& 31))) := by
  have e : (w &&& 64) >>> ((3 : Int32) &&& 31) = if w &&& 64 = 0 then 0 else 8 := by
    obtain ⟨i, e⟩ := z_byteF hw
    subst e
    exact v_w64 i
  rw [z_b6 hw, e]
  obtain ⟨i, e⟩ := z_byteF hv
  subst e
  by_cases q : w &&& 64 = 0
  · rw [if_pos q, if_pos q]
    exact ⟨(v_wo3 i).2, (v_wo3r i).2.2.1, (v_wo3r i).2.2.2⟩
  · rw [if_neg q, if_neg q]
    exact ⟨(v_wo3 i).1, (v_wo3r i).1, (v_wo3r i).2.1⟩
theorem z_F {x : Int32} {b : Int} {m : Nat} (h : zr 0 b x) (c : b < (m : Int)) : ∃ i : Fin m, x = Int32.ofNat i.val := by
  obtain ⟨h0, h1⟩ := h
  obtain ⟨i, hi⟩ : ∃ i : Nat, x.toInt = i := ⟨x.toInt.toNat, by omega⟩
  exact ⟨⟨i, by omega⟩, z_ofN hi⟩
/-- both pads' ports: the same answer, nothing changed -/
theorem t_pads (h : zVe σ μ) {a b : Int32} (e : (a = 0 ↔ ¬ b = 0)) : zp2 (fX4_read_131 σ a) (fX12_port_147 μ b) (fun r r' => zPo σ μ r.1 r'.1 ∧ r'.2 = r.2 ∧ zr 0 255 r.2) := by
  have g0 : zgi μ 3 (33 : Int32).toNatClampNeg = σ.1 34 0 := h.p0
  have g7 : zgi μ 3 (42 : Int32).toNatClampNeg = σ.1 34 7 := h.p7
  have g8 : zgi μ 3 (43 : Int32).toNatClampNeg = σ.1 34 8 := h.p8
  have r0 := h.rp0
  unfold fX4_read_131 fX4_read_146 fX12_port_147 fX12_port_289 fX12_port_230
  refine zp2_ifn e (fun _ _ => ?_) (fun _ _ => ?_)
  · -- the odd one
    have r8 : zr 0 63 (σ.1 34 8) := h.2.1.at (k := 34) (j := 8) rfl
    obtain ⟨i, ei⟩ := z_F (m := 64) r8 (by decide)
    obtain ⟨x, ex⟩ := z_F (m := 2) h.l0 (by decide)
    obtain ⟨y, ey⟩ := z_F (m := 2) h.l1 (by decide)
    obtain ⟨V, eV⟩ : ∃ V, V = ((((σ.1 34 8 >>> ((2 : Int32) &&& 31)) ^^^ (-1)) &&& 15) ||| 48) ||| ((zL0 σ ||| (zL1 σ <<< ((1 : Int32) &&& 31))) <<< ((6 : Int32) &&& 31)) := ⟨_, rfl⟩
    have rV : zr 0 255 V := by
      rw [eV, ei, ex, ey]
      exact v_oddr i x y
    have kV : gwo (gwo ((255 &&& ((σ.1 34 8 >>> ((2 : Int32) &&& 31)) ^^^ (-1))) ||| 48) 6 (zL0 σ)) 7 (zL1 σ) = V := by
      rw [eV, ei, ex, ey]
      exact (v_odd i x y).symm
    have w3 := z_wo3 rV r0
    refine zp2_bilp (P := fun r r' => zPo σ μ r.1 r'.1 ∧ r'.2 = r.2 ∧ zr 0 255 r.2) ?_ (fun s v b q => zp2_some q)
    unfold fX4_readOddPads fX4_readOddPads_57
    refine zp2_ckl (zp2_bil p_linesC (fun s v es => ?_))
    cases es
    refine zp2_bvl (fun v3 e3 => zp2_ckl ?_)
    have e3 : v3 = V := e3.trans eV.symm
    subst e3
    refine zp2_ckr (zp2_bvr (fun v4 e4 => ?_))
    rw [g8] at e4
    refine zp2_bir (p_line0 h) (fun t v et => ?_)
    cases et
    refine zp2_bir p_wo (fun t v et => ?_)
    cases et
    refine zp2_bir (p_line1 h) (fun t v et => ?_)
    cases et
    refine zp2_bir p_wo (fun t v et => ?_)
    cases et
    rw [e4, kV]
    refine zp2_ckr ?_
    rw [g0]
    refine zp2_if (fun _ => ?_) (fun _ => zp2_some ⟨zPo.rf h, rfl, rV⟩)
    refine zp2_ckl (zp2_ckr (zp2_bir p_wo (fun t v et => ?_)))
    cases et
    exact zp2_some ⟨zPo.rf h, w3.1.symm, w3.2⟩
  · -- the even one
    obtain ⟨V, eV⟩ : ∃ V, V = ((σ.1 34 7 ||| (σ.1 34 8 <<< ((6 : Int32) &&& 31))) ^^^ (-1)) &&& 255 := ⟨_, rfl⟩
    have rV : zr 0 255 V := by
      rw [eV]
      exact z_r8 _
    have w5 := z_wo5 rV r0
    refine zp2_bilp (P := fun r r' => zPo σ μ r.1 r'.1 ∧ r'.2 = r.2 ∧ zr 0 255 r.2) ?_ (fun s v b q => zp2_some q)
    unfold fX4_readEvenPads fX4_readEvenPads_56
    refine zp2_ckl (zp2_ckl (zp2_bvl (fun v3 e3 => zp2_ckl ?_)))
    have e3 : v3 = V := e3.trans eV.symm
    subst e3
    refine zp2_ckr (zp2_ckr (zp2_bvr (fun v4 e4 => zp2_ckr ?_)))
    rw [g7, g8, Int32.and_comm, ← eV] at e4
    subst e4
    rw [g0]
    refine zp2_if (fun _ => ?_) (fun _ => zp2_some ⟨zPo.rf h, rfl, rV⟩)
    refine zp2_ckl (zp2_ckr (zp2_bir p_wo (fun t v et => ?_)))
    cases et
    exact zp2_some ⟨zPo.rf h, w5.1.symm, w5.2⟩
theorem v_p6 : ∀ i : Fin 256, ((Int32.ofNat i.val) >>> ((6 : Int32) &&& 31) = 0 ↔ ¬ 64 ≤ Int32.ofNat i.val) ∧ (¬ (Int32.ofNat i.val) >>> ((6 : Int32) &&& 31) = 0 → ((Int32.ofNat i.val) >>> ((6 : Int32) &&& 31) = 1 ↔ ¬ 128 ≤ Int32.ofNat i.val)) ∧ (¬ (Int32.ofNat i.val) >>> ((6 : Int32) &&& 31) = 0 → ¬ (Int32.ofNat i.val) >>> ((6 : Int32) &&& 31) = 1 → ((Int32.ofNat i.val) >>> ((6 : Int32) &&& 31) = 2 ↔ ¬ 192 ≤ Int32.ofNat i.val)) ∧ (Int32.ofNat i.val &&& 1 = 0 ↔ ¬ zrem (Int32.ofNat i.val) 2 = 1) := by decide +kernel
theorem zPo.vcount (h : zVe σ μ) : ∃ v, zr 0 255 v ∧ zpc (fX9_vCount σ ) (fun r => r = (σ, v)) ∧ zpc (fX12_vCount μ ) (fun r => r = (μ, v)) := by
  have hk := h.2.2.1
  obtain ⟨k0, k1, k2, k3, k4, k5⟩ := hk
  refine ⟨zvc (σ.1 23 20) (zht (σ.1 23 0) (σ.1 23 1)) (μ.1 0 3), ?_, p_vCountC h.r0 h.r1 k5, ?_⟩
  · unfold zvc
    exact z_r8 _
  · have q := p_vCountM (μ := μ) (by rw [h.e0]; exact h.r0) (by rw [h.e1]; exact h.r1) (by rw [h.e20]; exact h.2.1.at (k := 23) (j := 20) rfl) (fun n => by
      have l := h.2.2.2
      unfold zLn at l
      rw [k5, if_neg n] at l
      have c : (262 : Int32).toInt = 262 := rfl
      have r := h.2.1.at (k := 23) (j := 20) rfl
      rw [h.e20]
      exact ⟨r.1, by omega⟩)
    rw [h.e20, h.e0, h.e1] at q
    exact q
theorem t_in11 (h : zVe σ μ) {p a b : Int32} (hp : zr 0 255 p) (e : (a = 0 ↔ ¬ b = 0)) : zp2 (fX4_read_11 σ p a) (fX12_port_12 μ p b) (fun r r' => zPo σ μ r.1 r'.1 ∧ r'.2 = r.2 ∧ zr 0 255 r.2) := by
  obtain ⟨i, ei⟩ := z_byteF hp
  obtain ⟨d0, d1, d2, d3⟩ := v_p6 i
  rw [← ei] at d0 d1 d2 d3
  have two := h.2.2.1.two
  have e' : (a = 0 ↔ ¬ b = 0) := e
  have e2 : (¬ a = 0 ↔ b = 0) := ⟨fun q => Decidable.byContradiction (fun r => q (e.mpr r)), fun q r => e.mp r q⟩
  unfold fX4_read_11 fX12_port_12
  refine zp2_ifn d0 (fun c0 m0 => ?_) (fun c0 m0 => zp2_ifn (d1 c0) (fun c1 m1 => ?_) (fun c1 m1 => zp2_ifn (d2 c0 c1) (fun c2 m2 => ?_) (fun c2 m2 => ?_)))
  · -- 0 to 63
    unfold fX4_read_62 fX12_port_32
    rcases two with ⟨_, k6, k2⟩ | ⟨_, k6, k2⟩
    · refine zp2_ifl (fun _ => zp2_ifr (fun q => absurd q k2) (fun _ => zp2_some ⟨zPo.rf h, rfl, (show zr 0 255 (255 : Int32) from zr_c (by decide))⟩)) (fun q => absurd k6 q)
    · refine zp2_ifl (fun q => absurd q k6) (fun _ => zp2_ifr (fun _ => ?_) (fun q => absurd k2 q))
      refine zp2_bilp (P := fun r r' => zPo σ μ r.1 r'.1 ∧ r'.2 = r.2 ∧ zr 0 255 r.2) ?_ (fun s v b q => zp2_some q)
      unfold fX4_readHandy fX4_readHandy_23 fX4_readHandy_43 fX4_readHandy_46 fX12_port_60 fX12_port_73
      by_cases z : p = 0
      · refine zp2_ifl (fun _ => zp2_ckl ?_) (fun q => absurd z q)
        refine zp2_ifr (fun _ => zp2_ifr (fun _ => zp2_ckr ?_) (fun q => absurd z q)) (fun q => absurd (by rw [z]; decide) q)
        rw [show zgi μ 3 (44 : Int32).toNatClampNeg = zgi σ 34 (9 : Int32).toNatClampNeg from h.p9]
        exact zp2_if (fun _ => zp2_some ⟨zPo.rf h, rfl, (show zr 0 255 (64 : Int32) from zr_c (by decide))⟩) (fun _ => zp2_some ⟨zPo.rf h, rfl, (show zr 0 255 (192 : Int32) from zr_c (by decide))⟩)
      · have z1 : ¬ p < 1 := fun q => by
          have a1 := Int32.lt_iff_toInt_lt.mp q
          have a0 := hp.1
          have c1 : (1 : Int32).toInt = 1 := rfl
          exact z (Int32.toInt_inj.mp (by rw [show (0 : Int32).toInt = 0 from rfl]; omega))
        refine zp2_ifl (fun q => absurd q z) (fun _ => zp2_ifl (fun q => absurd q z1) (fun _ => ?_))
        have e5 : 5 < p ↔ ¬ p ≤ 5 := ⟨fun q r => by have := Int32.lt_iff_toInt_lt.mp q; have := Int32.le_iff_toInt_le.mp r; omega, fun q => z_nle q⟩
        refine zp2_ifn e5 (fun _ _ => zp2_some ⟨zPo.rf h, rfl, (show zr 0 255 (255 : Int32) from zr_c (by decide))⟩) (fun _ m5 => ?_)
        refine zp2_ifr (fun q => absurd q z) (fun _ => zp2_ckl (zp2_ckr (zp2_some ?_)))
        have b1 := Int32.le_iff_toInt_le.mp (z_nlt z1)
        have b5 := Int32.le_iff_toInt_le.mp m5
        have c1 : (1 : Int32).toInt = 1 := rfl
        have c5 : (5 : Int32).toInt = 5 := rfl
        have kp := z_clamp hp.1
        obtain ⟨d, ed⟩ : ∃ d : Nat, p.toNatClampNeg = 1 + d := ⟨p.toNatClampNeg - 1, by omega⟩
        have hd : d < 5 := by omega
        have em : ((36 : Int32) + p).toNatClampNeg = 37 + d := by rw [z_off hp (k := 36) rfl (by decide), ed]; omega
        refine ⟨zPo.rf h, ?_, ?_⟩
        · show zgi μ 3 ((36 : Int32) + p).toNatClampNeg = zgi σ 34 p.toNatClampNeg
          rw [em, ed]
          exact h.1.e (z_pn34_1 (d := d) hd)
        · show zr 0 255 (zgi σ 34 p.toNatClampNeg)
          rw [ed]
          exact h.2.1.at (zg_34 ⟨1 + d, by omega⟩)
  · -- 64 to 127
    unfold fX4_read_84 fX12_port_99
    refine zp2_ifn e' (fun _ _ => zp2_ckl (zp2_ckr (zp2_some ⟨zPo.rf h, h.p6, h.2.1.at (k := 34) (j := 6) rfl⟩))) (fun _ _ => ?_)
    obtain ⟨v, rv, vC, vM⟩ := zPo.vcount h
    refine zp2_bil vC (fun s v es => zp2_bir vM (fun t w et => ?_))
    cases es
    cases et
    exact zp2_some ⟨zPo.rf h, rfl, rv⟩
  · -- 128 to 191
    unfold fX4_read_106 fX12_port_122
    refine zp2_ifn e' (fun _ _ => ?_) (fun _ _ => ?_)
    · exact zp2_bii (t_status h) (fun s v t w q => zp2_some q)
    · exact zp2_bii (t_data h) (fun s v t w q => zp2_some q)
  · -- from 192 on
    refine zp2_if (fun _ => ?_) (fun _ => t_pads h e)
    rcases two with ⟨_, k6, k2⟩ | ⟨_, k6, k2⟩
    · refine zp2_ifl (fun _ => zp2_ifr (fun q => absurd q k2) (fun _ => zp2_ckr ?_)) (fun q => absurd k6 q)
      unfold fX10_value fX10_value_38
      refine zp2_bil (P := fun r => r = (σ, σ.1 32 64)) ?_ (fun s v es => ?_)
      · exact zpc_if (fun q => absurd q (by decide)) (fun _ => zpc_if (fun _ => zpc_if (fun q => absurd q (by decide)) (fun _ => zpc_ck (zpc_some rfl))) (fun q => absurd (by decide) q))
      · cases es
        refine zp2_some ⟨zPo.rf h, h.1.e (z_pn32_64 (d := 0) (by decide)), ?_⟩
        have r := h.2.1.at (k := 32) (j := 64) rfl
        exact ⟨r.1, by have := r.2; show (σ.1 32 64).toInt ≤ 255; omega⟩
    · exact zp2_ifl (fun q => absurd q k6) (fun _ => zp2_ifr (fun _ => t_pads h e) (fun q => absurd k2 q))
theorem t_in (h : zVe σ μ) {p : Int32} (hp : zr 0 255 p) : zp2 (fX4_read σ p) (fX12_port μ p) (fun r r' => zPo σ μ r.1 r'.1 ∧ r'.2 = r.2 ∧ zr 0 255 r.2) := by
  obtain ⟨i, ei⟩ := z_byteF hp
  obtain ⟨d0, d1, d2, d3⟩ := v_p6 i
  rw [← ei] at d3
  unfold fX4_read fX12_port
  exact zp2_ckr (zp2_ifn d3 (fun _ _ => t_in11 h hp (by decide)) (fun _ _ => t_in11 h hp (by decide)))
end ZPR
