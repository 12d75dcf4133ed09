section ZJN0
/-! THE DATA PORT, WRITING -/
section ZVW
variable {σ μ s t : zSt}
theorem z_nby {x : Int32} (h : zr 0 255 x) : (vp_nar .byte (x.toInt8.toInt32)) &&& 255 = x := by
  rw [z_nar, z_i8]
  exact z_m255 h
theorem z_remm (k : Nat) {v c m : Int32} {b : Int} (h : zr 0 b v) (hc : c.toInt = ((2 ^ k : Nat) : Int)) (hm : m.toBitVec.toNat = 2 ^ k - 1) (hk : k < 31) (h0 : (0 : Int) < ((2 ^ k : Nat) : Int)) : zrem v c = v &&& m := Int32.toInt_inj.mp (by
  rw [z_trem _ hc h ⟨by decide, h0⟩, z_mask h.1 hm hk])
theorem zPo.vr (h : zPo σ μ s t) {j : Nat} {x w : Int32} (hj : j < 16384) (e : w &&& 255 = x) : zPo σ μ (zsi s 21 j x) (zsi t 7 j w) := by
  have p := z_pn21_0 (d := j) hj
  rw [Nat.zero_add] at p
  exact h.w p rfl (zGo.n rfl) e rfl rfl
theorem zPo.vc (h : zPo σ μ s t) {j : Nat} {x w : Int32} (hj : j < 64) (e : w &&& 255 = x) : zPo σ μ (zsi s 23 (32 + j) x) (zsi t 8 j w) := by
  have p := z_pn23_32 (d := j) hj
  rw [Nat.zero_add] at p
  refine h.w p ?_ (zGo.n (zg_23c ⟨j, hj⟩)) e rfl rfl
  show (true && !(true && Nat.beq (32 + j) 20)) = true
  rw [show Nat.beq (32 + j) 20 = false from z_nbeq (by omega)]
  rfl
theorem zPo.v26 (h : zPo σ μ s t) {v w : Int32} (r : zr 0 255 v) (e : w = v) : zPo σ μ (zsi s 23 26 v) (zsi t 3 68 w) := h.w1 (z_pn23_26 (d := 0) (by decide)) rfl (zGo.r rfl r) e rfl rfl
theorem zVe.e26 (h : zVe σ μ) : μ.1 3 68 = σ.1 23 26 := h.1.e (z_pn23_26 (d := 0) (by decide))
theorem zRk.two (h : zRk σ μ) : (σ.1 2 0 = 0 ∧ σ.1 6 0 = 0 ∧ ¬ μ.1 0 3 = 2) ∨ (¬ σ.1 2 0 = 0 ∧ ¬ σ.1 6 0 = 0 ∧ μ.1 0 3 = 2) := by
  obtain ⟨k0, k1, k2, k3, k4, k5⟩ := h
  by_cases q : μ.1 0 3 = 2
  · rw [if_pos q] at k2 k4
    right
    rw [k2, k4]
    exact ⟨by decide, by decide, q⟩
  · rw [if_neg q] at k2 k4
    left
    exact ⟨k2, k4, q⟩
/-- colours of two bytes: where they lie -/
theorem z_od {v : Int32} (h : zr 0 16383 v) (od : ¬ v &&& 1 = 0) : ∃ j : Nat, j < 63 ∧ (32 + (v &&& 62)).toNatClampNeg = 32 + j ∧ (32 + (v &&& 63)).toNatClampNeg = 32 + (j + 1) ∧ (zrem v 64).toNatClampNeg = j + 1 ∧ (zrem v 64 - 1).toNatClampNeg = j := by
  have er : zrem v 64 = v &&& 63 := z_remm 6 h rfl rfl (by decide) (by decide)
  have r63 : zr 0 63 (v &&& 63) := zr_andr (lo := 0) (hi := 63) (zr_c (lo := 63) (hi := 63) (by decide)) (by decide)
  have key : ∀ i : Fin 64, ¬ Int32.ofNat i.val &&& 1 = 0 → (Int32.ofNat i.val &&& 62).toNatClampNeg + 1 = i.val ∧ (32 + (Int32.ofNat i.val &&& 62)).toNatClampNeg = 32 + (i.val - 1) ∧ (32 + Int32.ofNat i.val).toNatClampNeg = 32 + i.val ∧ (Int32.ofNat i.val).toNatClampNeg = i.val ∧ (Int32.ofNat i.val - 1).toNatClampNeg = i.val - 1 ∧ 1 ≤ i.val := by decide +kernel
  obtain ⟨i, hi⟩ : ∃ i : Nat, (v &&& 63).toInt = i := ⟨(v &&& 63).toInt.toNat, by have := r63.1; omega⟩
  have hi64 : i < 64 := by have := r63.2; omega
  have ei : v &&& 63 = Int32.ofNat i := z_ofN hi
  have a1 : (v &&& 63) &&& 1 = v &&& 1 := by rw [Int32.and_assoc]; rfl
  have a62 : (v &&& 63) &&& 62 = v &&& 62 := by rw [Int32.and_assoc]; rfl
  have k := key ⟨i, hi64⟩
  rw [← ei, a1, a62] at k
  obtain ⟨k1, k2, k3, k4, k5, k6⟩ := k od
  have k6 : 1 ≤ i := k6
  refine ⟨i - 1, ?_, k2, ?_, ?_, ?_⟩
  · show i - 1 < 63; omega
  · rw [k3]; show 32 + i = _; omega
  · rw [er, k4]; show i = _; omega
  · rw [er]; exact k5
theorem t_wdat (h : zVe σ μ) {x : Int32} (hx : zr 0 255 x) : zp2 (fX9_writeData σ x) (fX12_dataTo μ x) (zPo σ μ) := by
  have hk := h.2.2.1.two
  have g11 : zr 0 16383 (σ.1 23 11) := h.2.1.at (k := 23) (j := 11) rfl
  have e11 : μ.1 3 58 = σ.1 23 11 := h.e11
  have e12 : μ.1 3 59 = σ.1 23 12 := h.e12
  unfold fX9_writeData fX12_dataTo
  refine zp2_ckl (zp2_bvl (fun v1 ev1 => zp2_ckl (zp2_bvl (fun s2 f2 => zp2_ckl (zp2_bvl (fun s3 f3 => zp2_ckl (zp2_bvl (fun s4 f4 => zp2_ckl ?_))))))))
  have ev1 : v1 = σ.1 23 11 := ev1.trans (z_m14 g11)
  subst ev1
  refine zp2_ckr (zp2_bvr (fun t2 k2 => zp2_ckr (zp2_bvr (fun t3 k3 => zp2_ckr (zp2_bvr (fun v4 ev4 => zp2_ckr ?_))))))
  have k2 : t2 = zsi μ 3 61 0 := k2
  have k3 : t3 = zsi t2 3 60 x := k3
  have f2 : s2 = zsi σ 23 14 0 := f2
  have f3 : s3 = zsi s2 23 13 x := f3
  have f4 : s4 = zsi s3 23 11 ((σ.1 23 11 + 1) &&& 16383) := f4
  have ev4 : v4 = σ.1 23 11 := by rw [ev4, k3, k2]; exact e11
  subst ev4
  have h3 : zPo σ μ s3 t3 := by
    rw [f3, k3, f2, k2]
    exact ((zPo.rf h).v14 (zr_c (by decide)) rfl).v13 hx rfl
  have a12 : zgi t3 3 (59 : Int32).toNatClampNeg = zgi s4 23 (12 : Int32).toNatClampNeg := by rw [f4, f3, f2, k3, k2]; exact e12
  have a03 : zgi t3 0 3 = μ.1 0 3 := by rw [k3, k2]; rfl
  have a20 : zgi s4 2 0 = σ.1 2 0 := by rw [f4, f3, f2]; rfl
  have a26 : zgi t3 3 (68 : Int32).toNatClampNeg = σ.1 23 26 := by rw [k3, k2]; exact h.e26
  have b26 : zgi s4 23 (26 : Int32).toNatClampNeg = σ.1 23 26 := by rw [f4, f3, f2]; rfl
  have r26 : zr 0 255 (σ.1 23 26) := h.2.1.at (k := 23) (j := 26) rfl
  rw [a12]
  have fin : ∀ s t : zSt, zPo σ μ s t → t.1 3 58 = σ.1 23 11 → ∀ s' : zSt, s' = zsi s 23 11 ((σ.1 23 11 + 1) &&& 16383) → zp2 (some s') (fX12_dataTo_115 t) (zPo σ μ) := fun s t q1 q2 s' es => by
    unfold fX12_dataTo_115 fX12_further
    refine zp2_bur (P := fun r => r = zsi t 3 58 ((σ.1 23 11 + 1) &&& 16383)) (zpc_ck (zpc_ck (zpc_bv (fun t5 e5 => zpc_some ?_)))) (fun t5 e5 => zp2_some ?_)
    · rw [e5, show zgi t 3 (58 : Int32).toNatClampNeg = σ.1 23 11 from q2]
      rfl
    · rw [es, e5]
      exact q1.v11 (z_r14 _) rfl
  have t58 : t3.1 3 58 = σ.1 23 11 := by rw [k3, k2]; exact e11
  have ka := z_clamp g11.1
  have g2 := g11.2
  have ja : (σ.1 23 11).toNatClampNeg < 16384 := by omega
  unfold fX9_writeData_69
  refine zp2_if (fun _ => ?_) (fun _ => ?_)
  · unfold fX9_writeColour fX9_writeColour_72
    rw [a03]
    rcases hk with ⟨c0, _, m2⟩ | ⟨c0, _, m2⟩
    · -- thirty-two colours
      refine zp2_ifr (fun q => absurd q m2) (fun _ => ?_)
      rw [a20]
      refine zp2_bulp (P := zPo σ μ) ?_ (fun s b q => zp2_some q)
      refine zp2_ifl (fun _ => ?_) (fun q => absurd c0 q)
      have er : zrem (σ.1 23 11) 32 = σ.1 23 11 &&& 31 := z_remm 5 g11 rfl rfl (by decide) (by decide)
      rw [er]
      have r31 : zr 0 31 (σ.1 23 11 &&& 31) := z_r31 _
      have k31 := z_clamp r31.1
      have b31 := r31.2
      have eo : (32 + (σ.1 23 11 &&& 31)).toNatClampNeg = 32 + (σ.1 23 11 &&& 31).toNatClampNeg := z_off r31 (k := 32) rfl (by decide)
      refine zp2_ckl (zp2_bvl (fun s5 f5 => zp2_ckr (zp2_ckr (zp2_bvr (fun t5 k5 => ?_)))))
      refine fin (zsi s3 23 (32 + (σ.1 23 11 &&& 31).toNatClampNeg) x) t5 ?_ ?_ s5 ?_
      · rw [k5]; exact h3.vc (by omega) (z_nby hx)
      · rw [k5]; exact t58
      · rw [f5, f4, eo]
        exact zsi_comm (by omega)
    · refine zp2_ifr (fun _ => ?_) (fun q => absurd m2 q)
      rw [a20]
      refine zp2_bulp (P := zPo σ μ) ?_ (fun s b q => zp2_some q)
      refine zp2_ifl (fun q => absurd q c0) (fun _ => zp2_ckr ?_)
      have er2 : zrem (σ.1 23 11) 2 = σ.1 23 11 &&& 1 := z_remm 1 g11 rfl rfl (by decide) (by decide)
      rw [er2]
      refine zp2_if (fun _ => ?_) (fun od => ?_)
      · refine zp2_ckl (zp2_bvl (fun s5 f5 => zp2_ckr (zp2_bvr (fun t5 k5 => ?_))))
        refine fin (zsi s3 23 26 x) t5 ?_ ?_ s5 ?_
        · rw [k5]; exact h3.v26 hx rfl
        · rw [k5]; exact t58
        · rw [f5, f4]
          exact zsi_comm (by decide)
      · obtain ⟨j, hj, o1, o2, o3, o4⟩ := z_od g11 od
        rw [a26, b26, o1, o2, o3, o4]
        refine zp2_ckl (zp2_ckl (zp2_bvl (fun s5 f5 => zp2_ckl (zp2_bvl (fun s6 f6 => zp2_ckr (zp2_ckr (zp2_ckr (zp2_bvr (fun t5 k5 => zp2_ckr (zp2_ckr (zp2_bvr (fun t6 k6 => ?_)))))))))))) 
        refine fin (zsi (zsi s3 23 (32 + j) (σ.1 23 26)) 23 (32 + (j + 1)) x) t6 ?_ ?_ s6 ?_
        · rw [k6, k5]; exact (h3.vc (by omega) (z_nby r26)).vc (by omega) (z_nby hx)
        · rw [k6, k5]; exact t58
        · rw [f6, f5, f4, zsi_comm (k := 23) (i := 11) (j := 32 + j) (by omega)]
          exact zsi_comm (by omega)
  · refine zp2_ckl (zp2_bvl (fun s5 f5 => zp2_ckr (zp2_bvr (fun t5 k5 => ?_))))
    refine fin (zsi s3 21 (σ.1 23 11).toNatClampNeg x) t5 ?_ ?_ s5 ?_
    · rw [k5]; exact h3.vr ja (z_nby hx)
    · rw [k5]; exact t58
    · rw [f5, f4]
      exact zsi_cr (by decide)
end ZVW
end ZJN0
section ZJN1
/-! READING THE PORTS -/
theorem zp2_iff {α β : Type} {c c' : Prop} {d : Decidable c} {d' : Decidable c'} {x y : Option α} {x' y' : Option β} {Q : α → β → Prop} (e : c ↔ c') (h1 : c → c' → zp2 x x' Q) (h2 : ¬ c → ¬ c' → zp2 y y' Q) : zp2 (@ite _ c d x y) (@ite _ c' d' x' y') Q := by
  by_cases q : c
  · rw [if_pos q, if_pos (e.mp q)]; exact h1 q (e.mp q)
  · rw [if_neg q, if_neg (fun r => q (e.mpr r))]; exact h2 q (fun r => q (e.mpr r))
theorem zp2_ifn {α β : Type} {c c' : Prop} {d : Decidable c} {d' : Decidable c'} {x y : Option α} {x' y' : Option β} {Q : α → β → Prop} (e : c ↔ ¬ c') (h1 : c → ¬ c' → zp2 x y' Q) (h2 : ¬ c → c' → zp2 y x' Q) : zp2 (@ite _ c d x y) (@ite _ c' d' x' y') Q := by
  by_cases q : c
  · rw [if_pos q, if_neg (e.mp q)]; exact h1 q (e.mp q)
  · have r : c' := Decidable.byContradiction (fun r => q (e.mpr r))
    rw [if_neg q, if_pos r]; exact h2 q r
theorem zx_01 {x : Int32} (h : zr 0 1 x) : x = 0 ∨ x = 1 := by
  have h0 := h.1
  have h1 := h.2
  by_cases q : x.toInt = 0
  · left; exact Int32.toInt_inj.mp q
  · right; exact Int32.toInt_inj.mp (by rw [show (1 : Int32).toInt = 1 from rfl]; omega)
/-- the two lines -/
noncomputable def zLij (w a m s : Int32) : Int32 := if w &&& m = 0 then (w >>> (s &&& 31)) &&& 1 else a
noncomputable def zL0 (σ : zSt) : Int32 := zLij (σ.1 34 0) (σ.1 34 10) 2 5
noncomputable def zL1 (σ : zSt) : Int32 := zLij (σ.1 34 0) (σ.1 34 11) 8 7
theorem zLij_r {w a m s : Int32} (h : zr 0 1 a) : zr 0 1 (zLij w a m s) := by
  unfold zLij
  by_cases q : w &&& m = 0
  · rw [if_pos q]; exact zr_andr (lo := 0) (hi := 1) (zr_c (lo := 1) (hi := 1) (by decide)) (by decide)
  · rw [if_neg q]; exact h
section ZPR
variable {σ μ s t : zSt}
theorem zVe.p0 (h : zVe σ μ) : μ.1 3 33 = σ.1 34 0 := h.1.e (z_pn34_0 (d := 0) (by decide))
theorem zVe.p6 (h : zVe σ μ) : μ.1 3 35 = σ.1 34 6 := h.1.e (z_pn34_6 (d := 0) (by decide))
theorem zVe.p7 (h : zVe σ μ) : μ.1 3 42 = σ.1 34 7 := h.1.e (z_pn34_7 (d := 0) (by decide))
theorem zVe.p8 (h : zVe σ μ) : μ.1 3 43 = σ.1 34 8 := h.1.e (z_pn34_7 (d := 1) (by decide))
theorem zVe.p9 (h : zVe σ μ) : μ.1 3 44 = σ.1 34 9 := h.1.e (z_pn34_7 (d := 2) (by decide))
theorem zVe.p10 (h : zVe σ μ) : μ.1 3 45 = σ.1 34 10 := h.1.e (z_pn34_7 (d := 3) (by decide))
theorem zVe.p11 (h : zVe σ μ) : μ.1 3 46 = σ.1 34 11 := h.1.e (z_pn34_7 (d := 4) (by decide))
theorem zVe.e0 (h : zVe σ μ) : μ.1 3 47 = σ.1 23 0 := h.1.e (z_pn23_0 (d := 0) (by decide))
theorem zVe.r0 (h : zVe σ μ) : zr 0 255 (σ.1 23 0) := h.2.1.at (k := 23) (j := 0) rfl
theorem zVe.e1 (h : zVe σ μ) : μ.1 3 48 = σ.1 23 1 := h.1.e (z_pn23_0 (d := 1) (by decide))
theorem zVe.r1 (h : zVe σ μ) : zr 0 255 (σ.1 23 1) := h.2.1.at (k := 23) (j := 1) rfl
theorem zVe.e9 (h : zVe σ μ) : μ.1 3 56 = σ.1 23 9 := h.1.e (z_pn23_0 (d := 9) (by decide))
theorem zVe.r9 (h : zVe σ μ) : zr 0 255 (σ.1 23 9) := h.2.1.at (k := 23) (j := 9) rfl
theorem zVe.e10 (h : zVe σ μ) : μ.1 3 57 = σ.1 23 10 := h.1.e (z_pn23_0 (d := 10) (by decide))
theorem zVe.r10 (h : zVe σ μ) : zr 0 255 (σ.1 23 10) := h.2.1.at (k := 23) (j := 10) rfl
theorem zVe.e20 (h : zVe σ μ) : μ.1 3 66 = σ.1 23 20 := h.1.e (z_pn23_18 (d := 2) (by decide))
theorem zVe.e21 (h : zVe σ μ) : μ.1 3 67 = σ.1 23 21 := h.1.e (z_pn23_18 (d := 3) (by decide))
theorem zVe.rp0 (h : zVe σ μ) : zr 0 255 (σ.1 34 0) := h.2.1.at (k := 34) (j := 0) rfl
theorem zVe.l0 (h : zVe σ μ) : zr 0 1 (zL0 σ) := zLij_r (h.2.1.at (k := 34) (j := 10) rfl)
theorem zVe.l1 (h : zVe σ μ) : zr 0 1 (zL1 σ) := zLij_r (h.2.1.at (k := 34) (j := 11) rfl)
theorem p_linesC : zpc (fX4_lines σ ) (fun r => r = (σ, zL0 σ ||| (zL1 σ <<< ((1 : Int32) &&& 31)))) := by
  unfold fX4_lines fX4_lines_28 fX4_lines_52 zL0 zL1 zLij
  refine zpc_ck (zpc_bv (fun w ew => ?_))
  have ew : w = σ.1 34 0 := ew
  subst ew
  refine zpc_if (fun q => ?_) (fun q => zpc_ck ?_)
  · rw [if_pos q]
    refine zpc_if (fun q2 => zpc_some ?_) (fun q2 => zpc_ck (zpc_some ?_))
    · rw [if_pos q2]
    · rw [if_neg q2]; rfl
  · rw [if_neg q]
    refine zpc_if (fun q2 => zpc_some ?_) (fun q2 => zpc_ck (zpc_some ?_))
    · rw [if_pos q2]; rfl
    · rw [if_neg q2]; rfl
theorem p_line0 (h : zVe σ μ) : zpc (fX12_lineAt μ 0) (fun r => r = (μ, zL0 σ)) := by
  unfold fX12_lineAt fX12_lineAt_45 zL0 zLij
  have e0 : zgi μ 3 (33 : Int32).toNatClampNeg = σ.1 34 0 := h.p0
  have e10 : zgi μ 3 ((45 : Int32) + 0).toNatClampNeg = σ.1 34 10 := h.p10
  rw [e0, e10]
  have b : (σ.1 34 0 >>> ((1 + (2 * (0 : Int32))) &&& 31)) &&& 1 = if σ.1 34 0 &&& 2 = 0 then 0 else 1 := z_b1 h.rp0
  rw [b]
  by_cases q : σ.1 34 0 &&& 2 = 0
  · rw [if_pos q, if_pos rfl, if_pos q]
    exact zpc_ck (zpc_ck (zpc_some rfl))
  · rw [if_neg q, if_neg (by decide), if_neg q]
    exact zpc_ck (zpc_ck (zpc_some rfl))
theorem p_line1 (h : zVe σ μ) : zpc (fX12_lineAt μ 1) (fun r => r = (μ, zL1 σ)) := by
  unfold fX12_lineAt fX12_lineAt_45 zL1 zLij
  have e0 : zgi μ 3 (33 : Int32).toNatClampNeg = σ.1 34 0 := h.p0
  have e10 : zgi μ 3 ((45 : Int32) + 1).toNatClampNeg = σ.1 34 11 := h.p11
  rw [e0, e10]
  have b : (σ.1 34 0 >>> ((1 + (2 * (1 : Int32))) &&& 31)) &&& 1 = if σ.1 34 0 &&& 8 = 0 then 0 else 1 := z_b3 h.rp0
  rw [b]
  by_cases q : σ.1 34 0 &&& 8 = 0
  · rw [if_pos q, if_pos rfl, if_pos q]
    exact zpc_ck (zpc_ck (zpc_some rfl))
  · rw [if_neg q, if_neg (by decide), if_neg q]
    exact zpc_ck (zpc_ck (zpc_some rfl))
/-- a bit put into a byte -/
noncomputable def gwo (x n b : Int32) : Int32 := if b = 1 then x ||| (1 <<< (n &&& 31)) else x &&& ((1 <<< (n &&& 31)) ^^^ (-1))
theorem p_wo {x n b : Int32} : zpc (fX12_without μ x n b) (fun r => r = (μ, gwo x n b)) := by
  unfold fX12_without fX12_without_20 gwo
  exact zpc_if (fun q => zpc_some (by rw [if_pos q])) (fun q => zpc_some (by rw [if_neg q]))
theorem v_wo5 : ∀ i : Fin 256, (Int32.ofNat i.val &&& (-33)) ||| 32 = gwo (Int32.ofNat i.val) 5 1 ∧ (Int32.ofNat i.val &&& (-33)) ||| 0 = gwo (Int32.ofNat i.val) 5 0 := by decide +kernel
theorem v_wo3 : ∀ i : Fin 256, (Int32.ofNat i.val &&& (-9)) ||| 8 = gwo (Int32.ofNat i.val) 3 1 ∧ (Int32.ofNat i.val &&& (-9)) ||| 0 = gwo (Int32.ofNat i.val) 3 0 := by decide +kernel
theorem v_w16 : ∀ i : Fin 256, (Int32.ofNat i.val &&& 16) <<< ((1 : Int32) &&& 31) = if Int32.ofNat i.val &&& 16 = 0 then 0 else 32 := by decide +kernel
theorem v_w64 : ∀ i : Fin 256, (Int32.ofNat i.val &&& 64) >>> ((3 : Int32) &&& 31) = if Int32.ofNat i.val &&& 64 = 0 then 0 else 8 := by decide +kernel
theorem v_odd : ∀ i : Fin 64, ∀ a b : Fin 2, ((((Int32.ofNat i.val >>> ((2 : Int32) &&& 31)) ^^^ (-1)) &&& 15) ||| 48) ||| ((Int32.ofNat a.val ||| (Int32.ofNat b.val <<< ((1 : Int32) &&& 31))) <<< ((6 : Int32) &&& 31)) = gwo (gwo ((255 &&& ((Int32.ofNat i.val >>> ((2 : Int32) &&& 31)) ^^^ (-1))) ||| 48) 6 (Int32.ofNat a.val)) 7 (Int32.ofNat b.val) := by decide +kernel
theorem v_oddr : ∀ i : Fin 64, ∀ a b : Fin 2, 0 ≤ (((((Int32.ofNat i.val >>> ((2 : Int32) &&& 31)) ^^^ (-1)) &&& 15) ||| 48) ||| ((Int32.ofNat a.val ||| (Int32.ofNat b.val <<< ((1 : Int32) &&& 31))) <<< ((6 : Int32) &&& 31))).toInt ∧ (((((Int32.ofNat i.val >>> ((2 : Int32) &&& 31)) ^^^ (-1)) &&& 15) ||| 48) ||| ((Int32.ofNat a.val ||| (Int32.ofNat b.val <<< ((1 : Int32) &&& 31))) <<< ((6 : Int32) &&& 31))).toInt ≤ 255 := by decide +kernel
theorem v_wo5r : ∀ i : Fin 256, 0 ≤ ((Int32.ofNat i.val &&& (-33)) ||| 32).toInt ∧ ((Int32.ofNat i.val &&& (-33)) ||| 32).toInt ≤ 255 ∧ 0 ≤ ((Int32.ofNat i.val &&& (-33)) ||| 0).toInt ∧ ((Int32.ofNat i.val &&& (-33)) ||| 0).toInt ≤ 255 := by decide +kernel
theorem v_wo3r : ∀ i : Fin 256, 0 ≤ ((Int32.ofNat i.val &&& (-9)) ||| 8).toInt ∧ ((Int32.ofNat i.val &&& (-9)) ||| 8).toInt ≤ 255 ∧ 0 ≤ ((Int32.ofNat i.val &&& (-9)) ||| 0).toInt ∧ ((Int32.ofNat i.val &&& (-9)) ||| 0).toInt ≤ 255 := by decide +kernel
theorem z_wo5 {v w : Int32} (hv : zr 0 255 v) (hw : zr 0 255 w) : (v &&& (-33)) ||| ((w &&& 16) <<< ((1 : Int32) &&& 31)) = gwo v 5 ((w >>> ((4 : Int32) &&& 31)) &&& 1) ∧ zr 0 255 ((v &&& (-33)) ||| ((w &&& 16) <<< ((1 : Int32) &&& 31))) := by
  have e : (w &&& 16) <<< ((1 : Int32) &&& 31) = if w &&& 16 = 0 then 0 else 32 := by
    obtain ⟨i, e⟩ := z_byteF hw
    subst e
    exact v_w16 i
  rw [z_b4 hw, e]
  obtain ⟨i, e⟩ := z_byteF hv
  subst e
  by_cases q : w &&& 16 = 0
  · rw [if_pos q, if_pos q]
    exact ⟨(v_wo5 i).2, (v_wo5r i).2.2.1, (v_wo5r i).2.2.2⟩
  · rw [if_neg q, if_neg q]
    exact ⟨(v_wo5 i).1, (v_wo5r i).1, (v_wo5r i).2.1⟩
theorem z_wo3 {v w : Int32} (hv : zr 0 255 v) (hw : zr 0 255 w) : (v &&& (-9)) ||| ((w &&& 64) >>> ((3 : Int32) &&& 31)) = gwo v 3 ((w >>> ((6 : Int32) &&& 31)) &&& 1) ∧ zr 0 255 ((v &&& (-9)) ||| ((w &&& 64) >>> ((3 : Int32) &&& 31))) := by
  have e : (w &&& 64) >>> ((3 : Int32) &&& 31) = if w &&& 64 = 0 then 0 else 8 := by
    obtain ⟨i, e⟩ := z_byteF hw
    subst e
    exact v_w64 i
  rw [z_b6 hw, e]
  obtain ⟨i, e⟩ := z_byteF hv
  subst e
  by_cases q : w &&& 64 = 0
  · rw [if_pos q, if_pos q]
    exact ⟨(v_wo3 i).2, (v_wo3r i).2.2.1, (v_wo3r i).2.2.2⟩
  · rw [if_neg q, if_neg q]
    exact ⟨(v_wo3 i).1, (v_wo3r i).1, (v_wo3r i).2.1⟩
theorem z_F {x : Int32} {b : Int} {m : Nat} (h : zr 0 b x) (c : b < (m : Int)) : ∃ i : Fin m, x = Int32.ofNat i.val := by
  obtain ⟨h0, h1⟩ := h
  obtain ⟨i, hi⟩ : ∃ i : Nat, x.toInt = i := ⟨x.toInt.toNat, by omega⟩
  exact ⟨⟨i, by omega⟩, z_ofN hi⟩
/-- both pads' ports: the same answer, nothing changed -/
theorem t_pads (h : zVe σ μ) {a b : Int32} (e : (a = 0 ↔ ¬ b = 0)) : zp2 (fX4_read_131 σ a) (fX12_port_147 μ b) (fun r r' => zPo σ μ r.1 r'.1 ∧ r'.2 = r.2 ∧ zr 0 255 r.2) := by
  have g0 : zgi μ 3 (33 : Int32).toNatClampNeg = σ.1 34 0 := h.p0
  have g7 : zgi μ 3 (42 : Int32).toNatClampNeg = σ.1 34 7 := h.p7
  have g8 : zgi μ 3 (43 : Int32).toNatClampNeg = σ.1 34 8 := h.p8
  have r0 := h.rp0
  unfold fX4_read_131 fX4_read_146 fX12_port_147 fX12_port_289 fX12_port_230
  refine zp2_ifn e (fun _ _ => ?_) (fun _ _ => ?_)
  · -- the odd one
    have r8 : zr 0 63 (σ.1 34 8) := h.2.1.at (k := 34) (j := 8) rfl
    obtain ⟨i, ei⟩ := z_F (m := 64) r8 (by decide)
    obtain ⟨x, ex⟩ := z_F (m := 2) h.l0 (by decide)
    obtain ⟨y, ey⟩ := z_F (m := 2) h.l1 (by decide)
    obtain ⟨V, eV⟩ : ∃ V, V = ((((σ.1 34 8 >>> ((2 : Int32) &&& 31)) ^^^ (-1)) &&& 15) ||| 48) ||| ((zL0 σ ||| (zL1 σ <<< ((1 : Int32) &&& 31))) <<< ((6 : Int32) &&& 31)) := ⟨_, rfl⟩
    have rV : zr 0 255 V := by
      rw [eV, ei, ex, ey]
      exact v_oddr i x y
    have kV : gwo (gwo ((255 &&& ((σ.1 34 8 >>> ((2 : Int32) &&& 31)) ^^^ (-1))) ||| 48) 6 (zL0 σ)) 7 (zL1 σ) = V := by
      rw [eV, ei, ex, ey]
      exact (v_odd i x y).symm
    have w3 := z_wo3 rV r0
    refine zp2_bilp (P := fun r r' => zPo σ μ r.1 r'.1 ∧ r'.2 = r.2 ∧ zr 0 255 r.2) ?_ (fun s v b q => zp2_some q)
    unfold fX4_readOddPads fX4_readOddPads_57
    refine zp2_ckl (zp2_bil p_linesC (fun s v es => ?_))
    cases es
    refine zp2_bvl (fun v3 e3 => zp2_ckl ?_)
    have e3 : v3 = V := e3.trans eV.symm
    subst e3
    refine zp2_ckr (zp2_bvr (fun v4 e4 => ?_))
    rw [g8] at e4
    refine zp2_bir (p_line0 h) (fun t v et => ?_)
    cases et
    refine zp2_bir p_wo (fun t v et => ?_)
    cases et
    refine zp2_bir (p_line1 h) (fun t v et => ?_)
    cases et
    refine zp2_bir p_wo (fun t v et => ?_)
    cases et
    rw [e4, kV]
    refine zp2_ckr ?_
    rw [g0]
    refine zp2_if (fun _ => ?_) (fun _ => zp2_some ⟨zPo.rf h, rfl, rV⟩)
    refine zp2_ckl (zp2_ckr (zp2_bir p_wo (fun t v et => ?_)))
    cases et
    exact zp2_some ⟨zPo.rf h, w3.1.symm, w3.2⟩
  · -- the even one
    obtain ⟨V, eV⟩ : ∃ V, V = ((σ.1 34 7 ||| (σ.1 34 8 <<< ((6 : Int32) &&& 31))) ^^^ (-1)) &&& 255 := ⟨_, rfl⟩
    have rV : zr 0 255 V := by
      rw [eV]
      exact z_r8 _
    have w5 := z_wo5 rV r0
    refine zp2_bilp (P := fun r r' => zPo σ μ r.1 r'.1 ∧ r'.2 = r.2 ∧ zr 0 255 r.2) ?_ (fun s v b q => zp2_some q)
    unfold fX4_readEvenPads fX4_readEvenPads_56
    refine zp2_ckl (zp2_ckl (zp2_bvl (fun v3 e3 => zp2_ckl ?_)))
    have e3 : v3 = V := e3.trans eV.symm
    subst e3
    refine zp2_ckr (zp2_ckr (zp2_bvr (fun v4 e4 => zp2_ckr ?_)))
    rw [g7, g8, Int32.and_comm, ← eV] at e4
    subst e4
    rw [g0]
    refine zp2_if (fun _ => ?_) (fun _ => zp2_some ⟨zPo.rf h, rfl, rV⟩)
    refine zp2_ckl (zp2_ckr (zp2_bir p_wo (fun t v et => ?_)))
    cases et
    exact zp2_some ⟨zPo.rf h, w5.1.symm, w5.2⟩
theorem v_p6 : ∀ i : Fin 256, ((Int32.ofNat i.val) >>> ((6 : Int32) &&& 31) = 0 ↔ ¬ 64 ≤ Int32.ofNat i.val) ∧ (¬ (Int32.ofNat i.val) >>> ((6 : Int32) &&& 31) = 0 → ((Int32.ofNat i.val) >>> ((6 : Int32) &&& 31) = 1 ↔ ¬ 128 ≤ Int32.ofNat i.val)) ∧ (¬ (Int32.ofNat i.val) >>> ((6 : Int32) &&& 31) = 0 → ¬ (Int32.ofNat i.val) >>> ((6 : Int32) &&& 31) = 1 → ((Int32.ofNat i.val) >>> ((6 : Int32) &&& 31) = 2 ↔ ¬ 192 ≤ Int32.ofNat i.val)) ∧ (Int32.ofNat i.val &&& 1 = 0 ↔ ¬ zrem (Int32.ofNat i.val) 2 = 1) := by decide +kernel
theorem zPo.vcount (h : zVe σ μ) : ∃ v, zr 0 255 v ∧ zpc (fX9_vCount σ ) (fun r => r = (σ, v)) ∧ zpc (fX12_vCount μ ) (fun r => r = (μ, v)) := by
  have hk := h.2.2.1
  obtain ⟨k0, k1, k2, k3, k4, k5⟩ := hk
  refine ⟨zvc (σ.1 23 20) (zht (σ.1 23 0) (σ.1 23 1)) (μ.1 0 3), ?_, p_vCountC h.r0 h.r1 k5, ?_⟩
  · unfold zvc
    exact z_r8 _
  · have q := p_vCountM (μ := μ) (by rw [h.e0]; exact h.r0) (by rw [h.e1]; exact h.r1) (by rw [h.e20]; exact h.2.1.at (k := 23) (j := 20) rfl) (fun n => by
      have l := h.2.2.2
      unfold zLn at l
      rw [k5, if_neg n] at l
      have c : (262 : Int32).toInt = 262 := rfl
      have r := h.2.1.at (k := 23) (j := 20) rfl
      rw [h.e20]
      exact ⟨r.1, by omega⟩)
    rw [h.e20, h.e0, h.e1] at q
    exact q
theorem t_in11 (h : zVe σ μ) {p a b : Int32} (hp : zr 0 255 p) (e : (a = 0 ↔ ¬ b = 0)) : zp2 (fX4_read_11 σ p a) (fX12_port_12 μ p b) (fun r r' => zPo σ μ r.1 r'.1 ∧ r'.2 = r.2 ∧ zr 0 255 r.2) := by
  obtain ⟨i, ei⟩ := z_byteF hp
  obtain ⟨d0, d1, d2, d3⟩ := v_p6 i
  rw [← ei] at d0 d1 d2 d3
  have two := h.2.2.1.two
  have e' : (a = 0 ↔ ¬ b = 0) := e
  have e2 : (¬ a = 0 ↔ b = 0) := ⟨fun q => Decidable.byContradiction (fun r => q (e.mpr r)), fun q r => e.mp r q⟩
  unfold fX4_read_11 fX12_port_12
  refine zp2_ifn d0 (fun c0 m0 => ?_) (fun c0 m0 => zp2_ifn (d1 c0) (fun c1 m1 => ?_) (fun c1 m1 => zp2_ifn (d2 c0 c1) (fun c2 m2 => ?_) (fun c2 m2 => ?_)))
  · -- 0 to 63
    unfold fX4_read_62 fX12_port_32
    rcases two with ⟨_, k6, k2⟩ | ⟨_, k6, k2⟩
    · refine zp2_ifl (fun _ => zp2_ifr (fun q => absurd q k2) (fun _ => zp2_some ⟨zPo.rf h, rfl, (show zr 0 255 (255 : Int32) from zr_c (by decide))⟩)) (fun q => absurd k6 q)
    · refine zp2_ifl (fun q => absurd q k6) (fun _ => zp2_ifr (fun _ => ?_) (fun q => absurd k2 q))
      refine zp2_bilp (P := fun r r' => zPo σ μ r.1 r'.1 ∧ r'.2 = r.2 ∧ zr 0 255 r.2) ?_ (fun s v b q => zp2_some q)
      unfold fX4_readHandy fX4_readHandy_23 fX4_readHandy_43 fX4_readHandy_46 fX12_port_60 fX12_port_73
      by_cases z : p = 0
      · refine zp2_ifl (fun _ => zp2_ckl ?_) (fun q => absurd z q)
        refine zp2_ifr (fun _ => zp2_ifr (fun _ => zp2_ckr ?_) (fun q => absurd z q)) (fun q => absurd (by rw [z]; decide) q)
        rw [show zgi μ 3 (44 : Int32).toNatClampNeg = zgi σ 34 (9 : Int32).toNatClampNeg from h.p9]
        exact zp2_if (fun _ => zp2_some ⟨zPo.rf h, rfl, (show zr 0 255 (64 : Int32) from zr_c (by decide))⟩) (fun _ => zp2_some ⟨zPo.rf h, rfl, (show zr 0 255 (192 : Int32) from zr_c (by decide))⟩)
      · have z1 : ¬ p < 1 := fun q => by
          have a1 := Int32.lt_iff_toInt_lt.mp q
          have a0 := hp.1
          have c1 : (1 : Int32).toInt = 1 := rfl
          exact z (Int32.toInt_inj.mp (by rw [show (0 : Int32).toInt = 0 from rfl]; omega))
        refine zp2_ifl (fun q => absurd q z) (fun _ => zp2_ifl (fun q => absurd q z1) (fun _ => ?_))
        have e5 : 5 < p ↔ ¬ p ≤ 5 := ⟨fun q r => by have := Int32.lt_iff_toInt_lt.mp q; have := Int32.le_iff_toInt_le.mp r; omega, fun q => z_nle q⟩
        refine zp2_ifn e5 (fun _ _ => zp2_some ⟨zPo.rf h, rfl, (show zr 0 255 (255 : Int32) from zr_c (by decide))⟩) (fun _ m5 => ?_)
        refine zp2_ifr (fun q => absurd q z) (fun _ => zp2_ckl (zp2_ckr (zp2_some ?_)))
        have b1 := Int32.le_iff_toInt_le.mp (z_nlt z1)
        have b5 := Int32.le_iff_toInt_le.mp m5
        have c1 : (1 : Int32).toInt = 1 := rfl
        have c5 : (5 : Int32).toInt = 5 := rfl
        have kp := z_clamp hp.1
        obtain ⟨d, ed⟩ : ∃ d : Nat, p.toNatClampNeg = 1 + d := ⟨p.toNatClampNeg - 1, by omega⟩
        have hd : d < 5 := by omega
        have em : ((36 : Int32) + p).toNatClampNeg = 37 + d := by rw [z_off hp (k := 36) rfl (by decide), ed]; omega
        refine ⟨zPo.rf h, ?_, ?_⟩
        · show zgi μ 3 ((36 : Int32) + p).toNatClampNeg = zgi σ 34 p.toNatClampNeg
          rw [em, ed]
          exact h.1.e (z_pn34_1 (d := d) hd)
        · show zr 0 255 (zgi σ 34 p.toNatClampNeg)
          rw [ed]
          exact h.2.1.at (zg_34 ⟨1 + d, by omega⟩)
  · -- 64 to 127
    unfold fX4_read_84 fX12_port_99
    refine zp2_ifn e' (fun _ _ => zp2_ckl (zp2_ckr (zp2_some ⟨zPo.rf h, h.p6, h.2.1.at (k := 34) (j := 6) rfl⟩))) (fun _ _ => ?_)
    obtain ⟨v, rv, vC, vM⟩ := zPo.vcount h
    refine zp2_bil vC (fun s v es => zp2_bir vM (fun t w et => ?_))
    cases es
    cases et
    exact zp2_some ⟨zPo.rf h, rfl, rv⟩
  · -- 128 to 191
    unfold fX4_read_106 fX12_port_122
    refine zp2_ifn e' (fun _ _ => ?_) (fun _ _ => ?_)
    · exact zp2_bii (t_status h) (fun s v t w q => zp2_some q)
    · exact zp2_bii (t_data h) (fun s v t w q => zp2_some q)
  · -- from 192 on
    refine zp2_if (fun _ => ?_) (fun _ => t_pads h e)
    rcases two with ⟨_, k6, k2⟩ | ⟨_, k6, k2⟩
    · refine zp2_ifl (fun _ => zp2_ifr (fun q => absurd q k2) (fun _ => zp2_ckr ?_)) (fun q => absurd k6 q)
      unfold fX10_value fX10_value_38
      refine zp2_bil (P := fun r => r = (σ, σ.1 32 64)) ?_ (fun s v es => ?_)
      · exact zpc_if (fun q => absurd q (by decide)) (fun _ => zpc_if (fun _ => zpc_if (fun q => absurd q (by decide)) (fun _ => zpc_ck (zpc_some rfl))) (fun q => absurd (by decide) q))
      · cases es
        refine zp2_some ⟨zPo.rf h, h.1.e (z_pn32_64 (d := 0) (by decide)), ?_⟩
        have r := h.2.1.at (k := 32) (j := 64) rfl
        exact ⟨r.1, by have := r.2; show (σ.1 32 64).toInt ≤ 255; omega⟩
    · exact zp2_ifl (fun q => absurd q k6) (fun _ => zp2_ifr (fun _ => t_pads h e) (fun q => absurd k2 q))
theorem t_in (h : zVe σ μ) {p : Int32} (hp : zr 0 255 p) : zp2 (fX4_read σ p) (fX12_port μ p) (fun r r' => zPo σ μ r.1 r'.1 ∧ r'.2 = r.2 ∧ zr 0 255 r.2) := by
  obtain ⟨i, ei⟩ := z_byteF hp
  obtain ⟨d0, d1, d2, d3⟩ := v_p6 i
  rw [← ei] at d3
  unfold fX4_read fX12_port
  exact zp2_ckr (zp2_ifn d3 (fun _ _ => t_in11 h hp (by decide)) (fun _ _ => t_in11 h hp (by decide)))
end ZPR
end ZJN1
section ZJN2
/-! WRITING THE PORTS -/
section ZPW
variable {σ μ s t : zSt}
theorem v_l8 : ∀ i : Fin 8, (Int32.ofNat i.val) / 2 = (Int32.ofNat i.val) >>> ((1 : Int32) &&& 31) ∧ zrem (Int32.ofNat i.val) 2 = (Int32.ofNat i.val) &&& 1 ∧ 0 ≤ ((Int32.ofNat i.val) >>> ((1 : Int32) &&& 31)).toInt ∧ ((Int32.ofNat i.val) >>> ((1 : Int32) &&& 31)).toInt ≤ 3 := by decide +kernel
theorem z_r15m (x : Int32) : zr 0 15 (x &&& 15) := zr_andr (lo := 0) (hi := 15) (zr_c (lo := 15) (hi := 15) (by decide)) (by decide)
theorem t_take30 (k : zPo σ μ s t) {x a : Int32} (e : a = 0 ↔ x ≤ 127) : zp2 (fX7_take_30 s x a) (fX12_noise_19 t x) (zPo σ μ) := by
  have h := k.1
  have e17 : zgi t 3 (86 : Int32).toNatClampNeg = s.1 30 17 := h.1.e (z_pn30_17 (d := 0) (by decide))
  have r17 : zr 0 7 (s.1 30 17) := h.2.1.at (k := 30) (j := 17) rfl
  obtain ⟨i, ei⟩ := z_F (m := 8) r17 (by decide)
  obtain ⟨a1, a2, a3, a4⟩ := v_l8 i
  rw [← ei] at a1 a2 a3 a4
  unfold fX7_take_30 fX7_take_155 fX12_noise_19 fX12_noise_140 fX12_noise_141
  rw [e17, a1, a2]
  refine zp2_ckl (zp2_bvl (fun v ev => zp2_ckl ?_))
  have ev : v = s.1 30 17 >>> ((1 : Int32) &&& 31) := ev
  refine zp2_ckr (zp2_ckr (zp2_bvr (fun v2 ev2 => zp2_ckr (zp2_ckr ?_))))
  rw [← ev] at ev2 a3 a4
  subst ev2
  have rv : zr 0 3 v2 := ⟨a3, a4⟩
  have kv := z_clamp rv.1
  have b3 := rv.2
  obtain ⟨j, ej⟩ : ∃ j : Nat, v2.toNatClampNeg = j := ⟨_, rfl⟩
  have hj : j < 4 := by omega
  refine zp2_if (fun _ => ?_) (fun _ => ?_)
  · rw [z_off rv (k := 9) rfl (by decide), z_off rv (k := 78) rfl (by decide), ej]
    refine zp2_ckl (zp2_bvl (fun s1 f1 => zp2_ckr (zp2_bvr (fun t1 g1 => zp2_some ?_))))
    rw [f1, g1]
    exact k.w1 (z_pn30_9 (d := j) (by omega)) rfl (zGo.r (zg_30b ⟨j, hj⟩) (z_r15m _)) rfl (zcv_m (a := 9) (b := 13) (by decide) (by omega) (by omega)) (zcv_m (a := 78) (b := 82) (by decide) (by omega) (by omega))
  · refine zp2_if (fun _ => ?_) (fun n3 => ?_)
    · refine zp2_ckl (zp2_bvl (fun s1 f1 => zp2_ckl (zp2_bvl (fun s2 f2 => zp2_ckr (zp2_bvr (fun t1 g1 => zp2_ckr (zp2_bvr (fun t2 g2 => zp2_some ?_))))))))
      rw [f2, f1, g2, g1]
      exact (k.w1 (z_pn30_9 (d := 4) (by decide)) rfl (zGo.r rfl (zr_andr (lo := 0) (hi := 7) (zr_c (lo := 7) (hi := 7) (by decide)) (by decide))) rfl rfl rfl).nz
    · have hj3 : j < 3 := by
        have : ¬ v2.toInt = 3 := fun q => n3 (Int32.toInt_inj.mp q)
        omega
      have o0 : ((0 : Int32) + v2).toNatClampNeg = j := by rw [z_off rv (k := 0) rfl (by decide), ej]; omega
      have o69 : ((69 : Int32) + v2).toNatClampNeg = 69 + j := by rw [z_off rv (k := 69) rfl (by decide), ej]
      rw [o0, o69]
      have q := z_pn30_0 (d := j) (by omega)
      rw [Nat.zero_add] at q
      have eq : zgi t 3 (69 + j) = zgi s 30 j := h.1.e q
      rw [eq]
      have r0 : zr 0 1023 (((zgi s 30 j) &&& 15) ||| ((x &&& 63) <<< ((4 : Int32) &&& 31))) := zr_or (lo := 0) (hi := 1023) 10 (z_r15m _) (zr_shl (lo := 0) (hi := 1008) 4 rfl (zr_andr (lo := 0) (hi := 63) (zr_c (lo := 63) (hi := 63) (by decide)) (by decide)) (by decide)) (by decide)
      have r1 : zr 0 1023 (((zgi s 30 j) &&& 1008) ||| (x &&& 15)) := zr_or (lo := 0) (hi := 1023) 10 (zr_andr (lo := 0) (hi := 1008) (zr_c (lo := 1008) (hi := 1008) (by decide)) (by decide)) (z_r15m _) (by decide)
      refine zp2_iff e (fun _ _ => ?_) (fun _ _ => ?_)
      · refine zp2_ckl (zp2_ckl (zp2_bvl (fun s1 f1 => zp2_ckr (zp2_ckr (zp2_bvr (fun t1 g1 => zp2_some ?_))))))
        rw [f1, g1]
        exact k.w1 q rfl (zGo.r (zg_30a ⟨j, hj3⟩) r0) rfl (zcv_m (a := 0) (b := 2) (by decide) (by omega) (by omega)) (zcv_m (a := 68) (b := 71) (by decide) (by omega) (by omega))
      · refine zp2_ckl (zp2_ckl (zp2_bvl (fun s1 f1 => zp2_ckr (zp2_ckr (zp2_bvr (fun t1 g1 => zp2_some ?_))))))
        rw [f1, g1]
        exact k.w1 q rfl (zGo.r (zg_30a ⟨j, hj3⟩) r1) rfl (zcv_m (a := 0) (b := 2) (by decide) (by omega) (by omega)) (zcv_m (a := 68) (b := 71) (by decide) (by omega) (by omega))
theorem v_128 {x : Int32} : x < 128 ↔ x ≤ 127 := by
  have c1 : (127 : Int32).toInt = 127 := rfl
  have c2 : (128 : Int32).toInt = 128 := rfl
  exact ⟨fun q => Int32.le_iff_toInt_le.mpr (by have := Int32.lt_iff_toInt_lt.mp q; omega), fun q => Int32.lt_iff_toInt_lt.mpr (by have := Int32.le_iff_toInt_le.mp q; omega)⟩
theorem t_noise (h : zVe σ μ) {x : Int32} : zp2 (fX7_take σ x) (fX12_noise μ x) (zPo σ μ) := by
  unfold fX7_take fX7_take_12 fX12_noise
  refine zp2_iff v_128 (fun _ m => ?_) (fun _ m => ?_)
  · exact zp2_ifl (fun _ => t_take30 (zPo.rf h) ⟨fun _ => m, fun _ => rfl⟩) (fun q => absurd rfl q)
  · refine zp2_ifl (fun q => absurd q (by decide)) (fun _ => zp2_ckl (zp2_bvl (fun s1 f1 => zp2_ckr (zp2_bvr (fun t1 g1 => ?_)))))
    refine t_take30 (s := s1) (t := t1) ?_ ⟨fun q => absurd q (by decide), fun q => absurd q m⟩
    rw [f1, g1]
    exact (zPo.rf h).w1 (z_pn30_17 (d := 0) (by decide)) rfl (zGo.r rfl (zr_andr (lo := 0) (hi := 7) (zr_c (lo := 7) (hi := 7) (by decide)) (by decide))) rfl rfl rfl
/-- the latch of the line's place -/
theorem v_hc : ∀ i : Fin 228, 0 ≤ (zhc (Int32.ofNat i.val)).toInt ∧ (zhc (Int32.ofNat i.val)).toInt ≤ 255 := by decide +kernel
theorem t_latch (k : zPo σ μ s t) : zp2 (zbi (fX9_hCount s ) (fun σ6 v7 => zck (zin 6 12) (zbv (zsi σ6 34 ((6 : Int32).toNatClampNeg) v7) (fun σ8 => fX4_changeLines_37 σ8)))) (fX12_portTo_129 t) (zPo σ μ) := by
  unfold fX12_portTo_129 fX12_portTo_140 fX12_portTo_267 fX4_changeLines_37
  have h := k.1
  refine zp2_bil p_hCountC (fun s1 v es => zp2_bir p_hCountM (fun t1 w et => ?_))
  cases es
  cases et
  refine zp2_ckl (zp2_bvl (fun s2 f2 => zp2_ckr (zp2_bvr (fun t2 g2 => zp2_some ?_))))
  rw [f2, g2, h.e21]
  have r : zr 0 227 (s.1 23 21) := h.2.1.at (k := 23) (j := 21) rfl
  obtain ⟨i, ei⟩ := z_F (m := 228) r (by decide)
  refine k.w1 (z_pn34_6 (d := 0) (by decide)) rfl (zGo.r rfl ?_) rfl rfl rfl
  rw [ei]
  exact v_hc i
theorem v_ch : ∀ a b c d : Fin 2, ((Int32.ofNat c.val ||| (Int32.ofNat d.val <<< ((1 : Int32) &&& 31))) &&& ((Int32.ofNat a.val ||| (Int32.ofNat b.val <<< ((1 : Int32) &&& 31))) ^^^ (-1)) = 0) ↔ ¬ ((Int32.ofNat a.val = 0 ∧ Int32.ofNat c.val = 1) ∨ (Int32.ofNat b.val = 0 ∧ Int32.ofNat d.val = 1)) := by decide +kernel
/-- lines that rise: what follows a change, l and m the old lines -/
theorem t_rise (k : zPo σ μ s t) {l m : Int32} (hl : zr 0 1 l) (hm : zr 0 1 m) : zp2 (zbi (fX4_lines s ) (fun σ4 v5 => if (v5 &&& ((l ||| (m <<< ((1 : Int32) &&& 31))) ^^^ (-1))) = 0 then fX4_changeLines_37 σ4 else zbi (fX9_hCount σ4 ) (fun σ6 v7 => zck (zin 6 12) (zbv (zsi σ6 34 ((6 : Int32).toNatClampNeg) v7) (fun σ8 => fX4_changeLines_37 σ8))))) (if l = 0 then zbi (fX12_lineAt t 0) (fun σ11 v12 => if v12 = 1 then fX12_portTo_129 σ11 else fX12_portTo_115 σ11 m) else fX12_portTo_115 t m) (zPo σ μ) := by
  have h := k.1
  obtain ⟨a, ea⟩ := z_F (m := 2) hl (by decide)
  obtain ⟨b, eb⟩ := z_F (m := 2) hm (by decide)
  obtain ⟨c, ec⟩ := z_F (m := 2) h.l0 (by decide)
  obtain ⟨d, ed⟩ := z_F (m := 2) h.l1 (by decide)
  have key := v_ch a b c d
  rw [← ea, ← eb, ← ec, ← ed] at key
  refine zp2_bil p_linesC (fun s1 v es => ?_)
  cases es
  have no : ¬ (l = 0 ∧ zL0 s = 1) → zp2 (if ((zL0 s ||| (zL1 s <<< ((1 : Int32) &&& 31))) &&& ((l ||| (m <<< ((1 : Int32) &&& 31))) ^^^ (-1))) = 0 then fX4_changeLines_37 s else zbi (fX9_hCount s ) (fun σ6 v7 => zck (zin 6 12) (zbv (zsi σ6 34 ((6 : Int32).toNatClampNeg) v7) (fun σ8 => fX4_changeLines_37 σ8)))) (fX12_portTo_115 t m) (zPo σ μ) := fun n => by
    unfold fX12_portTo_115
    refine zp2_ifr (fun m0 => zp2_bir (p_line1 h) (fun t1 w et => ?_)) (fun m0 => ?_)
    · cases et
      refine zp2_ifr (fun d1 => ?_) (fun d1 => ?_)
      · exact zp2_ifl (fun q => absurd (Or.inr ⟨m0, d1⟩) (key.mp q)) (fun _ => t_latch k)
      · exact zp2_ifl (fun q => zp2_some k) (fun q => absurd (key.mpr (fun r => r.elim n (fun r => d1 r.2))) q)
    · exact zp2_ifl (fun q => zp2_some k) (fun q => absurd (key.mpr (fun r => r.elim n (fun r => m0 r.1))) q)
  refine zp2_ifr (fun l0 => zp2_bir (p_line0 h) (fun t1 w et => ?_)) (fun l0 => no (fun r => l0 r.1))
  cases et
  refine zp2_ifr (fun c1 => ?_) (fun c1 => no (fun r => c1 r.2))
  exact zp2_ifl (fun q => absurd (Or.inl ⟨l0, c1⟩) (key.mp q)) (fun _ => t_latch k)
theorem zPo.p0 (h : zPo σ μ s t) {v w : Int32} (r : zr 0 255 v) (e : w = v) : zPo σ μ (zsi s 34 0 v) (zsi t 3 33 w) := h.w1 (z_pn34_0 (d := 0) (by decide)) rfl (zGo.r rfl r) e rfl rfl
theorem t_pads75 (h : zVe σ μ) {x a b : Int32} (hx : zr 0 255 x) (e : a = 0 ↔ ¬ b = 0) : zp2 (fX4_write_71 σ x a) (fX12_portTo_75 μ x b) (zPo σ μ) := by
  unfold fX4_write_71 fX4_write_151 fX12_portTo_75 fX12_portTo_267 fX4_changeLines
  refine zp2_ifn e (fun _ _ => ?_) (fun _ _ => zp2_some (zPo.rf h))
  refine zp2_bulp (P := zPo σ μ) ?_ (fun s b q => zp2_some q)
  refine zp2_bil p_linesC (fun s1 v es => zp2_ckl (zp2_bvl (fun s3 f3 => ?_)))
  cases es
  refine zp2_bir (p_line0 h) (fun t1 w et => ?_)
  cases et
  refine zp2_bir (p_line1 h) (fun t1 w et => zp2_ckr (zp2_bvr (fun t3 g3 => ?_)))
  cases et
  have k : zPo σ μ s3 t3 := by
    rw [f3, g3]
    exact (zPo.rf h).p0 hx rfl
  exact t_rise k h.l0 h.l1
theorem v_u64 : ∀ i : Fin 256, zrem (Int32.ofNat i.val) 64 = Int32.ofNat i.val &&& 63 ∧ zrem (Int32.ofNat i.val) 4 = Int32.ofNat i.val &&& 3 := by decide +kernel
theorem t_fm (h : zVe σ μ) {p x : Int32} {c1 c2 : Bool} (hx : zr 0 255 x) : zp2 (zbu (fX10_take σ p x) (fun σ6 => fX4_write_151 σ6)) (if p = 240 then zck c1 (zck (zin 162 1048) (zbv (zsi μ 3 ((162 : Int32).toNatClampNeg) (zrem x 64)) (fun σ16 => fX12_portTo_267 σ16))) else if p = 241 then zck (zin 162 1048) (zck (zin (98 + (zgi μ 3 (162 : Int32).toNatClampNeg)) 1048) (zbv (zsi μ 3 ((98 + (zgi μ 3 (162 : Int32).toNatClampNeg)).toNatClampNeg) x) (fun σ15 => fX12_portTo_267 σ15))) else zck c2 (zck (zin 163 1048) (zbv (zsi μ 3 ((163 : Int32).toNatClampNeg) (zrem x 4)) (fun σ14 => fX12_portTo_267 σ14)))) (zPo σ μ) := by
  have ex : zrem x 64 = x &&& 63 ∧ zrem x 4 = x &&& 3 := by
    obtain ⟨i, e⟩ := z_byteF hx
    subst e
    exact v_u64 i
  rw [ex.1, ex.2]
  unfold fX4_write_151 fX12_portTo_267
  refine zp2_bulp (P := zPo σ μ) ?_ (fun s b q => zp2_some q)
  unfold fX10_take fX10_take_57
  refine zp2_if (fun _ => ?_) (fun _ => zp2_if (fun _ => ?_) (fun _ => ?_))
  · refine zp2_ckl (zp2_bvl (fun s1 f1 => zp2_ckr (zp2_ckr (zp2_bvr (fun t1 g1 => zp2_some ?_)))))
    rw [f1, g1]
    exact (zPo.rf h).w1 (z_pn32_68 (d := 0) (by decide)) rfl (zGo.r rfl (zr_andr (lo := 0) (hi := 63) (zr_c (lo := 63) (hi := 63) (by decide)) (by decide))) rfl rfl rfl
  · have e68 : zgi μ 3 (162 : Int32).toNatClampNeg = σ.1 32 68 := h.1.e (z_pn32_68 (d := 0) (by decide))
    have r68 : zr 0 63 (σ.1 32 68) := h.2.1.at (k := 32) (j := 68) rfl
    have m68 : zgi σ 32 (68 : Int32).toNatClampNeg &&& 63 = σ.1 32 68 := Int32.toInt_inj.mp (by
      show (σ.1 32 68 &&& 63).toInt = _
      rw [z_mask (k := 6) r68.1 rfl (by decide)]
      have := r68.1
      have := r68.2
      show (σ.1 32 68).toInt % 64 = _
      omega)
    rw [e68, m68]
    refine zp2_ckl (zp2_ckl (zp2_bvl (fun s1 f1 => zp2_ckr (zp2_ckr (zp2_bvr (fun t1 g1 => zp2_some ?_))))))
    have kk := z_clamp r68.1
    have b68 := r68.2
    rw [f1, g1, z_off r68 (k := 98) rfl (by decide)]
    have p := z_pn32_0 (d := (σ.1 32 68).toNatClampNeg) (by omega)
    rw [Nat.zero_add] at p
    exact (zPo.rf h).w1 p rfl (zGo.r (zg_32 ⟨(σ.1 32 68).toNatClampNeg, by omega⟩) hx) rfl (zcv_m (a := 0) (b := 64) (by decide) (by omega) (by omega)) (zcv_m (a := 98) (b := 163) (by decide) (by omega) (by omega))
  · refine zp2_ckl (zp2_bvl (fun s1 f1 => zp2_ckr (zp2_ckr (zp2_bvr (fun t1 g1 => zp2_some ?_)))))
    rw [f1, g1]
    exact (zPo.rf h).w1 (z_pn32_64 (d := 0) (by decide)) rfl (zGo.r rfl (zr_andr (lo := 0) (hi := 3) (zr_c (lo := 3) (hi := 3) (by decide)) (by decide))) rfl rfl rfl
theorem v_hd : ∀ i : Fin 256, (Int32.ofNat i.val < 1 ↔ Int32.ofNat i.val ≤ 0) ∧ (¬ Int32.ofNat i.val < 1 → ¬ Int32.ofNat i.val = 6 → (6 < Int32.ofNat i.val ↔ 6 ≤ Int32.ofNat i.val)) ∧ (Int32.ofNat i.val < 1 → ¬ Int32.ofNat i.val = 6) := by decide +kernel
theorem t_out11 (h : zVe σ μ) {p x a b : Int32} (hp : zr 0 255 p) (hx : zr 0 255 x) (e : a = 0 ↔ ¬ b = 0) : zp2 (fX4_write_11 σ p x a) (fX12_portTo_12 μ p x b) (zPo σ μ) := by
  obtain ⟨i, ei⟩ := z_byteF hp
  obtain ⟨d0, d1, d2, d3⟩ := v_p6 i
  obtain ⟨w0, w1, w2⟩ := v_hd i
  rw [← ei] at d0 d1 d2 d3 w0 w1 w2
  have two := h.2.2.1.two
  unfold fX4_write_11 fX12_portTo_12 fX12_portTo_50
  refine zp2_ifn d0 (fun c0 m0 => ?_) (fun c0 m0 => zp2_ifn (d1 c0) (fun c1 m1 => ?_) (fun c1 m1 => zp2_ifn (d2 c0 c1) (fun c2 m2 => ?_) (fun c2 m2 => ?_)))
  · -- 0 to 63
    rcases two with ⟨_, k6, k2⟩ | ⟨_, k6, k2⟩
    · exact zp2_ifl (fun _ => zp2_ifr (fun q => absurd q k2) (fun _ => zp2_ifr (fun q => absurd q k2) (fun _ => t_pads75 h hx e))) (fun q => absurd k6 q)
    · refine zp2_ifl (fun q => absurd q k6) (fun _ => zp2_ifr (fun _ => ?_) (fun q => absurd k2 q))
      refine zp2_iff w0 (fun c _ => ?_) (fun c _ => ?_)
      · exact zp2_ifr (fun _ => zp2_ifr (fun q => absurd q (w2 c)) (fun _ => t_pads75 h hx e)) (fun q => absurd k2 q)
      · by_cases s6 : p = 6
        · subst s6
          refine zp2_ifl (fun q => absurd q (by decide)) (fun _ => zp2_ifr (fun _ => zp2_ifr (fun _ => zp2_ifr (fun _ => ?_) (fun q => absurd rfl q)) (fun q => absurd k2 q)) (fun q => absurd (by decide) q))
          unfold fX4_write_151 fX12_portTo_267 fX4_writeHandy fX4_writeHandy_34 fX7_takeStereo
          refine zp2_bulp (P := zPo σ μ) ?_ (fun s b q => zp2_some q)
          refine zp2_ifl (fun _ => ?_) (fun q => absurd rfl q)
          refine zp2_bulp (P := zPo σ μ) ?_ (fun s b q => zp2_some q)
          refine zp2_ckl (zp2_bvl (fun s1 f1 => zp2_ckr (zp2_bvr (fun t1 g1 => zp2_some ?_))))
          rw [f1, g1]
          exact (zPo.rf h).w1 (z_pn30_18 (d := 0) (by decide)) rfl (zGo.r rfl hx) rfl rfl rfl
        · refine zp2_iff (w1 c s6) (fun _ _ => ?_) (fun c6 _ => ?_)
          · exact zp2_ifr (fun _ => zp2_ifr (fun q => absurd q s6) (fun _ => t_pads75 h hx e)) (fun q => absurd k2 q)
          · unfold fX4_write_151 fX12_portTo_267 fX4_writeHandy fX4_writeHandy_34
            refine zp2_bulp (P := zPo σ μ) ?_ (fun s b q => zp2_some q)
            have b1 := Int32.le_iff_toInt_le.mp (z_nlt c)
            have b6 := Int32.le_iff_toInt_le.mp (z_nlt c6)
            have c1 : (1 : Int32).toInt = 1 := rfl
            have c5 : (5 : Int32).toInt = 5 := rfl
            have c66 : (6 : Int32).toInt = 6 := rfl
            have n6 : ¬ p.toInt = 6 := fun q => s6 (Int32.toInt_inj.mp q)
            have n5 : ¬ 5 < p := fun q => by have := Int32.lt_iff_toInt_lt.mp q; omega
            refine zp2_ifl (fun q => absurd q s6) (fun _ => zp2_ifl (fun q => absurd q c) (fun _ => zp2_ifl (fun q => absurd q n5) (fun _ => ?_)))
            have kp := z_clamp hp.1
            obtain ⟨d, ed⟩ : ∃ d : Nat, p.toNatClampNeg = 1 + d := ⟨p.toNatClampNeg - 1, by omega⟩
            have hd : d < 5 := by omega
            have em : ((36 : Int32) + p).toNatClampNeg = 37 + d := by rw [z_off hp (k := 36) rfl (by decide), ed]; omega
            rw [ed, em]
            refine zp2_ckl (zp2_bvl (fun s1 f1 => zp2_ckr (zp2_bvr (fun t1 g1 => zp2_some ?_))))
            rw [f1, g1]
            exact (zPo.rf h).w1 (z_pn34_1 (d := d) hd) rfl (zGo.r (zg_34 ⟨1 + d, by omega⟩) hx) rfl rfl (zcv_m (a := 33) (b := 65) (by decide) (by omega) (by omega))
  · unfold fX4_write_151 fX12_portTo_267
    exact zp2_buu (t_noise h) (fun s t q => zp2_some q)
  · unfold fX4_write_151 fX12_portTo_267
    exact zp2_ifn e (fun _ _ => zp2_buu (t_ctl h hx) (fun s t q => zp2_some q)) (fun _ _ => zp2_buu (t_wdat h hx) (fun s t q => zp2_some q))
  · rcases two with ⟨_, k6, k2⟩ | ⟨_, k6, k2⟩
    · refine zp2_ifl (fun _ => zp2_ifr (fun q => absurd q k2) (fun _ => ?_)) (fun q => absurd k6 q)
      exact zp2_if (fun _ => zp2_some (zPo.rf h)) (fun _ => zp2_if (fun _ => zp2_some (zPo.rf h)) (fun _ => t_fm h hx))
    · exact zp2_ifl (fun q => absurd q k6) (fun _ => zp2_ifr (fun _ => zp2_some (zPo.rf h)) (fun q => absurd k2 q))
theorem t_out (h : zVe σ μ) {p x : Int32} (hp : zr 0 255 p) (hx : zr 0 255 x) : zp2 (fX4_write σ p x) (fX12_portTo μ p x) (zPo σ μ) := by
  obtain ⟨i, ei⟩ := z_byteF hp
  obtain ⟨d0, d1, d2, d3⟩ := v_p6 i
  rw [← ei] at d3
  unfold fX4_write fX12_portTo
  exact zp2_ckr (zp2_ifn d3 (fun _ _ => t_out11 h hp hx (by decide)) (fun _ _ => t_out11 h hp hx (by decide)))
end ZPW
end ZJN2
section ZJN3
/-! WHAT IS LEFT ALONE -/
noncomputable def zof (R : List Nat) (A : List (Nat × Nat × Nat)) (k a b : Nat) : Bool := !(R.any (Nat.beq k)) && A.all (fun e => !(Nat.beq e.1 k) || (Nat.blt e.2.2 a || Nat.blt b e.2.1))
noncomputable def zrw (R : List Nat) (A : List (Nat × Nat × Nat)) (k : Nat) : Bool := !(R.any (Nat.beq k)) && A.all (fun e => !(Nat.beq e.1 k))
theorem zof_cv {R : List Nat} {A : List (Nat × Nat × Nat)} {k a b j : Nat} (c : zof R A k a b = true) (h1 : a ≤ j) (h2 : j ≤ b) : zcv R A k j = false := by
  unfold zof at c
  rw [Bool.and_eq_true, Bool.not_eq_true', List.all_eq_true] at c
  unfold zcv
  rw [Bool.or_eq_false_iff]
  refine ⟨c.1, ?_⟩
  rw [List.any_eq_false]
  intro e he q
  rw [Bool.and_eq_true, Bool.and_eq_true] at q
  obtain ⟨q1, q2, q3⟩ := q
  have a2 := Nat.le_of_ble_eq_true q2
  have a3 := Nat.le_of_ble_eq_true q3
  have d := c.2 e he
  rw [q1, Bool.not_true, Bool.false_or, Bool.or_eq_true] at d
  rcases d with d | d
  · have := Nat.le_of_ble_eq_true d
    omega
  · have := Nat.le_of_ble_eq_true d
    omega
theorem zrw_cv {R : List Nat} {A : List (Nat × Nat × Nat)} {k j : Nat} (c : zrw R A k = true) : zcv R A k j = false := by
  unfold zrw at c
  rw [Bool.and_eq_true, Bool.not_eq_true', List.all_eq_true] at c
  unfold zcv
  rw [Bool.or_eq_false_iff]
  refine ⟨c.1, ?_⟩
  rw [List.any_eq_false]
  intro e he q
  rw [Bool.and_eq_true] at q
  have d := c.2 e he
  rw [q.1] at d
  cases d
section ZKP
variable {R R' S S' : List Nat} {A A' B B' : List (Nat × Nat × Nat)} {σ μ σ' μ' : zSt}
theorem zQ.o (h : zQ R A S B σ σ') {k a b j : Nat} (c : zof R A k a b = true) (h1 : a ≤ j) (h2 : j ≤ b) : σ'.1 k j = σ.1 k j := h.1 k j (zof_cv c h1 h2)
theorem zQ.ro (h : zQ R A S B σ σ') {k : Nat} (c : zrw R A k = true) : σ'.1 k = σ.1 k := funext fun j => h.1 k j (zrw_cv c)
theorem zQ.lo (h : zQ R A S B σ σ') {k a b j : Nat} (c : zof S B k a b = true) (h1 : a ≤ j) (h2 : j ≤ b) : σ'.2 k j = σ.2 k j := h.2 k j (zof_cv c h1 h2)
theorem zQ.rlo (h : zQ R A S B σ σ') {k : Nat} (c : zrw S B k = true) : σ'.2 k = σ.2 k := funext fun j => h.2 k j (zrw_cv c)
noncomputable def zmC (R : List Nat) (A : List (Nat × Nat × Nat)) : Bool := zrw R A 1 && (zrw R A 13 && (zrw R A 14 && (zrw R A 15 && (zrw R A 17 && zrw R A 19))))
noncomputable def zmM (R : List Nat) (A : List (Nat × Nat × Nat)) : Bool := zrw R A 2 && (zrw R A 5 && (zrw R A 6 && (zof R A 0 5 9 && zof R A 3 29 32)))
theorem zM2.kp (h : zM2 σ μ) (a : zQ R A S B σ σ') (b : zQ R' A' S' B' μ μ') (c : zmC R A = true) (d : zmM R' A' = true) : zM2 σ' μ' := by
  obtain ⟨⟨h1, h2, h3, h4, h5, h6⟩, ⟨r1, r2, r3, r4, r5, r6⟩⟩ := h
  unfold zmC at c
  rw [Bool.and_eq_true, Bool.and_eq_true, Bool.and_eq_true, Bool.and_eq_true, Bool.and_eq_true] at c
  obtain ⟨k1, k13, k14, k15, k17, k19⟩ := c
  unfold zmM at d
  rw [Bool.and_eq_true, Bool.and_eq_true, Bool.and_eq_true, Bool.and_eq_true] at d
  obtain ⟨m2, m5, m6, m0, m3⟩ := d
  have c1 := a.ro k1
  have g2 := b.ro m2
  have g0 : ∀ j, 5 ≤ j → j ≤ 9 → μ'.1 0 j = μ.1 0 j := fun j p q => b.o m0 p q
  have g3 : ∀ j, 29 ≤ j → j ≤ 32 → μ'.1 3 j = μ.1 3 j := fun j p q => b.o m3 p q
  refine ⟨⟨fun j hj => ?_, fun j hj => ?_, fun j hj => ?_, ?_, ?_, ?_⟩, ⟨?_, ?_, ?_, ?_, ?_, fun j j1 j2 => ?_⟩⟩
  · rw [a.ro k15, b.ro m5]; exact h1 j hj
  · rw [a.ro k17, b.ro m6]; exact h2 j hj
  · rw [a.ro k19, g3 (29 + j) (by omega) (by omega)]; exact h3 j hj
  · rw [a.ro k19, g3 32 (by decide) (by decide)]; exact h4
  · refine h5.keep (fun j _ => by rw [c1]) ?_ (fun j hj => g0 j ?_ ?_) g2
    · rcases z_tp13 (σ.1 1 1) with e | e
      · rw [e]; exact a.ro k13
      · rw [e]; exact a.ro k14
    · revert hj
      simp only [List.mem_cons, List.not_mem_nil, or_false]
      omega
    · revert hj
      simp only [List.mem_cons, List.not_mem_nil, or_false]
      omega
  · unfold zFil
    rw [g0 5 (by decide) (by decide), g0 6 (by decide) (by decide), g2]
    exact h6
  · rw [c1]; exact r1
  · rw [c1]; exact r2
  · rw [g0 6 (by decide) (by decide)]; exact r3
  · rw [g0 7 (by decide) (by decide)]; exact r4
  · rw [g0 7 (by decide) (by decide), g0 6 (by decide) (by decide)]; exact r5
  · rw [g3 j j1 j2]; exact r6 j j1 j2
noncomputable def zeC (R : List Nat) (A : List (Nat × Nat × Nat)) : Bool := zTb.all (fun t => zof R A t.1 t.2.1 (t.2.1 + t.2.2.1 - 1)) && (zGt.all (fun t => zof R A t.1 t.2.1 (t.2.1 + t.2.2.1 - 1)) && (zof R A 0 0 0 && (zof R A 2 0 1 && (zof R A 3 1 1 && zof R A 6 0 0))))
noncomputable def zeM (R : List Nat) (A : List (Nat × Nat × Nat)) : Bool := zTb.all (fun t => zof R A t.2.2.2.1 t.2.2.2.2.1 (t.2.2.2.2.1 + t.2.2.1 - 1)) && zof R A 0 3 3
theorem zGf_mem {k j : Nat} {a b : Int} : ∀ {l : List (Nat × Nat × Nat × Int × Int)}, zGf k j l = some (a, b) → ∃ t ∈ l, t.1 = k ∧ t.2.1 ≤ j ∧ j < t.2.1 + t.2.2.1
  | [], h => by cases h
  | t :: l, h => by
    unfold zGf at h
    cases q : (Nat.beq t.1 k && (Nat.ble t.2.1 j && Nat.blt j (t.2.1 + t.2.2.1))) with
    | true =>
      rw [Bool.and_eq_true, Bool.and_eq_true] at q
      exact ⟨t, List.mem_cons_self, Nat.eq_of_beq_eq_true q.1, Nat.le_of_ble_eq_true q.2.1, Nat.le_of_ble_eq_true q.2.2⟩
    | false =>
      rw [q, cond_false] at h
      obtain ⟨x, x1, x2⟩ := zGf_mem h
      exact ⟨x, List.mem_cons_of_mem _ x1, x2⟩
theorem zVe.kp (h : zVe σ μ) (a : zQ R A S B σ σ') (b : zQ R' A' S' B' μ μ') (c : zeC R A = true) (d : zeM R' A' = true) : zVe σ' μ' := by
  unfold zeC at c
  rw [Bool.and_eq_true, Bool.and_eq_true, Bool.and_eq_true, Bool.and_eq_true, Bool.and_eq_true, List.all_eq_true, List.all_eq_true] at c
  obtain ⟨ct, cg, c0, c2, c3, c6⟩ := c
  unfold zeM at d
  rw [Bool.and_eq_true, List.all_eq_true] at d
  obtain ⟨dt, d0⟩ := d
  refine h.of (h.1.keep (fun t ht i hi => a.o (ct t ht) (by omega) (by omega)) (fun t ht i hi => b.o (dt t ht) (by omega) (by omega))) (fun k j x y e => ?_) ⟨a.o c0 (by decide) (by decide), a.o c2 (by decide) (by decide), a.o c3 (by decide) (by decide), a.o c6 (by decide) (by decide), a.o c2 (by decide) (by decide)⟩ (b.o d0 (by decide) (by decide)) ?_
  · obtain ⟨t, ht, e1, e2, e3⟩ := zGf_mem e
    have z := cg t ht
    rw [e1] at z
    rw [a.o z e2 (by omega)]
    exact h.2.1 k j x y e
  · exact a.o (ct (23, 18, 4, 3, 64, (-1)) (by decide +kernel)) (by decide) (by decide)
/-! THE WHOLE RELATION -/
/-- plans: a ring on the class's side, a row on the reference's -/
noncomputable def zPlr (σ μ : zSt) : Prop := σ.1 42 769 = μ.1 3 171 ∧ zr 0 256 (μ.1 3 171) ∧ zr 0 255 (σ.1 42 768) ∧ (∀ k r : Nat, (k : Int) < (μ.1 3 171).toInt → r < 3 → σ.1 42 (3 * (((σ.1 42 768).toNatClampNeg + k) % 256) + r) = μ.1 3 (280 + 3 * k + r)) ∧ (∀ k : Nat, (k : Int) < (μ.1 3 171).toInt → zr 0 1 (μ.1 3 (280 + 3 * k + 1)) ∧ zr 0 63 (μ.1 3 (280 + 3 * k + 2)) ∧ 0 ≤ (μ.1 3 (280 + 3 * k + 0)).toInt)
/-- the last steps -/
noncomputable def zSpt (B : Int) (σ μ : zSt) : Prop := 0 ≤ (μ.2 0 30).toInt ∧ (μ.2 0 30).toInt ≤ B ∧ zr 0 31 (σ.1 9 5) ∧ (σ.1 9 5).toInt = (μ.2 0 30).toInt % 32 ∧ (∀ j : Nat, j < 32 → ((j : Int) < (μ.2 0 30).toInt → σ.1 44 j = μ.1 21 j) ∧ ((μ.2 0 30).toInt ≤ (j : Int) → σ.1 44 j = -1))
noncomputable def zCt (P : Int) (σ μ : zSt) : Prop := σ.2 38 0 = μ.2 4 0 ∧ σ.2 38 1 = μ.2 4 1 ∧ σ.2 38 2 = μ.2 4 2 ∧ 0 ≤ (μ.2 4 2).toInt ∧ (μ.2 4 2).toInt ≤ P
/-- how far the beam has come, at least -/
noncomputable def zMt (μ : zSt) : Int := ((μ.2 4 2).toInt * (if μ.1 0 3 = 1 then 313 else 262) + (μ.1 3 66).toInt) * 228 + (μ.1 3 67).toInt
noncomputable def zMs (C : Int) (μ : zSt) : Prop := C ≤ zMt μ
noncomputable def zJj (B : Int × Int × Int) (σ μ : zSt) : Prop := zPlr σ μ ∧ zSpt B.1 σ μ ∧ zCt B.2.1 σ μ ∧ zMs B.2.2 μ
noncomputable def zIa (B : Int × Int × Int) (σ μ : zSt) : Prop := zVe σ μ ∧ zJj B σ μ
noncomputable def zjC (R : List Nat) (A : List (Nat × Nat × Nat)) (S : List Nat) (B : List (Nat × Nat × Nat)) : Bool := zrw R A 42 && (zrw R A 44 && (zof R A 9 5 5 && zof S B 38 0 2))
noncomputable def zjM (R : List Nat) (A : List (Nat × Nat × Nat)) (S : List Nat) (B : List (Nat × Nat × Nat)) : Bool := zof R A 3 171 171 && (zof R A 3 280 1047 && (zrw R A 21 && (zof S B 0 30 30 && (zof S B 4 0 2 && (zof R A 3 66 67 && zof R A 0 3 3)))))
noncomputable def zjlC (R : List Nat) (A : List (Nat × Nat × Nat)) : Bool := zrw R A 42
noncomputable def zjlM (R : List Nat) (A : List (Nat × Nat × Nat)) : Bool := zof R A 3 171 171 && zof R A 3 280 1047
theorem zPlr.kp (h : zPlr σ μ) (a : zQ R A S B σ σ') (b : zQ R' A' S' B' μ μ') (c : zjlC R A = true) (d : zjlM R' A' = true) : zPlr σ' μ' := by
  unfold zjlC at c
  unfold zjlM at d
  rw [Bool.and_eq_true] at d
  obtain ⟨d171, d280⟩ := d
  have e42 := a.ro c
  have f171 : μ'.1 3 171 = μ.1 3 171 := b.o d171 (by decide) (by decide)
  have f280 : ∀ k r : Nat, (k : Int) < (μ.1 3 171).toInt → (μ.1 3 171).toInt ≤ 256 → r < 3 → μ'.1 3 (280 + 3 * k + r) = μ.1 3 (280 + 3 * k + r) := fun k r p q z => b.o d280 (by omega) (by omega)
  obtain ⟨p1, p2, p3, p4, p5⟩ := h
  refine ⟨?_, ?_, ?_, fun k r hk hr => ?_, fun k hk => ?_⟩
  · rw [e42, f171]; exact p1
  · rw [f171]; exact p2
  · rw [e42]; exact p3
  · rw [f171] at hk
    rw [e42, f280 k r hk p2.2 hr]
    exact p4 k r hk hr
  · rw [f171] at hk
    rw [f280 k 1 hk p2.2 (by decide), f280 k 2 hk p2.2 (by decide), f280 k 0 hk p2.2 (by decide)]
    exact p5 k hk
theorem zSpt.kp {K : Int} (h : zSpt K σ μ) (a : zQ R A S B σ σ') (b : zQ R' A' S' B' μ μ') (c44 : zrw R A 44 = true) (c9 : zof R A 9 5 5 = true) (d21 : zrw R' A' 21 = true) (d0 : zof S' B' 0 30 30 = true) : zSpt K σ' μ' := by
  have e44 := a.ro c44
  have e9 : σ'.1 9 5 = σ.1 9 5 := a.o c9 (by decide) (by decide)
  have f21 := b.ro d21
  have f30 : μ'.2 0 30 = μ.2 0 30 := b.lo d0 (by decide) (by decide)
  obtain ⟨s1, s2, s3, s4, s5⟩ := h
  refine ⟨?_, ?_, ?_, ?_, fun j hj => ?_⟩
  · rw [f30]; exact s1
  · rw [f30]; exact s2
  · rw [e9]; exact s3
  · rw [e9, f30]; exact s4
  · rw [f30, e44, f21]; exact s5 j hj
theorem zMs.kp {C : Int} (h : zMs C μ) (b : zQ R' A' S' B' μ μ') (d4 : zof S' B' 4 0 2 = true) (d66 : zof R' A' 3 66 67 = true) (d3 : zof R' A' 0 3 3 = true) : zMs C μ' := by
  unfold zMs zMt
  rw [b.lo d4 (j := 2) (by decide) (by decide), b.o d66 (j := 66) (by decide) (by decide), b.o d66 (j := 67) (by decide) (by decide), b.o d3 (j := 3) (by decide) (by decide)]
  exact h
theorem zJj.kp {K : Int × Int × Int} (h : zJj K σ μ) (a : zQ R A S B σ σ') (b : zQ R' A' S' B' μ μ') (c : zjC R A S B = true) (d : zjM R' A' S' B' = true) : zJj K σ' μ' := by
  unfold zjC at c
  rw [Bool.and_eq_true, Bool.and_eq_true, Bool.and_eq_true] at c
  obtain ⟨c42, c44, c9, c38⟩ := c
  unfold zjM at d
  rw [Bool.and_eq_true, Bool.and_eq_true, Bool.and_eq_true, Bool.and_eq_true, Bool.and_eq_true, Bool.and_eq_true] at d
  obtain ⟨d171, d280, d21, d0, d4, d66, d3⟩ := d
  obtain ⟨p, s, ⟨t1, t2, t3, t4, t5⟩, ms⟩ := h
  refine ⟨p.kp a b c42 (by unfold zjlM; rw [d171, d280]; rfl), s.kp a b c44 c9 d21 d0, ⟨?_, ?_, ?_, ?_, ?_⟩, ms.kp b d4 d66 d3⟩
  · rw [a.lo c38 (j := 0) (by decide) (by decide), b.lo d4 (j := 0) (by decide) (by decide)]; exact t1
  · rw [a.lo c38 (j := 1) (by decide) (by decide), b.lo d4 (j := 1) (by decide) (by decide)]; exact t2
  · rw [a.lo c38 (j := 2) (by decide) (by decide), b.lo d4 (j := 2) (by decide) (by decide)]; exact t3
  · rw [b.lo d4 (j := 2) (by decide) (by decide)]; exact t4
  · rw [b.lo d4 (j := 2) (by decide) (by decide)]; exact t5
theorem zIoK_a {K : Int × Int × Int} : zIoK (zIa K) := fun σ μ σ' μ' h a b => ⟨h.1.kp a b (by decide +kernel) (by decide +kernel), h.2.kp a b rfl rfl⟩
theorem zTT.kp {I J : zSt → zSt → Prop} (h : zTT I σ μ) (hI : J σ' μ') (a : zQ R A S B σ σ') (b : zQ R' A' S' B' μ μ') (c : (zmC R A && (zrw R A 36 && zof R A 7 4 5)) = true) (d : (zmM R' A' && (zof R' A' 3 0 28 && zof R' A' 0 31 32)) = true) : zTT J σ' μ' ∧ zPkk σ σ' μ μ' := by
  rw [Bool.and_eq_true, Bool.and_eq_true] at c d
  obtain ⟨c1, c2, c3⟩ := c
  obtain ⟨d1, d2, d3⟩ := d
  have e36 := a.ro c2
  have e3 : ∀ j, j ≤ 28 → μ'.1 3 j = μ.1 3 j := fun j hj => b.o d2 (by omega) hj
  have e74 : σ'.1 7 4 = σ.1 7 4 := a.o c3 (by decide) (by decide)
  have e31 : μ'.1 0 31 = μ.1 0 31 := b.o d3 (by decide) (by decide)
  obtain ⟨h1, ⟨q1, q2, q3, q4⟩, h3, h4⟩ := h
  refine ⟨⟨h1.kp a b c1 d1, ⟨fun j hj n1 n2 => ?_, ?_, ?_, fun j hj => ?_⟩, ?_, hI⟩, ⟨fun j => by rw [e36], e3, a.o c3 (by decide) (by decide), b.o d3 (by decide) (by decide)⟩⟩
  · rw [e36, e3 j (by omega)]; exact q1 j hj n1 n2
  · rw [e36, e3 28 (by decide)]; exact q2
  · rw [e36, e3 27 (by decide)]; exact q3
  · rw [e36]; exact q4 j hj
  · unfold zJp
    rw [e74, e31]
    exact h3
theorem zPorts_a {K : Int × Int × Int} : zPorts (zIa K) := by
  refine ⟨fun σ μ p v h hp hv => ?_, fun σ μ p h hp => ?_⟩
  · refine zp2_mono (t_out h.2.2.2.1 hp hv) (fun s t q => ?_)
    obtain ⟨q1, q2, q3, q4⟩ := q
    exact h.kp (J := zIa K) ⟨q1, h.2.2.2.2.kp q2 q3 rfl rfl⟩ q2 q3 rfl rfl
  · refine zp2_mono (t_in h.2.2.2.1 hp) (fun s t q => ?_)
    obtain ⟨⟨q1, q2, q3, q4⟩, q5, q6⟩ := q
    obtain ⟨k1, k2⟩ := h.kp (J := zIa K) ⟨q1, h.2.2.2.2.kp q2 q3 rfl rfl⟩ q2 q3 rfl rfl
    exact ⟨k1, q5, q6, k2⟩
/-- both chips ask the same -/
theorem t_asks (h : zVe σ μ) : ∃ a, zpc (fX9_asks σ ) (fun r => r = (σ, a)) ∧ zAsk a μ := by
  refine ⟨_, p_asksC, fun t ht => ?_⟩
  have q := p_asksM (μ := t) (by rw [ht 47 (by decide), h.e0]; exact h.r0) (by rw [ht 48 (by decide), h.e1]; exact h.r1) (by rw [ht 62 (by decide), h.e15]; exact h.2.1.at (k := 23) (j := 15) rfl)
  rw [ht 47 (by decide), ht 48 (by decide), ht 62 (by decide), ht 63 (by decide), h.e0, h.e1, h.e15, h.e16] at q
  exact q
end ZKP
end ZJN3
