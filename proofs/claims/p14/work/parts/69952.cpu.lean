/-! THE DATA PORT, WRITING -/
section ZVW
variable {σ μ s t : zSt}
theorem z_nby {x : Int32} (h : zr 0 255 x) : (vp_nar .byte (x.toInt8.toInt32)) &&& 255 = x := by
  rw [z_nar, z_i8]
  exact z_m255 h
theorem z_remm (k : Nat) {v c m : Int32} {b : Int} (h : zr 0 b v) (hc : c.toInt = ((2 ^ k : Nat) : Int)) (hm : m.toBitVec.toNat = 2 ^ k - 1) (hk : k < 31) (h0 : (0 : Int) < ((2 ^ k : Nat) : Int)) : zrem v c = v &&& m := Int32.toInt_inj.mp (by
  rw [z_trem _ hc h ⟨by decide, h0⟩, z_mask h.1 hm hk])
theorem zPo.vr (h : zPo σ μ s t) {j : Nat} {x w : Int32} (hj : j < 16384) (e : w &&& 255 = x) : zPo σ μ (zsi s 21 j x) (zsi t 7 j w) := by
  have p := z_pn21_0 (d := j) hj
  rw [Nat.zero_add] at p
  exact h.w p rfl (zGo.n rfl) e rfl rfl
theorem zPo.vc (h : zPo σ μ s t) {j : Nat} {x w : Int32} (hj : j < 64) (e : w &&& 255 = x) : zPo σ μ (zsi s 23 (32 + j) x) (zsi t 8 j w) := by
  have p := z_pn23_32 (d := j) hj
  rw [Nat.zero_add] at p
  refine h.w p ?_ (zGo.n (zg_23c ⟨j, hj⟩)) e rfl rfl
  show (true && !(true && Nat.beq (32 + j) 20)) = true
  rw [show Nat.beq (32 + j) 20 = false from z_nbeq (by omega)]
  rfl
theorem zPo.v26 (h : zPo σ μ s t) {v w : Int32} (r : zr 0 255 v) (e : w = v) : zPo σ μ (zsi s 23 26 v) (zsi t 3 68 w) := h.w1 (z_pn23_26 (d := 0) (by decide)) rfl (zGo.r rfl r) e rfl rfl
theorem zVe.e26 (h : zVe σ μ) : μ.1 3 68 = σ.1 23 26 := h.1.e (z_pn23_26 (d := 0) (by decide))
theorem zRk.two (h : zRk σ μ) : (σ.1 2 0 = 0 ∧ σ.1 6 0 = 0 ∧ ¬ μ.1 0 3 = 2) ∨ (¬ σ.1 2 0 = 0 ∧ ¬ σ.1 6 0 = 0 ∧ μ.1 0 3 = 2) := by
  obtain ⟨k0, k1, k2, k3, k4, k5⟩ := h
  by_cases q : μ.1 0 3 = 2
  · rw [if_pos q] at k2 k4
    right
    rw [k2, k4]
    exact ⟨by decide, by decide, q⟩
  · rw [if_neg q] at k2 k4
    left
    exact ⟨k2, k4, q⟩
/-- colours of two bytes: where they lie -/
theorem z_od {v : Int32} (h : zr 0 16383 v) (od : ¬ v &&& 1 = 0) : ∃ j : Nat, j < 63 ∧ (32 + (v &&& 62)).toNatClampNeg = 32 + j ∧ (32 + (v &&& 63)).toNatClampNeg = 32 + (j + 1) ∧ (zrem v 64).toNatClampNeg = j + 1 ∧ (zrem v 64 - 1).toNatClampNeg = j := by
  have er : zrem v 64 = v &&& 63 := z_remm 6 h rfl rfl (by decide) (by decide)
  have r63 : zr 0 63 (v &&& 63) := zr_andr (lo := 0) (hi := 63) (zr_c (lo := 63) (hi := 63) (by decide)) (by decide)
  have key : ∀ i : Fin 64, ¬ Int32.ofNat i.val &&& 1 = 0 → (Int32.ofNat i.val &&& 62).toNatClampNeg + 1 = i.val ∧ (32 + (Int32.ofNat i.val &&& 62)).toNatClampNeg = 32 + (i.val - 1) ∧ (32 + Int32.ofNat i.val).toNatClampNeg = 32 + i.val ∧ (Int32.ofNat i.val).toNatClampNeg = i.val ∧ (Int32.ofNat i.val - 1).toNatClampNeg = i.val - 1 ∧ 1 ≤ i.val := by decide +kernel
  obtain ⟨i, hi⟩ : ∃ i : Nat, (v &&& 63).toInt = i := ⟨(v &&& 63).toInt.toNat, by have := r63.1; omega⟩
  have hi64 : i < 64 := by have := r63.2; omega
  have ei : v &&& 63 = Int32.ofNat i := z_ofN hi
  have a1 : (v &&& 63) &&& 1 = v &&& 1 := by rw [Int32.and_assoc]; rfl
  have a62 : (v &&& 63) &&& 62 = v &&& 62 := by rw [Int32.and_assoc]; rfl
  have k := key ⟨i, hi64⟩
  rw [← ei, a1, a62] at k
  obtain ⟨k1, k2, k3, k4, k5, k6⟩ := k od
  have k6 : 1 ≤ i := k6
  refine ⟨i - 1, ?_, k2, ?_, ?_, ?_⟩
  · show i - 1 < 63; omega
  · rw [k3]; show 32 + i = _; omega
  · rw [er, k4]; show i = _; omega
  · rw [er]; exact k5
theorem t_wdat (h : zVe σ μ) {x : Int32} (hx : zr 0 255 x) : zp2 (fX9_writeData σ x) (fX12_dataTo μ x) (zPo σ μ) := by
  have hk := h.2.2.1.two
  have g11 : zr 0 16383 (σ.1 23 11) := h.2.1.at (k := 23) (j := 11) rfl
  have e11 : μ.1 3 58 = σ.1 23 11 := h.e11
  have e12 : μ.1 3 59 = σ.1 23 12 := h.e12
  unfold fX9_writeData fX12_dataTo
  refine zp2_ckl (zp2_bvl (fun v1 ev1 => zp2_ckl (zp2_bvl (fun s2 f2 => zp2_ckl (zp2_bvl (fun s3 f3 => zp2_ckl (zp2_bvl (fun s4 f4 => zp2_ckl ?_))))))))
  have ev1 : v1 = σ.1 23 11 := ev1.trans (z_m14 g11)
  subst ev1
  refine zp2_ckr (zp2_bvr (fun t2 k2 => zp2_ckr (zp2_bvr (fun t3 k3 => zp2_ckr (zp2_bvr (fun v4 ev4 => zp2_ckr ?_))))))
  have k2 : t2 = zsi μ 3 61 0 := k2
  have k3 : t3 = zsi t2 3 60 x := k3
  have f2 : s2 = zsi σ 23 14 0 := f2
  have f3 : s3 = zsi s2 23 13 x := f3
  have f4 : s4 = zsi s3 23 11 ((σ.1 23 11 + 1) &&& 16383) := f4
  have ev4 : v4 = σ.1 23 11 := by rw [ev4, k3, k2]; exact e11
  subst ev4
  have h3 : zPo σ μ s3 t3 := by
    rw [f3, k3, f2, k2]
    exact ((zPo.rf h).v14 (zr_c (by decide)) rfl).v13 hx rfl
  have a12 : zgi t3 3 (59 : Int32).toNatClampNeg = zgi s4 23 (12 : Int32).toNatClampNeg := by rw [f4, f3, f2, k3, k2]; exact e12
  have a03 : zgi t3 0 3 = μ.1 0 3 := by rw [k3, k2]; rfl
  have a20 : zgi s4 2 0 = σ.1 2 0 := by rw [f4, f3, f2]; rfl
  have a26 : zgi t3 3 (68 : Int32).toNatClampNeg = σ.1 23 26 := by rw [k3, k2]; exact h.e26
  have b26 : zgi s4 23 (26 : Int32).toNatClampNeg = σ.1 23 26 := by rw [f4, f3, f2]; rfl
  have r26 : zr 0 255 (σ.1 23 26) := h.2.1.at (k := 23) (j := 26) rfl
  rw [a12]
  have fin : ∀ s t : zSt, zPo σ μ s t → t.1 3 58 = σ.1 23 11 → ∀ s' : zSt, s' = zsi s 23 11 ((σ.1 23 11 + 1) &&& 16383) → zp2 (some s') (fX12_dataTo_115 t) (zPo σ μ) := fun s t q1 q2 s' es => by
    unfold fX12_dataTo_115 fX12_further
    refine zp2_bur (P := fun r => r = zsi t 3 58 ((σ.1 23 11 + 1) &&& 16383)) (zpc_ck (zpc_ck (zpc_bv (fun t5 e5 => zpc_some ?_)))) (fun t5 e5 => zp2_some ?_)
    · rw [e5, show zgi t 3 (58 : Int32).toNatClampNeg = σ.1 23 11 from q2]
      rfl
    · rw [es, e5]
      exact q1.v11 (z_r14 _) rfl
  have t58 : t3.1 3 58 = σ.1 23 11 := by rw [k3, k2]; exact e11
  have ka := z_clamp g11.1
  have g2 := g11.2
  have ja : (σ.1 23 11).toNatClampNeg < 16384 := by omega
  unfold fX9_writeData_69
  refine zp2_if (fun _ => ?_) (fun _ => ?_)
  · unfold fX9_writeColour fX9_writeColour_72
    rw [a03]
    rcases hk with ⟨c0, _, m2⟩ | ⟨c0, _, m2⟩
    · -- thirty-two colours
      refine zp2_ifr (fun q => absurd q m2) (fun _ => ?_)
      rw [a20]
      refine zp2_bulp (P := zPo σ μ) ?_ (fun s b q => zp2_some q)
      refine zp2_ifl (fun _ => ?_) (fun q => absurd c0 q)
      have er : zrem (σ.1 23 11) 32 = σ.1 23 11 &&& 31 := z_remm 5 g11 rfl rfl (by decide) (by decide)
      rw [er]
      have r31 : zr 0 31 (σ.1 23 11 &&& 31) := z_r31 _
      have k31 := z_clamp r31.1
      have b31 := r31.2
      have eo : (32 + (σ.1 23 11 &&& 31)).toNatClampNeg = 32 + (σ.1 23 11 &&& 31).toNatClampNeg := z_off r31 (k := 32) rfl (by decide)
      refine zp2_ckl (zp2_bvl (fun s5 f5 => zp2_ckr (zp2_ckr (zp2_bvr (fun t5 k5 => ?_)))))
      refine fin (zsi s3 23 (32 + (σ.1 23 11 &&& 31).toNatClampNeg) x) t5 ?_ ?_ s5 ?_
      · rw [k5]; exact h3.vc (by omega) (z_nby hx)
      · rw [k5]; exact t58
      · rw [f5, f4, eo]
        exact zsi_comm (by omega)
    · refine zp2_ifr (fun _ => ?_) (fun q => absurd m2 q)
      rw [a20]
      refine zp2_bulp (P := zPo σ μ) ?_ (fun s b q => zp2_some q)
      refine zp2_ifl (fun q => absurd q c0) (fun _ => zp2_ckr ?_)
      have er2 : zrem (σ.1 23 11) 2 = σ.1 23 11 &&& 1 := z_remm 1 g11 rfl rfl (by decide) (by decide)
      rw [er2]
      refine zp2_if (fun _ => ?_) (fun od => ?_)
      · refine zp2_ckl (zp2_bvl (fun s5 f5 => zp2_ckr (zp2_bvr (fun t5 k5 => ?_))))
        refine fin (zsi s3 23 26 x) t5 ?_ ?_ s5 ?_
        · rw [k5]; exact h3.v26 hx rfl
        · rw [k5]; exact t58
        · rw [f5, f4]
          exact zsi_comm (by decide)
      · obtain ⟨j, hj, o1, o2, o3, o4⟩ := z_od g11 od
        rw [a26, b26, o1, o2, o3, o4]
        refine zp2_ckl (zp2_ckl (zp2_bvl (fun s5 f5 => zp2_ckl (zp2_bvl (fun s6 f6 => zp2_ckr (zp2_ckr (zp2_ckr (zp2_bvr (fun t5 k5 => zp2_ckr (zp2_ckr (zp2_bvr (fun t6 k6 => ?_)))))))))))) 
        refine fin (zsi (zsi s3 23 (32 + j) (σ.1 23 26)) 23 (32 + (j + 1)) x) t6 ?_ ?_ s6 ?_
        · rw [k6, k5]; exact (h3.vc (by omega) (z_nby r26)).vc (by omega) (z_nby hx)
        · rw [k6, k5]; exact t58
        · rw [f6, f5, f4, zsi_comm (k := 23) (i := 11) (j := 32 + j) (by omega)]
          exact zsi_comm (by omega)
  · refine zp2_ckl (zp2_bvl (fun s5 f5 => zp2_ckr (zp2_bvr (fun t5 k5 => ?_))))
    refine fin (zsi s3 21 (σ.1 23 11).toNatClampNeg x) t5 ?_ ?_ s5 ?_
    · rw [k5]; exact h3.vr ja (z_nby hx)
    · rw [k5]; exact t58
    · rw [f5, f4]
      exact zsi_cr (by decide)
end ZVW
