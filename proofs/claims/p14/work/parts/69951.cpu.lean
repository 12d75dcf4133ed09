/-! THE CONTROL PORT -/
section ZVC
variable {σ μ s t : zSt}
theorem z_nbeq {a b : Nat} (h : ¬ a = b) : Nat.beq a b = false := by
  cases q : Nat.beq a b with
  | true => exact absurd (Nat.eq_of_beq_eq_true q) h
  | false => rfl
theorem v_x16 : ∀ i : Fin 256, zrem (Int32.ofNat i.val) 16 = Int32.ofNat i.val &&& 15 := by decide +kernel
theorem zPo.vj (h : zPo σ μ s t) {d : Nat} {v w : Int32} (hd : d ≤ 10) (r : zr 0 255 v) (e : w = v) : zPo σ μ (zsi s 23 d v) (zsi t 3 (47 + d) w) := by
  have p := z_pn23_0 (d := d) (by omega)
  rw [Nat.zero_add] at p
  refine h.w1 p ?_ (zGo.r (zg_23r ⟨d, by omega⟩) r) e rfl (zcv_m (a := 33) (b := 65) (by decide) (by omega) (by omega))
  show (true && !(true && Nat.beq d 20)) = true
  rw [show Nat.beq d 20 = false from z_nbeq (by omega)]
  rfl
theorem t_ctl (h : zVe σ μ) {x : Int32} (hx : zr 0 255 x) : zp2 (fX9_writeControl σ x) (fX12_control μ x) (zPo σ μ) := by
  have e14 : zgi μ 3 (61 : Int32).toNatClampNeg = zgi σ 23 (14 : Int32).toNatClampNeg := h.e14
  have e11 : ∀ s t : zSt, zVe s t → zgi t 3 (58 : Int32).toNatClampNeg = zgi s 23 (11 : Int32).toNatClampNeg := fun s t q => q.e11
  have e12 : ∀ s t : zSt, zVe s t → zgi t 3 (59 : Int32).toNatClampNeg = zgi s 23 (12 : Int32).toNatClampNeg := fun s t q => q.e12
  unfold fX9_writeControl fX12_control
  refine zp2_ckl (zp2_ckr ?_)
  rw [e14]
  refine zp2_if (fun _ => ?_) (fun _ => ?_)
  · refine zp2_ckl (zp2_ckl (zp2_bvl (fun s1 f1 => zp2_ckl (zp2_bvl (fun s2 f2 => zp2_ckr (zp2_ckr (zp2_bvr (fun t1 g1 => zp2_ckr (zp2_bvr (fun t2 g2 => zp2_some ?_))))))))))
    rw [e11 _ _ h] at g1
    rw [f2, g2, f1, g1]
    exact ((zPo.rf h).v11 (zr_or (lo := 0) (hi := 16383) 14 (zr_andr (lo := 0) (hi := 16128) (zr_c (lo := 16128) (hi := 16128) (by decide)) (by decide)) hx (by decide)) rfl).v14 (zr_c (by decide)) rfl
  · refine zp2_ckl (zp2_bvl (fun s1 f1 => zp2_ckl (zp2_ckl (zp2_bvl (fun s2 f2 => zp2_ckl (zp2_bvl (fun s3 f3 => zp2_ckl ?_)))))))
    refine zp2_ckr (zp2_bvr (fun t1 g1 => zp2_ckr (zp2_ckr (zp2_bvr (fun t2 g2 => zp2_ckr (zp2_bvr (fun t3 g3 => zp2_ckr ?_)))))))
    have h1 : zPo σ μ s1 t1 := by
      rw [f1, g1]
      exact (zPo.rf h).v14 (zr_c (by decide)) rfl
    rw [e11 _ _ h1.1] at g2
    have h2 : zPo σ μ s2 t2 := by
      rw [f2, g2]
      exact h1.v11 (zr_or (lo := 0) (hi := 16383) 14 (zr_shl (lo := 0) (hi := 16128) 8 (by decide) (zr_andr (lo := 0) (hi := 63) (zr_c (lo := 63) (hi := 63) (by decide)) (by decide)) (by decide)) (zr_andr (lo := 0) (hi := 255) (zr_c (lo := 255) (hi := 255) (by decide)) (by decide)) (by decide)) rfl
    have h3 : zPo σ μ s3 t3 := by
      rw [f3, g3]
      exact h2.v12 (z_dec hx).1 rfl
    unfold fX9_writeControl_141 fX12_control_162
    rw [e12 _ _ h3.1]
    refine zp2_if (fun _ => ?_) (fun _ => zp2_ckl (zp2_ckr (zp2_if (fun _ => zp2_ckr ?_) (fun _ => zp2_some h3))))
    · exact t_ahead h3.1 (fun s t q => zp2_some (h3.tr q))
    · have ex : zrem x 16 = x &&& 15 := by
        obtain ⟨i, e⟩ := z_byteF hx
        subst e
        exact v_x16 i
      rw [ex]
      have r15 : zr 0 15 (x &&& 15) := zr_andr (lo := 0) (hi := 15) (zr_c (lo := 15) (hi := 15) (by decide)) (by decide)
      by_cases q : 10 < x &&& 15
      · have q2 : 11 ≤ x &&& 15 := Int32.le_iff_toInt_le.mpr (by have := Int32.lt_iff_toInt_lt.mp q; have c : (10 : Int32).toInt = 10 := rfl; have d : (11 : Int32).toInt = 11 := rfl; omega)
        exact zp2_ifl (fun _ => zp2_ifr (fun _ => zp2_some h3) (fun r => absurd q2 r)) (fun r => absurd q r)
      · have q1 := Int32.le_iff_toInt_le.mp (z_nlt q)
        have c10 : (10 : Int32).toInt = 10 := rfl
        have c11 : (11 : Int32).toInt = 11 := rfl
        have q2 : ¬ 11 ≤ x &&& 15 := fun r => by have := Int32.le_iff_toInt_le.mp r; omega
        refine zp2_ifl (fun r => absurd r q) (fun _ => zp2_ifr (fun r => absurd r q2) (fun _ => ?_))
        refine zp2_ckl (zp2_ckl (zp2_bvl (fun s4 f4 => zp2_ckr (zp2_ckr (zp2_ckr (zp2_bvr (fun t4 g4 => zp2_some ?_)))))))
        have kj := z_clamp r15.1
        have hj : (x &&& 15).toNatClampNeg ≤ 10 := by omega
        rw [e11 _ _ h3.1, z_off r15 (k := 47) rfl (by decide)] at g4
        rw [f4, g4]
        exact h3.vj hj (z_r8 _) rfl
end ZVC
