/-! MEMORIES CHANGED ALIKE; THE TAPE'S CALLS; PICTURE -/
section ZMY
variable {σ μ s t : zSt} {B : Int × Int × Int}
theorem zNow.mem (h : zNow B σ μ) (hM : zM2 s t) (a : zQ [1, 13, 14, 15, 17, 19] [(0, 11, 11)] [] [] σ s) (b : zQ [1, 2, 5, 6] [(0, 0, 2), (0, 5, 9), (0, 19, 19), (3, 29, 32)] [] [] μ t) : zNow B s t := by
  obtain ⟨⟨_, hC, hJ, hI⟩, hF, hW⟩ := h
  have e36 : s.1 36 = σ.1 36 := a.ro (k := 36) rfl
  have e3 : ∀ j, j ≤ 28 → t.1 3 j = μ.1 3 j := fun j hj => b.o (k := 3) (a := 0) (b := 28) rfl (Nat.zero_le _) hj
  refine ⟨⟨hM, ⟨fun j hj n1 n2 => ?_, ?_, ?_, fun j hj => ?_⟩, ?_, ⟨hI.1.kp a b (by decide +kernel) (by decide +kernel), hI.2.kp a b rfl rfl⟩⟩, ?_, ?_⟩
  · rw [e36, e3 j (by omega)]; exact hC.1 j hj n1 n2
  · rw [e36, e3 28 (by decide)]; exact hC.2.1
  · rw [e36, e3 27 (by decide)]; exact hC.2.2.1
  · rw [e36]; exact hC.2.2.2 j hj
  · unfold zJp
    rw [a.ro (k := 7) rfl, b.o (k := 0) (a := 31) (b := 31) rfl (j := 31) (by decide) (by decide)]
    exact hJ
  · unfold zF
    rw [e36, e3 1 (by decide)]
    exact hF
  · unfold zWzz
    rw [e36, e3 20 (by decide)]
    exact hW
theorem zNow.tape (h : zNow B σ μ) (c : zCart s t) (a : zQ [13, 14] [(1, 2, 2)] [] [] σ s) (b : zQ [1] [(0, 0, 0), (0, 2, 2)] [] [] μ t) : zNow B s t := by
  refine h.mem ?_ (a.mono rfl rfl) (b.mono rfl rfl)
  obtain ⟨⟨m1, m2, m3, m4, m5, m6⟩, r1, r2, r3, r4, r5, r6⟩ := h.1.1
  have g3 : t.1 3 = μ.1 3 := b.ro (k := 3) rfl
  have g0 : ∀ j, 5 ≤ j → j ≤ 9 → t.1 0 j = μ.1 0 j := fun j h1 h2 => b.o (k := 0) (a := 5) (b := 9) rfl h1 h2
  have c1 : ∀ j, 3 ≤ j → j ≤ 4 → s.1 1 j = σ.1 1 j := fun j h1 h2 => a.o (k := 1) (a := 3) (b := 4) rfl h1 h2
  refine ⟨⟨fun j hj => ?_, fun j hj => ?_, fun j hj => ?_, ?_, c, ?_⟩, ?_, ?_, ?_, ?_, ?_, fun j j1 j2 => ?_⟩
  · rw [a.ro (k := 15) rfl, b.ro (k := 5) rfl]; exact m1 j hj
  · rw [a.ro (k := 17) rfl, b.ro (k := 6) rfl]; exact m2 j hj
  · rw [a.ro (k := 19) rfl, g3]; exact m3 j hj
  · rw [a.ro (k := 19) rfl, g3]; exact m4
  · unfold zFil
    rw [g0 5 (by decide) (by decide), g0 6 (by decide) (by decide), b.ro (k := 2) rfl]
    exact m6
  · rw [c1 3 (by decide) (by decide)]; exact r1
  · rw [c1 4 (by decide) (by decide)]; exact r2
  · rw [g0 6 (by decide) (by decide)]; exact r3
  · rw [g0 7 (by decide) (by decide)]; exact r4
  · rw [g0 7 (by decide) (by decide), g0 6 (by decide) (by decide)]; exact r5
  · rw [g3]; exact r6 j j1 j2
theorem b_feed (h : zNow B σ μ) (r6 : zR6 σ μ) (hr : zr 0 262656 (zgi μ 0 2)) {x1 : Int32} {x2 x4 x6 : Int64} : zp2 (fX11_feed σ x1 x2 x4 x6) (fX12_feed μ x1 x2 x4 x6) (fun r r' => zNow B (zRis r) r'.1 ∧ zR6 (zRis r) r'.1) := fun a b ea eb => by
  have c := z2_feed r6 hr a b ea eb
  exact ⟨h.tape c.2.2.2 (fy_fX11_feed zQ.rf a ea) (fY_fX12_feed zQ.rf b eb), c⟩
theorem b_grow (h : zNow B σ μ) (r6 : zR6 σ μ) (hr : zr 0 262656 (zgi μ 0 2)) {x1 : Int32} : zp2 (fX11_grow σ x1) (fX12_grow μ x1) (fun r r' => zNow B (zRis r) r'.1 ∧ zR6 (zRis r) r'.1) := fun a b ea eb => by
  have c := z2_grow r6 hr a b ea eb
  exact ⟨h.tape c.2.2.2 (fy_fX11_grow zQ.rf a ea) (fY_fX12_grow zQ.rf b eb), c⟩
theorem b_patch (h : zNow B σ μ) (r6 : zR6 σ μ) (hr : zr 0 262656 (zgi μ 0 2)) {x1 : Int32} {x2 : Int64} : zp2 (fX11_patch σ x1 x2) (fX12_patch μ x1 x2) (fun r r' => zNow B (zRus r) r' ∧ zR6 (zRus r) r') := fun a b ea eb => by
  have c := z2_patch r6 hr a b ea eb
  exact ⟨h.tape c.2.2.2 (fy_fX11_patch zQ.rf a ea) (fY_fX12_patch zQ.rf b eb), c⟩
/-- picture -/
theorem a_picture (h : zNow B s t) (hB : B.1 ≤ 999999990000000) (hP : (t.2 4 2).toInt ≤ 999999900000000) {x : Int32} : zp2 (fX11_picture s x) (fX12_picture t x) (zCal 1 (B.1 + 1000000)) := by
  unfold fX11_picture fX12_picture fX11_picture_10 fX12_picture_18
  have m0 := h.mt
  refine zp2_within (fun w1 w2 => ?_) (fun w => ?_)
  · have hx := z_wir w1 w2 (zrl_c (lo := 1) (hi := 1) (by decide)) (zrl_c (lo := 3) (hi := 3) (by decide))
    refine zp2_ifr (fun q => absurd q (by decide)) (fun _ => zp2_fails0 (fun t1 e1 => ?_))
    refine zp2_ifr (fun _ => zp2_ckr (zp2_bvr (fun v7 e7 => ?_))) (fun q => absurd rfl q)
    refine zp2_ifl (fun q => absurd q (zq_lt hx rfl (by decide))) (fun _ => zp2_ifl (fun _ => ?_) (fun q => absurd (zq_le hx rfl (by decide)) q))
    have h1 : zNow B s t1 := by rw [e1]; exact h.th
    have e42 : t1.2 4 2 = t.2 4 2 := by rw [e1]; rfl
    obtain ⟨c0, c1, c2, c3, c4⟩ := h1.1.2.2.2.2.2.2.1
    have e7 : v7 = t.2 4 2 + x.toInt64 := by rw [e7, show zgl t1 4 (2 : Int32).toNatClampNeg = t.2 4 2 from e42]
    have hx1 := hx.1
    have hx2 := hx.2
    have t7 : v7.toInt = (t.2 4 2).toInt + x.toInt := by
      rw [e7]
      have z := z_tladd (x := t.2 4 2) (y := x.toInt64) (a := 0) (b := 999999900000000) (c := 0) (d := 3) ⟨m0.2, hP⟩ (by unfold zrl; rw [Int32.toInt_toInt64]; omega) (by decide)
      rw [z, Int32.toInt_toInt64]
    obtain ⟨Nl, hNl⟩ : ∃ Nl : Int, Nl = (if t1.1 0 3 = 1 then 313 else 262) := ⟨_, rfl⟩
    obtain ⟨M0, hM0⟩ : ∃ M0 : Int, M0 = (t.2 4 2).toInt * Nl * 228 := ⟨_, rfl⟩
    have hv := h1.1.2.2.2.1
    have b67 : 0 ≤ (t1.1 3 67).toInt := by rw [hv.e21]; exact (hv.2.1.at (k := 23) (j := 21) rfl).1
    have b66 : 0 ≤ (t1.1 3 66).toInt := by rw [hv.e20]; exact (hv.2.1.at (k := 23) (j := 20) rfl).1
    have hm : M0 ≤ zMt t1 := by
      unfold zMt
      rw [e42, hM0, hNl]
      by_cases q : t1.1 0 3 = 1
      · rw [if_pos q]; omega
      · rw [if_neg q]; omega
    have h2 : zNow (B.1, (t.2 4 2).toInt, M0) s t1 := h1.bd (Int.le_refl _) (by rw [e42]; exact Int.le_refl _) hm
    have z0 : (0 : Int32).toInt = 0 := rfl
    unfold fX11_run
    refine zp2_bilp (P := fun r r' => ((∃ C : Int × Int × Int, C.1 ≤ B.1 + 1000000 ∧ zNow C r.1 r'.1) ∧ r'.2 = r.2) ∧ zQ [3, 5, 6, 7, 8, 9, 21, 22, 23, 24, 25] [(0, 31, 33)] [4, 10, 11] [(0, 30, 30)] t1 r'.1) ?_ (fun r v b q => ?_)
    · refine zp2_bll p_cnt2 (fun s1 v1 ev1 => zp2_bvl (fun v21 e21 => ?_))
      cases ev1
      have e21 : v21 = v7 := by rw [e21, e7, c2, e42]
      rw [e21]
      refine zp2_andr (zp2_mono (t_run2 (P0 := (t.2 4 2).toInt) (M0 := M0) hNl hM0 m0.2 ⟨by omega, by omega⟩ zfuel zfuel (B.1, (t.2 4 2).toInt, M0) s t1 0 (zr_c (by decide)) (by rw [z0]; show M0 = M0 + 0; omega) rfl (by rw [z0]; show B.1 + _ ≤ _; omega) (by rw [z0]; show (t.2 4 2).toInt ≤ _; omega) (by omega) h2) (fun r r' q => ?_)) (fk_fX12_picture_40 (σ0 := t1) zfuel t1 v7 0 zQ.rf)
      obtain ⟨⟨C, d1, d4⟩, d5⟩ := q
      have d1 : C.1 ≤ B.1 + (1000000 - (0 : Int32).toInt) := d1
      rw [z0] at d1
      exact ⟨⟨C, by omega, d4⟩, d5⟩
    · obtain ⟨⟨⟨C, d1, d2⟩, d3⟩, d4⟩ := q
      refine zp2_some ⟨⟨C, d1, d2⟩, Or.inr ⟨r, ?_, ?_⟩⟩
      · have d3 : b.2 = v := d3
        rw [d3]
      · have z : b.1.1 0 0 = t1.1 0 0 := zQ.o d4 (k := 0) (a := 0) (b := 0) (j := 0) rfl (by decide) (by decide)
        have y : t1.1 0 0 = 0 := by rw [e1]; exact zsi_ej
        exact z.trans y
  · have hn := z_nin w (a := 1) (b := 3) rfl rfl
    refine zp2_ifr (fun _ => zp2_fails1 (fun t1 e1 => ?_)) (fun q => absurd rfl q)
    refine zp2_ifr (fun q => absurd q (by decide)) (fun _ => ?_)
    have c1 : (1 : Int32).toInt = 1 := rfl
    have c2 : (3 : Int32).toInt = 3 := rfl
    have fin : zp2 (some (Sum.inr (s, 1) : zRi)) (some (t1, (0 : Int32))) (zCal 1 (B.1 + 1000000)) := zp2_some ⟨⟨B, by omega, by rw [e1]; exact h.th⟩, Or.inl ⟨s, rfl, by rw [e1]; exact zTh_own⟩⟩
    refine zp2_ifl (fun _ => fin) (fun q => zp2_ifl (fun q1 => ?_) (fun _ => fin))
    have r1 := Int32.le_iff_toInt_le.mp (z_nlt q)
    have r2 := Int32.le_iff_toInt_le.mp q1
    exfalso; omega
end ZMY
