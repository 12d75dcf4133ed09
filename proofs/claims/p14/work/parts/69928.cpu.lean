/-! A ALONE -/
theorem v_p4a : ∀ i : Fin 256, ((Int32.ofNat i.val &&& ((1 <<< ((4 : Int32) &&& 31)) ^^^ (-1))) >>> ((0 : Int32) &&& 31)) &&& 1 = Int32.ofNat i.val &&& 1 := by decide +kernel
theorem v_p4b : ∀ i : Fin 256, ((Int32.ofNat i.val ||| (1 <<< ((4 : Int32) &&& 31))) >>> ((0 : Int32) &&& 31)) &&& 1 = Int32.ofNat i.val &&& 1 := by decide +kernel
section ZAA
variable {I : zSt → zSt → Prop} {σ μ : zSt}
/-- both states given by A and F -/
theorem zEnq_af (hI : zIoK I) (h : zTT I σ μ) (hW : zWzz σ μ) {A F A' F' bts : Int32} {s t : zSt} (qc : zQ [] [(36, 0, 0), (36, 1, 1)] [] [] σ s) (qm : zQ [] [(3, 0, 0), (3, 1, 1)] [] [] μ t) (c0 : s.1 36 0 = A) (c1 : s.1 36 1 = F) (m0 : t.1 3 0 = A') (m1 : t.1 3 1 = F') (e1 : A' = A) (e2 : F' = F) (r1 : zr 0 255 A) (r2 : zr 0 255 F) : zEnq I (s, bts) (t, bts) := by
  refine ⟨h.upd hI [0, 1] qc qm rfl (zAl2 ⟨by rw [m0, c0, e1], by rw [c0]; exact zrg_b (Or.inl (by decide)) r1⟩ ⟨by rw [m1, c1, e2], by rw [c1]; exact zrg_b (Or.inl (by decide)) r2⟩), ?_, ?_, rfl⟩
  · show t.1 3 1 = s.1 36 1
    rw [m1, c1, e2]
  · exact hW.of (qc.1 36 20 rfl) (qm.1 3 20 rfl)

theorem t_acc0 (hI : zIoK I) (h : zTT I σ μ) (hF : zF σ μ) (hW : zWzz σ μ) : zp2 (zbu (fX5_changeA σ 0) (fun s => some (s, (4 : Int32)))) (fX12_singles μ 0 7) (zEnq I) := by
  have ea : μ.1 3 0 = σ.1 36 0 := h.eq (by decide)
  have ef : μ.1 3 1 = σ.1 36 1 := hF
  have ha : zr 0 255 (σ.1 36 0) := h.b (by decide)
  have hf : zr 0 255 (σ.1 36 1) := h.b (by decide)
  have hwo : zr 0 255 (((σ.1 36 0 <<< ((1 : Int32) &&& 31)) &&& 255) ||| (σ.1 36 0 >>> ((7 : Int32) &&& 31))) ∧ zr 0 1 (σ.1 36 0 >>> ((7 : Int32) &&& 31)) := by
    obtain ⟨i, ei⟩ := z_byteF ha
    obtain ⟨k, ek⟩ := z_bit1 (z_r1 (σ.1 36 1))
    rw [ei]
    exact ⟨(v_rotf0 i k).1, (v_rotf0 i k).2⟩
  have cC : zpc (fX5_changeA σ 0) (fun r => r = zsi (zsi (zsi σ 36 1 (crot (((σ.1 36 0 <<< ((1 : Int32) &&& 31)) &&& 255) ||| (σ.1 36 0 >>> ((7 : Int32) &&& 31))) (σ.1 36 0 >>> ((7 : Int32) &&& 31)))) 36 0 (((σ.1 36 0 <<< ((1 : Int32) &&& 31)) &&& 255) ||| (σ.1 36 0 >>> ((7 : Int32) &&& 31)))) 36 1 ((σ.1 36 1 &&& 196) ||| (crot (((σ.1 36 0 <<< ((1 : Int32) &&& 31)) &&& 255) ||| (σ.1 36 0 >>> ((7 : Int32) &&& 31))) (σ.1 36 0 >>> ((7 : Int32) &&& 31)) &&& 41))) := by
    unfold fX5_changeA
    refine zpc_ck (zpc_bv (fun u eu => zpc_ck (zpc_bv (fun u2 eu2 => zpc_if (fun q => absurd q (by decide)) (fun _ => zpc_if (fun q => absurd q (by decide)) (fun _ => zpc_if (fun q => absurd q (by decide)) (fun _ => zpc_if (fun q => absurd q (by decide)) (fun _ => zpc_ck (zpc_bi p_rotC0 (fun t x et => ?_))))))))))
    cases et
    refine zpc_ck (zpc_bv (fun s1 f1 => zpc_ck (zpc_ck (zpc_bv (fun s2 f2 => zpc_some ?_)))))
    subst eu
    rw [f2, f1]
    rfl
  have cM : zpc (fX12_singles μ 0 7) (fun r => r = (zsi (zsi (zsi μ 3 1 (pt (σ.1 36 1) 0 (if σ.1 36 0 >>> ((7 : Int32) &&& 31) = 1 then 1 else 0))) 3 0 (((σ.1 36 0 <<< ((1 : Int32) &&& 31)) &&& 255) ||| (σ.1 36 0 >>> ((7 : Int32) &&& 31)))) 3 1 (pt (pt (gxy (pt (σ.1 36 1) 0 (if σ.1 36 0 >>> ((7 : Int32) &&& 31) = 1 then 1 else 0)) (((σ.1 36 0 <<< ((1 : Int32) &&& 31)) &&& 255) ||| (σ.1 36 0 >>> ((7 : Int32) &&& 31)))) 4 0) 1 0), 4)) := by
    unfold fX12_singles fX12_singles_316
    refine zpc_if (fun q => absurd q (by decide)) (fun _ => zpc_if (fun _ => zpc_if (fun q => absurd q (by decide)) (fun _ => zpc_ck (zpc_bi p_rotM0 (fun t x et => ?_)))) (fun q => absurd (by decide) q))
    cases et
    rw [show zgi μ 3 (0 : Int32).toNatClampNeg = σ.1 36 0 from ea, ef]
    refine zpc_ck (zpc_bv (fun s1 f1 => zpc_ck (zpc_bu p_xy' (fun s2 f2 => ?_))))
    subst f2
    refine zpc_bu p_put (fun s3 f3 => ?_)
    subst f3
    refine zpc_bu p_put (fun s4 f4 => zpc_some ?_)
    rw [f4, f1]
    rfl
  refine zp2_bul cC (fun s es => ?_)
  intro r r' er er'
  cases er
  rw [cM r' er']
  refine zEnq_af hI h hW (by rw [es]; exact zQ.wi (zQ.wi (zQ.wi zQ.rf rfl) rfl) rfl) (zQ.wi (zQ.wi (zQ.wi zQ.rf rfl) rfl) rfl) (by rw [es]; rfl) (by rw [es]; rfl) rfl rfl rfl (v_ac hf hwo.1 hwo.2) hwo.1 ?_
  rw [← v_ac hf hwo.1 hwo.2, fl_of hf, pt_0, fl_xy, pt_4, pt_1]
  exact zfl_r _ _ _ _ _ _ _ _
theorem t_acc1 (hI : zIoK I) (h : zTT I σ μ) (hF : zF σ μ) (hW : zWzz σ μ) : zp2 (zbu (fX5_changeA σ 1) (fun s => some (s, (4 : Int32)))) (fX12_singles μ 1 7) (zEnq I) := by
  have ea : μ.1 3 0 = σ.1 36 0 := h.eq (by decide)
  have ef : μ.1 3 1 = σ.1 36 1 := hF
  have ha : zr 0 255 (σ.1 36 0) := h.b (by decide)
  have hf : zr 0 255 (σ.1 36 1) := h.b (by decide)
  have hwo : zr 0 255 ((σ.1 36 0 >>> ((1 : Int32) &&& 31)) ||| ((σ.1 36 0 &&& 1) <<< ((7 : Int32) &&& 31))) ∧ zr 0 1 (σ.1 36 0 &&& 1) := by
    obtain ⟨i, ei⟩ := z_byteF ha
    obtain ⟨k, ek⟩ := z_bit1 (z_r1 (σ.1 36 1))
    rw [ei]
    exact ⟨(v_rotf1 i k).1, (v_rotf1 i k).2⟩
  have cC : zpc (fX5_changeA σ 1) (fun r => r = zsi (zsi (zsi σ 36 1 (crot ((σ.1 36 0 >>> ((1 : Int32) &&& 31)) ||| ((σ.1 36 0 &&& 1) <<< ((7 : Int32) &&& 31))) (σ.1 36 0 &&& 1))) 36 0 ((σ.1 36 0 >>> ((1 : Int32) &&& 31)) ||| ((σ.1 36 0 &&& 1) <<< ((7 : Int32) &&& 31)))) 36 1 ((σ.1 36 1 &&& 196) ||| (crot ((σ.1 36 0 >>> ((1 : Int32) &&& 31)) ||| ((σ.1 36 0 &&& 1) <<< ((7 : Int32) &&& 31))) (σ.1 36 0 &&& 1) &&& 41))) := by
    unfold fX5_changeA
    refine zpc_ck (zpc_bv (fun u eu => zpc_ck (zpc_bv (fun u2 eu2 => zpc_if (fun q => absurd q (by decide)) (fun _ => zpc_if (fun q => absurd q (by decide)) (fun _ => zpc_if (fun q => absurd q (by decide)) (fun _ => zpc_if (fun q => absurd q (by decide)) (fun _ => zpc_ck (zpc_bi p_rotC1 (fun t x et => ?_))))))))))
    cases et
    refine zpc_ck (zpc_bv (fun s1 f1 => zpc_ck (zpc_ck (zpc_bv (fun s2 f2 => zpc_some ?_)))))
    subst eu
    rw [f2, f1]
    rfl
  have cM : zpc (fX12_singles μ 1 7) (fun r => r = (zsi (zsi (zsi μ 3 1 (pt (σ.1 36 1) 0 (if σ.1 36 0 &&& 1 = 1 then 1 else 0))) 3 0 ((σ.1 36 0 >>> ((1 : Int32) &&& 31)) ||| ((σ.1 36 0 &&& 1) <<< ((7 : Int32) &&& 31)))) 3 1 (pt (pt (gxy (pt (σ.1 36 1) 0 (if σ.1 36 0 &&& 1 = 1 then 1 else 0)) ((σ.1 36 0 >>> ((1 : Int32) &&& 31)) ||| ((σ.1 36 0 &&& 1) <<< ((7 : Int32) &&& 31)))) 4 0) 1 0), 4)) := by
    unfold fX12_singles fX12_singles_316
    refine zpc_if (fun q => absurd q (by decide)) (fun _ => zpc_if (fun _ => zpc_if (fun q => absurd q (by decide)) (fun _ => zpc_ck (zpc_bi p_rotM1 (fun t x et => ?_)))) (fun q => absurd (by decide) q))
    cases et
    rw [show zgi μ 3 (0 : Int32).toNatClampNeg = σ.1 36 0 from ea, ef]
    refine zpc_ck (zpc_bv (fun s1 f1 => zpc_ck (zpc_bu p_xy' (fun s2 f2 => ?_))))
    subst f2
    refine zpc_bu p_put (fun s3 f3 => ?_)
    subst f3
    refine zpc_bu p_put (fun s4 f4 => zpc_some ?_)
    rw [f4, f1]
    rfl
  refine zp2_bul cC (fun s es => ?_)
  intro r r' er er'
  cases er
  rw [cM r' er']
  refine zEnq_af hI h hW (by rw [es]; exact zQ.wi (zQ.wi (zQ.wi zQ.rf rfl) rfl) rfl) (zQ.wi (zQ.wi (zQ.wi zQ.rf rfl) rfl) rfl) (by rw [es]; rfl) (by rw [es]; rfl) rfl rfl rfl (v_ac hf hwo.1 hwo.2) hwo.1 ?_
  rw [← v_ac hf hwo.1 hwo.2, fl_of hf, pt_0, fl_xy, pt_4, pt_1]
  exact zfl_r _ _ _ _ _ _ _ _
theorem t_acc2 (hI : zIoK I) (h : zTT I σ μ) (hF : zF σ μ) (hW : zWzz σ μ) : zp2 (zbu (fX5_changeA σ 2) (fun s => some (s, (4 : Int32)))) (fX12_singles μ 2 7) (zEnq I) := by
  have ea : μ.1 3 0 = σ.1 36 0 := h.eq (by decide)
  have ef : μ.1 3 1 = σ.1 36 1 := hF
  have ha : zr 0 255 (σ.1 36 0) := h.b (by decide)
  have hf : zr 0 255 (σ.1 36 1) := h.b (by decide)
  have hwo : zr 0 255 (((σ.1 36 0 <<< ((1 : Int32) &&& 31)) &&& 255) ||| (σ.1 36 1 &&& 1)) ∧ zr 0 1 (σ.1 36 0 >>> ((7 : Int32) &&& 31)) := by
    obtain ⟨i, ei⟩ := z_byteF ha
    obtain ⟨k, ek⟩ := z_bit1 (z_r1 (σ.1 36 1))
    rw [ek, ei]
    exact ⟨(v_rotf2 i k).1, (v_rotf2 i k).2⟩
  have cC : zpc (fX5_changeA σ 2) (fun r => r = zsi (zsi (zsi σ 36 1 (crot (((σ.1 36 0 <<< ((1 : Int32) &&& 31)) &&& 255) ||| (σ.1 36 1 &&& 1)) (σ.1 36 0 >>> ((7 : Int32) &&& 31)))) 36 0 (((σ.1 36 0 <<< ((1 : Int32) &&& 31)) &&& 255) ||| (σ.1 36 1 &&& 1))) 36 1 ((σ.1 36 1 &&& 196) ||| (crot (((σ.1 36 0 <<< ((1 : Int32) &&& 31)) &&& 255) ||| (σ.1 36 1 &&& 1)) (σ.1 36 0 >>> ((7 : Int32) &&& 31)) &&& 41))) := by
    unfold fX5_changeA
    refine zpc_ck (zpc_bv (fun u eu => zpc_ck (zpc_bv (fun u2 eu2 => zpc_if (fun q => absurd q (by decide)) (fun _ => zpc_if (fun q => absurd q (by decide)) (fun _ => zpc_if (fun q => absurd q (by decide)) (fun _ => zpc_if (fun q => absurd q (by decide)) (fun _ => zpc_ck (zpc_bi p_rotC2 (fun t x et => ?_))))))))))
    cases et
    refine zpc_ck (zpc_bv (fun s1 f1 => zpc_ck (zpc_ck (zpc_bv (fun s2 f2 => zpc_some ?_)))))
    subst eu
    rw [f2, f1]
    rfl
  have cM : zpc (fX12_singles μ 2 7) (fun r => r = (zsi (zsi (zsi μ 3 1 (pt (σ.1 36 1) 0 (if σ.1 36 0 >>> ((7 : Int32) &&& 31) = 1 then 1 else 0))) 3 0 (((σ.1 36 0 <<< ((1 : Int32) &&& 31)) &&& 255) ||| (σ.1 36 1 &&& 1))) 3 1 (pt (pt (gxy (pt (σ.1 36 1) 0 (if σ.1 36 0 >>> ((7 : Int32) &&& 31) = 1 then 1 else 0)) (((σ.1 36 0 <<< ((1 : Int32) &&& 31)) &&& 255) ||| (σ.1 36 1 &&& 1))) 4 0) 1 0), 4)) := by
    unfold fX12_singles fX12_singles_316
    refine zpc_if (fun q => absurd q (by decide)) (fun _ => zpc_if (fun _ => zpc_if (fun q => absurd q (by decide)) (fun _ => zpc_ck (zpc_bi p_rotM2 (fun t x et => ?_)))) (fun q => absurd (by decide) q))
    cases et
    rw [show zgi μ 3 (0 : Int32).toNatClampNeg = σ.1 36 0 from ea, ef, z_c0 hf]
    refine zpc_ck (zpc_bv (fun s1 f1 => zpc_ck (zpc_bu p_xy' (fun s2 f2 => ?_))))
    subst f2
    refine zpc_bu p_put (fun s3 f3 => ?_)
    subst f3
    refine zpc_bu p_put (fun s4 f4 => zpc_some ?_)
    rw [f4, f1]
    rfl
  refine zp2_bul cC (fun s es => ?_)
  intro r r' er er'
  cases er
  rw [cM r' er']
  refine zEnq_af hI h hW (by rw [es]; exact zQ.wi (zQ.wi (zQ.wi zQ.rf rfl) rfl) rfl) (zQ.wi (zQ.wi (zQ.wi zQ.rf rfl) rfl) rfl) (by rw [es]; rfl) (by rw [es]; rfl) rfl rfl rfl (v_ac hf hwo.1 hwo.2) hwo.1 ?_
  rw [← v_ac hf hwo.1 hwo.2, fl_of hf, pt_0, fl_xy, pt_4, pt_1]
  exact zfl_r _ _ _ _ _ _ _ _
theorem t_acc3 (hI : zIoK I) (h : zTT I σ μ) (hF : zF σ μ) (hW : zWzz σ μ) : zp2 (zbu (fX5_changeA σ 3) (fun s => some (s, (4 : Int32)))) (fX12_singles μ 3 7) (zEnq I) := by
  have ea : μ.1 3 0 = σ.1 36 0 := h.eq (by decide)
  have ef : μ.1 3 1 = σ.1 36 1 := hF
  have ha : zr 0 255 (σ.1 36 0) := h.b (by decide)
  have hf : zr 0 255 (σ.1 36 1) := h.b (by decide)
  have hwo : zr 0 255 ((σ.1 36 0 >>> ((1 : Int32) &&& 31)) ||| ((σ.1 36 1 &&& 1) <<< ((7 : Int32) &&& 31))) ∧ zr 0 1 (σ.1 36 0 &&& 1) := by
    obtain ⟨i, ei⟩ := z_byteF ha
    obtain ⟨k, ek⟩ := z_bit1 (z_r1 (σ.1 36 1))
    rw [ek, ei]
    exact ⟨(v_rotf3 i k).1, (v_rotf3 i k).2⟩
  have cC : zpc (fX5_changeA σ 3) (fun r => r = zsi (zsi (zsi σ 36 1 (crot ((σ.1 36 0 >>> ((1 : Int32) &&& 31)) ||| ((σ.1 36 1 &&& 1) <<< ((7 : Int32) &&& 31))) (σ.1 36 0 &&& 1))) 36 0 ((σ.1 36 0 >>> ((1 : Int32) &&& 31)) ||| ((σ.1 36 1 &&& 1) <<< ((7 : Int32) &&& 31)))) 36 1 ((σ.1 36 1 &&& 196) ||| (crot ((σ.1 36 0 >>> ((1 : Int32) &&& 31)) ||| ((σ.1 36 1 &&& 1) <<< ((7 : Int32) &&& 31))) (σ.1 36 0 &&& 1) &&& 41))) := by
    unfold fX5_changeA
    refine zpc_ck (zpc_bv (fun u eu => zpc_ck (zpc_bv (fun u2 eu2 => zpc_if (fun q => absurd q (by decide)) (fun _ => zpc_if (fun q => absurd q (by decide)) (fun _ => zpc_if (fun q => absurd q (by decide)) (fun _ => zpc_if (fun q => absurd q (by decide)) (fun _ => zpc_ck (zpc_bi p_rotC3 (fun t x et => ?_))))))))))
    cases et
    refine zpc_ck (zpc_bv (fun s1 f1 => zpc_ck (zpc_ck (zpc_bv (fun s2 f2 => zpc_some ?_)))))
    subst eu
    rw [f2, f1]
    rfl
  have cM : zpc (fX12_singles μ 3 7) (fun r => r = (zsi (zsi (zsi μ 3 1 (pt (σ.1 36 1) 0 (if σ.1 36 0 &&& 1 = 1 then 1 else 0))) 3 0 ((σ.1 36 0 >>> ((1 : Int32) &&& 31)) ||| ((σ.1 36 1 &&& 1) <<< ((7 : Int32) &&& 31)))) 3 1 (pt (pt (gxy (pt (σ.1 36 1) 0 (if σ.1 36 0 &&& 1 = 1 then 1 else 0)) ((σ.1 36 0 >>> ((1 : Int32) &&& 31)) ||| ((σ.1 36 1 &&& 1) <<< ((7 : Int32) &&& 31)))) 4 0) 1 0), 4)) := by
    unfold fX12_singles fX12_singles_316
    refine zpc_if (fun q => absurd q (by decide)) (fun _ => zpc_if (fun _ => zpc_if (fun q => absurd q (by decide)) (fun _ => zpc_ck (zpc_bi p_rotM3 (fun t x et => ?_)))) (fun q => absurd (by decide) q))
    cases et
    rw [show zgi μ 3 (0 : Int32).toNatClampNeg = σ.1 36 0 from ea, ef, z_c0 hf]
    refine zpc_ck (zpc_bv (fun s1 f1 => zpc_ck (zpc_bu p_xy' (fun s2 f2 => ?_))))
    subst f2
    refine zpc_bu p_put (fun s3 f3 => ?_)
    subst f3
    refine zpc_bu p_put (fun s4 f4 => zpc_some ?_)
    rw [f4, f1]
    rfl
  refine zp2_bul cC (fun s es => ?_)
  intro r r' er er'
  cases er
  rw [cM r' er']
  refine zEnq_af hI h hW (by rw [es]; exact zQ.wi (zQ.wi (zQ.wi zQ.rf rfl) rfl) rfl) (zQ.wi (zQ.wi (zQ.wi zQ.rf rfl) rfl) rfl) (by rw [es]; rfl) (by rw [es]; rfl) rfl rfl rfl (v_ac hf hwo.1 hwo.2) hwo.1 ?_
  rw [← v_ac hf hwo.1 hwo.2, fl_of hf, pt_0, fl_xy, pt_4, pt_1]
  exact zfl_r _ _ _ _ _ _ _ _
theorem v_cplB : ∀ b7 b6 b5 b3 b2 b0 : Bool, zfl b7 b6 b5 true b3 b2 true b0 = (((((((bif b7 then 128 else 0) ||| (bif b6 then 64 else 0)) ||| (bif b2 then 4 else 0)) ||| (bif b0 then 1 else 0)) ||| 16) ||| 2) ||| ((bif b5 then 32 else 0) ||| (bif b3 then 8 else 0)) : Int32) := by decide
theorem v_scfB : ∀ b7 b6 b5 b3 b2 : Bool, zfl b7 b6 b5 false b3 b2 false true = (((((bif b7 then 128 else 0) ||| (bif b6 then 64 else 0)) ||| (bif b2 then 4 else 0)) ||| 1) ||| ((bif b5 then 32 else 0) ||| (bif b3 then 8 else 0)) : Int32) := by decide
theorem v_ccfB : ∀ b7 b6 b5 b3 b2 : Bool, zfl b7 b6 b5 true b3 b2 false false = (((((bif b7 then 128 else 0) ||| (bif b6 then 64 else 0)) ||| (bif b2 then 4 else 0)) ||| 16) ||| ((bif b5 then 32 else 0) ||| (bif b3 then 8 else 0)) : Int32) := by decide
theorem v_f1 : ∀ i : Fin 256, Int32.ofNat i.val &&& 1 = bif decide (¬ Int32.ofNat i.val &&& 1 = 0) then 1 else 0 := by decide +kernel
theorem z_40 {b : Int32} (h : zr 0 255 b) : b &&& 40 = (bif d5 b then 32 else 0) ||| (bif d3 b then 8 else 0) := by
  obtain ⟨i, e⟩ := z_byteF h
  rw [e]
  exact v_40 i
theorem z_196 {f : Int32} (h : zr 0 255 f) : f &&& 196 = ((bif decide (¬ f &&& 128 = 0) then 128 else 0) ||| (bif decide (¬ f &&& 64 = 0) then 64 else 0)) ||| (bif decide (¬ f &&& 4 = 0) then 4 else 0) := by
  obtain ⟨i, e⟩ := z_byteF h
  rw [e]
  exact v_196 i
theorem z_f1 {f : Int32} (h : zr 0 255 f) : f &&& 1 = bif decide (¬ f &&& 1 = 0) then 1 else 0 := by
  obtain ⟨i, e⟩ := z_byteF h
  rw [e]
  exact v_f1 i
theorem t_acc5 (hI : zIoK I) (h : zTT I σ μ) (hF : zF σ μ) (hW : zWzz σ μ) : zp2 (zbu (fX5_changeA σ 5) (fun s => some (s, (4 : Int32)))) (fX12_singles μ 5 7) (zEnq I) := by
  have ea : μ.1 3 0 = σ.1 36 0 := h.eq (by decide)
  have ef : μ.1 3 1 = σ.1 36 1 := hF
  have ha : zr 0 255 (σ.1 36 0) := h.b (by decide)
  have hf : zr 0 255 (σ.1 36 1) := h.b (by decide)
  have hw : zr 0 255 (σ.1 36 0 ^^^ 255) := z_xb ha (zr_c (by decide))
  have cC : zpc (fX5_changeA σ 5) (fun r => r = zsi (zsi σ 36 0 (σ.1 36 0 ^^^ 255)) 36 1 (((((σ.1 36 1 &&& 196) ||| (σ.1 36 1 &&& 1)) ||| 16) ||| 2) ||| ((σ.1 36 0 ^^^ 255) &&& 40))) := by
    unfold fX5_changeA
    refine zpc_ck (zpc_bv (fun u eu => zpc_ck (zpc_bv (fun u2 eu2 => zpc_if (fun q => absurd q (by decide)) (fun _ => zpc_if (fun _ => zpc_ck (zpc_ck (zpc_bv (fun s1 f1 => zpc_ck (zpc_ck (zpc_bv (fun s2 f2 => zpc_some ?_))))))) (fun q => absurd rfl q))))))
    subst eu
    subst eu2
    rw [f2, f1]
    rfl
  have cM : zpc (fX12_singles μ 5 7) (fun r => r = (zsi (zsi μ 3 0 (σ.1 36 0 ^^^ 255)) 3 1 (gxy (pt (pt (σ.1 36 1) 4 1) 1 1) (σ.1 36 0 ^^^ 255)), 4)) := by
    unfold fX12_singles fX12_singles_316
    refine zpc_if (fun q => absurd q (by decide)) (fun _ => zpc_if (fun _ => zpc_if (fun _ => zpc_if (fun q => absurd q (by decide)) (fun _ => zpc_if (fun _ => zpc_ck (zpc_ck (zpc_bv (fun s1 f1 => zpc_bu p_put' (fun s2 f2 => ?_))))) (fun q => absurd rfl q))) (fun q => absurd (by decide) q)) (fun q => absurd (by decide) q))
    subst f2
    refine zpc_bu p_put (fun s3 f3 => ?_)
    subst f3
    refine zpc_ck (zpc_bu p_xy (fun s4 f4 => zpc_some ?_))
    rw [f4, f1]
    show (zsi (zsi μ 3 0 (μ.1 3 0 ^^^ 255)) 3 1 (gxy (pt (pt (μ.1 3 1) 4 1) 1 1) (μ.1 3 0 ^^^ 255)), (4 : Int32)) = _
    rw [ea, ef]
  have e : gxy (pt (pt (σ.1 36 1) 4 1) 1 1) (σ.1 36 0 ^^^ 255) = ((((σ.1 36 1 &&& 196) ||| (σ.1 36 1 &&& 1)) ||| 16) ||| 2) ||| ((σ.1 36 0 ^^^ 255) &&& 40) := by
    rw [z_196 hf, z_f1 hf, z_40 hw, ← v_cplB]
    conv => lhs; rw [fl_of hf, pt_4, pt_1, fl_xy]
    rfl
  refine zp2_bul cC (fun s es => ?_)
  intro r r' er er'
  cases er
  rw [cM r' er']
  refine zEnq_af hI h hW (by rw [es]; exact zQ.wi (zQ.wi zQ.rf rfl) rfl) (zQ.wi (zQ.wi zQ.rf rfl) rfl) (by rw [es]; rfl) (by rw [es]; rfl) rfl rfl rfl e hw ?_
  rw [← e, fl_of hf, pt_4, pt_1, fl_xy]
  exact zfl_r _ _ _ _ _ _ _ _
theorem p_scfM {y : Int32} {g : Int32} (hy : y = 6 ∨ (¬ y = 6 ∧ (σ.1 36 1 &&& 1 = 0 ∨ ¬ σ.1 36 1 &&& 1 = 0))) (hf : zr 0 255 (σ.1 36 1)) (ef : μ.1 3 1 = σ.1 36 1) : zpc (fX12_singles_273 μ y g 4) (fun r => r = (zsi μ 3 1 (gxy (pt (pt (pt (σ.1 36 1) 4 g) 0 (if y = 6 then 1 else if σ.1 36 1 &&& 1 = 0 then 1 else 0)) 1 0) (μ.1 3 0)), 4)) := by
  have f297 : ∀ w, zpc (fX12_singles_297 (zsi μ 3 1 (pt (σ.1 36 1) 4 g)) w 0) (fun r => r = (zsi μ 3 1 (gxy (pt (pt (pt (σ.1 36 1) 4 g) 0 w) 1 0) (μ.1 3 0)), 4)) := fun w => by
    unfold fX12_singles_297 fX12_singles_316
    refine zpc_bu p_put (fun s f => ?_)
    subst f
    refine zpc_bu p_put (fun s f => ?_)
    subst f
    refine zpc_ck (zpc_bu p_xy (fun s f => zpc_some ?_))
    rw [f]
    rfl
  unfold fX12_singles_273
  refine zpc_bu p_put' (fun s f => ?_)
  rw [ef] at f
  subst f
  unfold fX12_singles_292
  refine zpc_if (fun q => ?_) (fun q => zpc_bi p_flag (fun t u et => ?_))
  · rw [if_pos q]; exact f297 1
  · cases et
    rw [if_neg q]
    have e : ((zsi μ 3 1 (pt (σ.1 36 1) 4 g)).1 3 1 >>> ((0 : Int32) &&& 31)) &&& 1 = σ.1 36 1 &&& 1 := by
      show (pt (σ.1 36 1) 4 g >>> ((0 : Int32) &&& 31)) &&& 1 = _
      obtain ⟨i, ei⟩ := z_byteF hf
      rw [ei]
      unfold pt
      by_cases q : g = 0
      · rw [if_pos q]
        exact v_p4a i
      · rw [if_neg q]
        exact v_p4b i
    rw [e]
    refine zpc_if (fun q2 => ?_) (fun q2 => ?_)
    · rw [if_pos q2]; exact f297 1
    · rw [if_neg q2]; exact f297 0
theorem t_acc6 (hI : zIoK I) (h : zTT I σ μ) (hF : zF σ μ) (hW : zWzz σ μ) : zp2 (zbu (fX5_changeA σ 6) (fun s => some (s, (4 : Int32)))) (fX12_singles μ 6 7) (zEnq I) := by
  have ea : μ.1 3 0 = σ.1 36 0 := h.eq (by decide)
  have ef : μ.1 3 1 = σ.1 36 1 := hF
  have ha : zr 0 255 (σ.1 36 0) := h.b (by decide)
  have hf : zr 0 255 (σ.1 36 1) := h.b (by decide)
  have cC : zpc (fX5_changeA σ 6) (fun r => r = zsi σ 36 1 (((σ.1 36 1 &&& 196) ||| 1) ||| (σ.1 36 0 &&& 40))) := by
    unfold fX5_changeA
    refine zpc_ck (zpc_bv (fun u eu => zpc_ck (zpc_bv (fun u2 eu2 => zpc_if (fun q => absurd q (by decide)) (fun _ => zpc_if (fun q => absurd q (by decide)) (fun _ => zpc_if (fun _ => zpc_ck (zpc_ck (zpc_bv (fun s1 f1 => zpc_some ?_)))) (fun q => absurd rfl q)))))))
    subst eu
    rw [f1]
    rfl
  have cM : zpc (fX12_singles μ 6 7) (fun r => r = (zsi μ 3 1 (gxy (pt (pt (pt (σ.1 36 1) 4 0) 0 1) 1 0) (σ.1 36 0)), 4)) := by
    unfold fX12_singles fX12_singles_272
    refine zpc_if (fun q => absurd q (by decide)) (fun _ => zpc_if (fun _ => zpc_if (fun _ => zpc_if (fun q => absurd q (by decide)) (fun _ => zpc_if (fun q => absurd q (by decide)) (fun _ => zpc_if (fun q => absurd q (by decide)) (fun _ => ?_)))) (fun q => absurd (by decide) q)) (fun q => absurd (by decide) q))
    have m := p_scfM (σ := σ) (μ := μ) (y := 6) (g := 0) (Or.inl rfl) hf ef
    rw [ea] at m
    exact m
  have e : gxy (pt (pt (pt (σ.1 36 1) 4 0) 0 1) 1 0) (σ.1 36 0) = ((σ.1 36 1 &&& 196) ||| 1) ||| (σ.1 36 0 &&& 40) := by
    rw [z_196 hf, z_40 ha, ← v_scfB]
    conv => lhs; rw [fl_of hf, pt_4, pt_0, pt_1, fl_xy]
    rfl
  refine zp2_bul cC (fun s es => ?_)
  intro r r' er er'
  cases er
  rw [cM r' er']
  refine zEnq_af hI h hW (by rw [es]; exact zQ.wi zQ.rf rfl) (zQ.wi zQ.rf rfl) (by rw [es]; rfl) (by rw [es]; rfl) (show (zsi μ 3 1 _).1 3 0 = σ.1 36 0 from ea) rfl rfl e ha ?_
  rw [← e, fl_of hf, pt_4, pt_0, pt_1, fl_xy]
  exact zfl_r _ _ _ _ _ _ _ _
theorem t_acc7 (hI : zIoK I) (h : zTT I σ μ) (hF : zF σ μ) (hW : zWzz σ μ) : zp2 (zbu (fX5_changeA σ 7) (fun s => some (s, (4 : Int32)))) (fX12_singles μ 7 7) (zEnq I) := by
  have ea : μ.1 3 0 = σ.1 36 0 := h.eq (by decide)
  have ef : μ.1 3 1 = σ.1 36 1 := hF
  have ha : zr 0 255 (σ.1 36 0) := h.b (by decide)
  have hf : zr 0 255 (σ.1 36 1) := h.b (by decide)
  have cC : zpc (fX5_changeA σ 7) (fun r => r = zsi σ 36 1 (((σ.1 36 1 &&& 196) ||| (if σ.1 36 1 &&& 1 = 0 then 1 else 16)) ||| (σ.1 36 0 &&& 40))) := by
    unfold fX5_changeA fX5_changeA_130
    refine zpc_ck (zpc_bv (fun u eu => zpc_ck (zpc_bv (fun u2 eu2 => zpc_if (fun q => absurd q (by decide)) (fun _ => zpc_if (fun q => absurd q (by decide)) (fun _ => zpc_if (fun q => absurd q (by decide)) (fun _ => zpc_if (fun _ => ?_) (fun q => absurd rfl q))))))))
    subst eu
    subst eu2
    refine zpc_if (fun q => zpc_ck (zpc_ck (zpc_bv (fun s1 f1 => zpc_some ?_)))) (fun q => zpc_ck (zpc_ck (zpc_bv (fun s1 f1 => zpc_some ?_))))
    · rw [f1, if_pos (show σ.1 36 1 &&& 1 = 0 from q)]; rfl
    · rw [f1, if_neg (show ¬ σ.1 36 1 &&& 1 = 0 from q)]; rfl
  have cM : zpc (fX12_singles μ 7 7) (fun r => r = (zsi μ 3 1 (gxy (pt (pt (pt (σ.1 36 1) 4 (if σ.1 36 1 &&& 1 = 0 then 0 else 1)) 0 (if σ.1 36 1 &&& 1 = 0 then 1 else 0)) 1 0) (σ.1 36 0)), 4)) := by
    unfold fX12_singles fX12_singles_272
    refine zpc_if (fun q => absurd q (by decide)) (fun _ => zpc_if (fun _ => zpc_if (fun _ => zpc_if (fun q => absurd q (by decide)) (fun _ => zpc_if (fun q => absurd q (by decide)) (fun _ => zpc_if (fun _ => zpc_bi p_flag (fun t u et => ?_)) (fun q => absurd rfl q)))) (fun q => absurd (by decide) q)) (fun q => absurd (by decide) q))
    cases et
    rw [ef, z_bt0 hf]
    by_cases q : σ.1 36 1 &&& 1 = 0
    · rw [if_pos q]
      refine zpc_if (fun q => absurd q (by decide)) (fun _ => ?_)
      have m := p_scfM (σ := σ) (μ := μ) (y := 7) (g := 0) (Or.inr ⟨by decide, Or.inl q⟩) hf ef
      rw [ea, if_neg (show ¬ (7 : Int32) = 6 by decide), if_pos q] at m
      rw [if_pos q]
      exact m
    · rw [if_neg q]
      refine zpc_if (fun _ => ?_) (fun q => absurd rfl q)
      have m := p_scfM (σ := σ) (μ := μ) (y := 7) (g := 1) (Or.inr ⟨by decide, Or.inr q⟩) hf ef
      rw [ea, if_neg (show ¬ (7 : Int32) = 6 by decide), if_neg q] at m
      rw [if_neg q]
      exact m
  have e : gxy (pt (pt (pt (σ.1 36 1) 4 (if σ.1 36 1 &&& 1 = 0 then 0 else 1)) 0 (if σ.1 36 1 &&& 1 = 0 then 1 else 0)) 1 0) (σ.1 36 0) = ((σ.1 36 1 &&& 196) ||| (if σ.1 36 1 &&& 1 = 0 then 1 else 16)) ||| (σ.1 36 0 &&& 40) := by
    by_cases q : σ.1 36 1 &&& 1 = 0
    · rw [if_pos q, if_pos q, if_pos q, z_196 hf, z_40 ha, ← v_scfB]
      conv => lhs; rw [fl_of hf, pt_4, pt_0, pt_1, fl_xy]
      rfl
    · rw [if_neg q, if_neg q, if_neg q, z_196 hf, z_40 ha, ← v_ccfB]
      conv => lhs; rw [fl_of hf, pt_4, pt_0, pt_1, fl_xy]
      rfl
  refine zp2_bul cC (fun s es => ?_)
  intro r r' er er'
  cases er
  rw [cM r' er']
  refine zEnq_af hI h hW (by rw [es]; exact zQ.wi zQ.rf rfl) (zQ.wi zQ.rf rfl) (by rw [es]; rfl) (by rw [es]; rfl) (show (zsi μ 3 1 _).1 3 0 = σ.1 36 0 from ea) rfl rfl e ha ?_
  rw [← e, fl_of hf, pt_4, pt_0, pt_1, fl_xy]
  exact zfl_r _ _ _ _ _ _ _ _
end ZAA
