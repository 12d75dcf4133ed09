/-! HELPERS, PART 2: stack, pairs, single registers -/
theorem z_m2 (a : Int32) : (((a - 1) &&& 65535) - 1) &&& 65535 = (a - 2) &&& 65535 := by
  refine Int32.toBitVec_inj.1 ?_
  rw [Int32.toBitVec_and, Int32.toBitVec_and, Int32.toBitVec_sub, Int32.toBitVec_and, Int32.toBitVec_sub, Int32.toBitVec_sub]
  refine BitVec.eq_of_toNat_eq ?_
  rw [BitVec.toNat_and, BitVec.toNat_and, BitVec.toNat_sub, BitVec.toNat_and, BitVec.toNat_sub, BitVec.toNat_sub]
  rw [show (65535 : Int32).toBitVec.toNat = 2 ^ 16 - 1 from rfl, show (1 : Int32).toBitVec.toNat = 1 from rfl, show (2 : Int32).toBitVec.toNat = 2 from rfl, Nat.and_two_pow_sub_one_eq_mod, Nat.and_two_pow_sub_one_eq_mod, Nat.and_two_pow_sub_one_eq_mod]
  have := a.toBitVec.isLt
  omega
theorem zJp.of {σ μ σ1 μ1 : zSt} (h : zJp σ μ) (e7 : σ1.1 7 4 = σ.1 7 4) (e0 : μ1.1 0 31 = μ.1 0 31) : zJp σ1 μ1 := by
  unfold zJp
  rw [e7, e0]
  exact h
/-- where M is -/
def zPlc (σ μ : zSt) : Prop := (μ.1 0 32 = 0 ∧ σ.1 7 5 = ((σ.1 36 6 <<< ((8 : Int32) &&& 31)) ||| σ.1 36 7)) ∨ (¬ μ.1 0 32 = 0 ∧ σ.1 7 5 = μ.1 3 20)
theorem zPlc.of {σ μ σ1 μ1 : zSt} (h : zPlc σ μ) (a : σ1.1 7 5 = σ.1 7 5) (b : σ1.1 36 6 = σ.1 36 6) (c : σ1.1 36 7 = σ.1 36 7) (d : μ1.1 3 20 = μ.1 3 20) (e : μ1.1 0 32 = μ.1 0 32) : zPlc σ1 μ1 := by
  unfold zPlc
  rw [a, b, c, d, e]
  exact h
section ZT4
variable {I : zSt → zSt → Prop} {σ μ : zSt}
theorem t_push (hI : zIoK I) (h : zTT I σ μ) {v w : Int32} (e : w = v) (hv : zr 0 65535 v) : zp2 (fX5_push σ v) (fX12_push μ w) (fun r r' => zTT I r r' ∧ zQ [15, 17, 19] [(36, 18, 18)] [] [] σ r ∧ zQ [5, 6] [(3, 18, 18), (3, 29, 32)] [] [] μ r') := by
  subst e
  unfold fX5_push fX12_push
  have e18 : μ.1 3 18 = σ.1 36 18 := h.eq (by decide)
  refine zp2_ckl (zp2_ckr (zp2_ckr (zp2_bvr (fun t1 f1 => zp2_ckr ?_))))
  have q0 : zQ [5, 6] [(3, 18, 18), (3, 29, 32)] [] [] μ t1 := by subst f1; exact zQ.wi zQ.rf rfl
  have hm1 : zM2 σ t1 := h.1.keep zQ.rf (by subst f1; exact zQ.wi zQ.rf rfl)
  have g1 : t1.1 3 18 = (σ.1 36 18 - 1) &&& 65535 := by subst f1; show (μ.1 3 18 - 1) &&& 65535 = _; rw [e18]
  refine zp2_wr hm1 (by rw [show zgi t1 3 (18 : Int32).toNatClampNeg = (σ.1 36 18 - 1) &&& 65535 from g1, z_mm]; rfl) (z_hi8 hv) (z_hi hv) (fun s1 t2 hm2 q1 q2 => ?_)
  have g2 : t2.1 3 18 = (σ.1 36 18 - 1) &&& 65535 := (q2.1 3 18 rfl).trans g1
  have c2 : s1.1 36 18 = σ.1 36 18 := q1.1 36 18 rfl
  refine zp2_ckl (zp2_ckr (zp2_ckr (zp2_bvr (fun t3 f3 => zp2_ckr ?_))))
  have hm3 : zM2 s1 t3 := hm2.keep zQ.rf (by subst f3; exact zQ.wi zQ.rf rfl)
  have q3 : zQ [5, 6] [(3, 18, 18), (3, 29, 32)] [] [] μ t3 := by subst f3; exact zQ.wi (q0.tr (q2.mono rfl rfl)) rfl
  have g3 : t3.1 3 18 = (σ.1 36 18 - 2) &&& 65535 := by subst f3; show (t2.1 3 18 - 1) &&& 65535 = _; rw [g2, z_m2]
  refine zp2_wr hm3 (by rw [show zgi t3 3 (18 : Int32).toNatClampNeg = (σ.1 36 18 - 2) &&& 65535 from g3, z_mm, show zgi s1 36 (18 : Int32).toNatClampNeg = σ.1 36 18 from c2]) rfl (z_r8 _) (fun s2 t4 hm4 q4 q5 => ?_)
  have c4 : s2.1 36 18 = σ.1 36 18 := (q4.1 36 18 rfl).trans c2
  refine zp2_ckl (zp2_ckl (zp2_bvl (fun s3 f4 => zp2_some ?_)))
  have qc : zQ [15, 17, 19] [(36, 18, 18)] [] [] σ s3 := by subst f4; exact zQ.wi ((q1.tr q4).mono rfl rfl) rfl
  have qm : zQ [5, 6] [(3, 18, 18), (3, 29, 32)] [] [] μ t4 := q3.tr (q5.mono rfl rfl)
  refine ⟨h.fin hI [18] (hm4.keep (by subst f4; exact zQ.wi zQ.rf rfl) zQ.rf) (qc.mono rfl rfl) (qm.mono rfl rfl) rfl (zAl1 ⟨?_, ?_⟩) (h.2.2.1.of (qc.1 7 4 rfl) (qm.1 0 31 rfl)), qc, qm⟩
  · rw [(q5.1 3 18 rfl).trans g3]
    subst f4
    show _ = (s2.1 36 18 - 2) &&& 65535
    rw [c4]
  · subst f4
    exact zrg_w (by decide) (by decide) (z_r16 _)
theorem t_pop (hI : zIoK I) (h : zTT I σ μ) : zp2 (fX5_pop σ ) (fX12_pop μ ) (fun r r' => zTT I r.1 r'.1 ∧ r'.2 = r.2 ∧ zr 0 65535 r.2 ∧ zQ [] [(36, 18, 18)] [] [] σ r.1 ∧ zQ [] [(3, 18, 18)] [] [] μ r'.1) := by
  unfold fX5_pop fX12_pop
  have e18 : μ.1 3 18 = σ.1 36 18 := h.eq (by decide)
  refine zp2_ckl (zp2_ckr (zp2_rd h.1 (by rw [show zgi μ 3 (18 : Int32).toNatClampNeg = zgi σ 36 (18 : Int32).toNatClampNeg from e18]) (fun v hv => ?_)))
  refine zp2_ckl (zp2_ckr (zp2_ckr (zp2_bvr (fun t1 f1 => zp2_ckr ?_))))
  have hm1 : zM2 σ t1 := h.1.keep zQ.rf (by subst f1; exact zQ.wi zQ.rf rfl)
  have g1 : t1.1 3 18 = (σ.1 36 18 + 1) &&& 65535 := by subst f1; show (μ.1 3 18 + 1) &&& 65535 = _; rw [e18]
  refine zp2_rd hm1 (by rw [show zgi t1 3 (18 : Int32).toNatClampNeg = (σ.1 36 18 + 1) &&& 65535 from g1, z_mm]; rfl) (fun w hw => ?_)
  refine zp2_bvl (fun y ey => zp2_bvr (fun z ez => ?_))
  refine zp2_ckl (zp2_ckl (zp2_bvl (fun s2 f2 => zp2_ckr (zp2_ckr (zp2_bvr (fun t2 f3 => zp2_some ?_))))))
  have qc : zQ [] [(36, 18, 18)] [] [] σ s2 := by subst f2; exact zQ.wi zQ.rf rfl
  have qm : zQ [] [(3, 18, 18)] [] [] μ t2 := by subst f3; subst f1; exact zQ.wi (zQ.wi zQ.rf rfl) rfl
  refine ⟨h.upd hI [18] qc qm rfl (zAl1 ⟨?_, ?_⟩), ez.trans ey.symm, by rw [ey]; exact z_rw hv hw, qc, qm⟩
  · subst f2
    subst f3
    show (t1.1 3 18 + 1) &&& 65535 = (σ.1 36 18 + 2) &&& 65535
    rw [g1, z_p1]
  · subst f2
    exact zrg_w (by decide) (by decide) (z_r16 _)
theorem t_pair0 (h : zTT I σ μ) (hF : zF σ μ) : zp2 (fX5_pairAt σ 0) (fX12_pair μ 0) (fun r r' => r.1 = σ ∧ r'.1 = μ ∧ r'.2 = r.2 ∧ zr 0 65535 r.2) := by
  unfold fX5_pairAt fX12_pair
  refine zp2_ckl (zp2_ckl (zp2_ckr (zp2_ckr (zp2_some ⟨rfl, rfl, ?_, z_rw' (h.b (j := 0) (by decide)) (h.b (j := 1) (by decide))⟩))))
  show (μ.1 3 0 <<< ((8 : Int32) &&& 31)) ||| μ.1 3 1 = (σ.1 36 0 <<< ((8 : Int32) &&& 31)) ||| σ.1 36 1
  rw [h.eq (by decide), show μ.1 3 1 = σ.1 36 1 from hF]
theorem t_pairTo0 (hI : zIoK I) (h : zTT I σ μ) {v w : Int32} (e : w = v) : zp2 (fX5_putPairAt σ 0 v) (fX12_pairTo μ 0 w) (fun r r' => zTT I r r' ∧ zF r r' ∧ zQ [] [(36, 0, 0), (36, 1, 1)] [] [] σ r ∧ zQ [] [(3, 0, 0), (3, 1, 1)] [] [] μ r') := by
  subst e
  unfold fX5_putPairAt fX12_pairTo
  refine zp2_ckl (zp2_bvl (fun s1 f1 => zp2_ckl (zp2_bvl (fun s2 f2 => zp2_ckr (zp2_bvr (fun t1 g1 => zp2_ckr (zp2_bvr (fun t2 g2 => zp2_some ?_))))))))
  subst f2
  subst f1
  subst g2
  subst g1
  exact ⟨h.upd hI [0, 1] (zQ.wi (zQ.wi zQ.rf rfl) rfl) (zQ.wi (zQ.wi zQ.rf rfl) rfl) rfl (zAl2 ⟨rfl, zrg_b (Or.inl (by decide)) (z_r8 _)⟩ ⟨rfl, zrg_b (Or.inl (by decide)) (z_r8 _)⟩), rfl, zQ.wi (zQ.wi zQ.rf rfl) rfl, zQ.wi (zQ.wi zQ.rf rfl) rfl⟩
theorem t_pair2 (h : zTT I σ μ) : zp2 (fX5_pairAt σ 2) (fX12_pair μ 2) (fun r r' => r.1 = σ ∧ r'.1 = μ ∧ r'.2 = r.2 ∧ zr 0 65535 r.2) := by
  unfold fX5_pairAt fX12_pair
  refine zp2_ckl (zp2_ckl (zp2_ckr (zp2_ckr (zp2_some ⟨rfl, rfl, ?_, z_rw' (h.b (j := 2) (by decide)) (h.b (j := 3) (by decide))⟩))))
  show (μ.1 3 2 <<< ((8 : Int32) &&& 31)) ||| μ.1 3 3 = (σ.1 36 2 <<< ((8 : Int32) &&& 31)) ||| σ.1 36 3
  rw [h.eq (by decide), h.eq (by decide)]
theorem t_pairTo2 (hI : zIoK I) (h : zTT I σ μ) {v w : Int32} (e : w = v) : zp2 (fX5_putPairAt σ 2 v) (fX12_pairTo μ 2 w) (fun r r' => zTT I r r' ∧ zQ [] [(36, 2, 2), (36, 3, 3)] [] [] σ r ∧ zQ [] [(3, 2, 2), (3, 3, 3)] [] [] μ r') := by
  subst e
  unfold fX5_putPairAt fX12_pairTo
  refine zp2_ckl (zp2_bvl (fun s1 f1 => zp2_ckl (zp2_bvl (fun s2 f2 => zp2_ckr (zp2_bvr (fun t1 g1 => zp2_ckr (zp2_bvr (fun t2 g2 => zp2_some ?_))))))))
  subst f2
  subst f1
  subst g2
  subst g1
  exact ⟨h.upd hI [2, 3] (zQ.wi (zQ.wi zQ.rf rfl) rfl) (zQ.wi (zQ.wi zQ.rf rfl) rfl) rfl (zAl2 ⟨rfl, zrg_b (Or.inl (by decide)) (z_r8 _)⟩ ⟨rfl, zrg_b (Or.inl (by decide)) (z_r8 _)⟩), zQ.wi (zQ.wi zQ.rf rfl) rfl, zQ.wi (zQ.wi zQ.rf rfl) rfl⟩
theorem t_pair4 (h : zTT I σ μ) : zp2 (fX5_pairAt σ 4) (fX12_pair μ 4) (fun r r' => r.1 = σ ∧ r'.1 = μ ∧ r'.2 = r.2 ∧ zr 0 65535 r.2) := by
  unfold fX5_pairAt fX12_pair
  refine zp2_ckl (zp2_ckl (zp2_ckr (zp2_ckr (zp2_some ⟨rfl, rfl, ?_, z_rw' (h.b (j := 4) (by decide)) (h.b (j := 5) (by decide))⟩))))
  show (μ.1 3 4 <<< ((8 : Int32) &&& 31)) ||| μ.1 3 5 = (σ.1 36 4 <<< ((8 : Int32) &&& 31)) ||| σ.1 36 5
  rw [h.eq (by decide), h.eq (by decide)]
theorem t_pairTo4 (hI : zIoK I) (h : zTT I σ μ) {v w : Int32} (e : w = v) : zp2 (fX5_putPairAt σ 4 v) (fX12_pairTo μ 4 w) (fun r r' => zTT I r r' ∧ zQ [] [(36, 4, 4), (36, 5, 5)] [] [] σ r ∧ zQ [] [(3, 4, 4), (3, 5, 5)] [] [] μ r') := by
  subst e
  unfold fX5_putPairAt fX12_pairTo
  refine zp2_ckl (zp2_bvl (fun s1 f1 => zp2_ckl (zp2_bvl (fun s2 f2 => zp2_ckr (zp2_bvr (fun t1 g1 => zp2_ckr (zp2_bvr (fun t2 g2 => zp2_some ?_))))))))
  subst f2
  subst f1
  subst g2
  subst g1
  exact ⟨h.upd hI [4, 5] (zQ.wi (zQ.wi zQ.rf rfl) rfl) (zQ.wi (zQ.wi zQ.rf rfl) rfl) rfl (zAl2 ⟨rfl, zrg_b (Or.inl (by decide)) (z_r8 _)⟩ ⟨rfl, zrg_b (Or.inl (by decide)) (z_r8 _)⟩), zQ.wi (zQ.wi zQ.rf rfl) rfl, zQ.wi (zQ.wi zQ.rf rfl) rfl⟩
theorem t_pair6 (h : zTT I σ μ) : zp2 (fX5_pairAt σ 6) (fX12_pair μ 6) (fun r r' => r.1 = σ ∧ r'.1 = μ ∧ r'.2 = r.2 ∧ zr 0 65535 r.2) := by
  unfold fX5_pairAt fX12_pair
  refine zp2_ckl (zp2_ckl (zp2_ckr (zp2_ckr (zp2_some ⟨rfl, rfl, ?_, z_rw' (h.b (j := 6) (by decide)) (h.b (j := 7) (by decide))⟩))))
  show (μ.1 3 6 <<< ((8 : Int32) &&& 31)) ||| μ.1 3 7 = (σ.1 36 6 <<< ((8 : Int32) &&& 31)) ||| σ.1 36 7
  rw [h.eq (by decide), h.eq (by decide)]
theorem t_pairTo6 (hI : zIoK I) (h : zTT I σ μ) {v w : Int32} (e : w = v) : zp2 (fX5_putPairAt σ 6 v) (fX12_pairTo μ 6 w) (fun r r' => zTT I r r' ∧ zQ [] [(36, 6, 6), (36, 7, 7)] [] [] σ r ∧ zQ [] [(3, 6, 6), (3, 7, 7)] [] [] μ r') := by
  subst e
  unfold fX5_putPairAt fX12_pairTo
  refine zp2_ckl (zp2_bvl (fun s1 f1 => zp2_ckl (zp2_bvl (fun s2 f2 => zp2_ckr (zp2_bvr (fun t1 g1 => zp2_ckr (zp2_bvr (fun t2 g2 => zp2_some ?_))))))))
  subst f2
  subst f1
  subst g2
  subst g1
  exact ⟨h.upd hI [6, 7] (zQ.wi (zQ.wi zQ.rf rfl) rfl) (zQ.wi (zQ.wi zQ.rf rfl) rfl) rfl (zAl2 ⟨rfl, zrg_b (Or.inl (by decide)) (z_r8 _)⟩ ⟨rfl, zrg_b (Or.inl (by decide)) (z_r8 _)⟩), zQ.wi (zQ.wi zQ.rf rfl) rfl, zQ.wi (zQ.wi zQ.rf rfl) rfl⟩
theorem t_hl (h : zTT I σ μ) : zp2 (fX5_hl σ ) (fX12_hl μ ) (fun r r' => r.1 = σ ∧ r'.1 = μ ∧ r'.2 = r.2 ∧ zr 0 65535 r.2) := by
  unfold fX5_hl fX12_hl fX5_hl_27 fX12_hl_25
  rcases h.2.2.1 with ⟨a, b⟩ | ⟨a, b⟩ | ⟨a, b⟩
  · exact zp2_ifl (fun _ => zp2_ifr (fun _ => zp2_bii (t_pair6 h) (fun s v t w q => zp2_some q)) (fun q => absurd b q)) (fun q => absurd a q)
  · refine zp2_ifl (fun q => absurd (a.symm.trans q) (by decide)) (fun _ => zp2_ifr (fun q => absurd (b.symm.trans q) (by decide)) (fun _ => ?_))
    rw [show zgi σ 7 4 = 16 from a, show zgi μ 0 31 = 16 from b]
    exact zp2_ckl (zp2_ckr (zp2_some ⟨rfl, rfl, h.eq (j := 16) (by decide), h.w (j := 16) (by decide) (by decide)⟩))
  · refine zp2_ifl (fun q => absurd (a.symm.trans q) (by decide)) (fun _ => zp2_ifr (fun q => absurd (b.symm.trans q) (by decide)) (fun _ => ?_))
    rw [show zgi σ 7 4 = 17 from a, show zgi μ 0 31 = 17 from b]
    exact zp2_ckl (zp2_ckr (zp2_some ⟨rfl, rfl, h.eq (j := 17) (by decide), h.w (j := 17) (by decide) (by decide)⟩))
theorem t_hlTo (hI : zIoK I) (h : zTT I σ μ) {v w : Int32} (e : w = v) : zp2 (fX5_putHl σ v) (fX12_hlTo μ w) (fun r r' => zTT I r r' ∧ zQ [] [(36, 6, 7), (36, 16, 17)] [] [] σ r ∧ zQ [] [(3, 6, 7), (3, 16, 17)] [] [] μ r') := by
  unfold fX5_putHl fX12_hlTo fX5_putHl_32 fX12_hlTo_30
  rcases h.2.2.1 with ⟨a, b⟩ | ⟨a, b⟩ | ⟨a, b⟩
  · exact zp2_ifl (fun _ => zp2_ifr (fun _ => zp2_buu (t_pairTo6 hI h e) (fun s t q => zp2_some ⟨q.1, q.2.1.mono rfl rfl, q.2.2.mono rfl rfl⟩)) (fun q => absurd b q)) (fun q => absurd a q)
  · refine zp2_ifl (fun q => absurd (a.symm.trans q) (by decide)) (fun _ => zp2_ifr (fun q => absurd (b.symm.trans q) (by decide)) (fun _ => ?_))
    rw [show zgi σ 7 4 = 16 from a, show zgi μ 0 31 = 16 from b]
    refine zp2_ckl (zp2_bvl (fun s f => zp2_ckr (zp2_bvr (fun t g => zp2_some ?_))))
    subst f
    subst g
    subst e
    exact ⟨h.upd hI [16] (zQ.wi zQ.rf rfl) (zQ.wi zQ.rf rfl) rfl (zAl1 ⟨rfl, zrg_w (by decide) (by decide) (z_r16 _)⟩), zQ.wi zQ.rf rfl, zQ.wi zQ.rf rfl⟩
  · refine zp2_ifl (fun q => absurd (a.symm.trans q) (by decide)) (fun _ => zp2_ifr (fun q => absurd (b.symm.trans q) (by decide)) (fun _ => ?_))
    rw [show zgi σ 7 4 = 17 from a, show zgi μ 0 31 = 17 from b]
    refine zp2_ckl (zp2_bvl (fun s f => zp2_ckr (zp2_bvr (fun t g => zp2_some ?_))))
    subst f
    subst g
    subst e
    exact ⟨h.upd hI [17] (zQ.wi zQ.rf rfl) (zQ.wi zQ.rf rfl) rfl (zAl1 ⟨rfl, zrg_w (by decide) (by decide) (z_r16 _)⟩), zQ.wi zQ.rf rfl, zQ.wi zQ.rf rfl⟩
theorem t_rp (h : zTT I σ μ) {p : Int32} (hp : zr 0 3 p) : zp2 (fX5_pair σ p) (fX12_rp μ p) (fun r r' => r.1 = σ ∧ r'.1 = μ ∧ r'.2 = r.2 ∧ zr 0 65535 r.2) := by
  unfold fX5_pair fX12_rp fX12_rp_44
  refine zp2_if (fun _ => zp2_bii (t_pair2 h) (fun s v t w q => zp2_some q)) (fun _ => zp2_if (fun _ => zp2_bii (t_pair4 h) (fun s v t w q => zp2_some q)) (fun _ => zp2_if (fun _ => zp2_bii (t_hl h) (fun s v t w q => zp2_some q)) (fun _ => ?_)))
  exact zp2_ckl (zp2_ckr (zp2_some ⟨rfl, rfl, h.eq (j := 18) (by decide), h.w (j := 18) (by decide) (by decide)⟩))
theorem t_rpTo (hI : zIoK I) (h : zTT I σ μ) {p v w : Int32} (e : w = v) : zp2 (fX5_putPair σ p v) (fX12_rpTo μ p w) (fun r r' => zTT I r r' ∧ zQ [] [(36, 2, 7), (36, 16, 18)] [] [] σ r ∧ zQ [] [(3, 2, 7), (3, 16, 18)] [] [] μ r') := by
  unfold fX5_putPair fX12_rpTo fX5_putPair_65 fX12_rpTo_51
  refine zp2_if (fun _ => zp2_buu (t_pairTo2 hI h e) (fun s t q => zp2_some ⟨q.1, q.2.1.mono rfl rfl, q.2.2.mono rfl rfl⟩)) (fun _ => zp2_if (fun _ => zp2_buu (t_pairTo4 hI h e) (fun s t q => zp2_some ⟨q.1, q.2.1.mono rfl rfl, q.2.2.mono rfl rfl⟩)) (fun _ => zp2_if (fun _ => zp2_buu (t_hlTo hI h e) (fun s t q => zp2_some ⟨q.1, q.2.1.mono rfl rfl, q.2.2.mono rfl rfl⟩)) (fun _ => ?_)))
  refine zp2_ckl (zp2_bvl (fun s f => zp2_ckr (zp2_bvr (fun t g => zp2_some ?_))))
  subst f
  subst g
  subst e
  exact ⟨h.upd hI [18] (zQ.wi zQ.rf rfl) (zQ.wi zQ.rf rfl) rfl (zAl1 ⟨rfl, zrg_w (by decide) (by decide) (z_r16 _)⟩), zQ.wi zQ.rf rfl, zQ.wi zQ.rf rfl⟩
theorem p_m (h : zTT I σ μ) (hp : zPlc σ μ) : zpc (fX12_m μ ) (fun r => r = (μ, σ.1 7 5)) := by
  unfold fX12_m fX12_m_23
  rcases hp with ⟨a, b⟩ | ⟨a, b⟩
  · refine zpc_if (fun _ => zpc_bi (P := fun r => r = (μ, σ.1 7 5)) ?_ (fun s v e => zpc_some e)) (fun q => absurd a q)
    unfold fX12_pair
    refine zpc_ck (zpc_ck (zpc_some ?_))
    show (μ, (μ.1 3 6 <<< ((8 : Int32) &&& 31)) ||| μ.1 3 7) = _
    rw [b, h.eq (by decide), h.eq (by decide)]
  · refine zpc_if (fun q => absurd q a) (fun _ => zpc_ck (zpc_some ?_))
    show (μ, μ.1 3 20) = _
    rw [b]
theorem zr_hd {x c : Int32} {a b : Int} (h : zr a b x) (hc : c.toInt = a) : x = c ∨ zr (a + 1) b x := by
  by_cases q : x.toInt = a
  · exact Or.inl (Int32.toInt_inj.mp (by omega))
  · exact Or.inr ⟨by have := h.1; omega, h.2⟩
theorem zr_no9 {x : Int32} {a b : Int} {P : Prop} (h : zr a b x) (c : b < a) : P := by have := h.1; have := h.2; exfalso; omega
theorem z_shr8 {w : Int32} (h : zr 0 65535 w) : zr 0 255 (w >>> ((8 : Int32) &&& 31)) := z_hi h
theorem t_one (h : zTT I σ μ) (hp : zPlc σ μ) {k : Int32} (hk : zr 0 7 k) : zp2 (fX5_one σ k) (fX12_r μ k) (fun r r' => r.1 = σ ∧ r'.1 = μ ∧ r'.2 = r.2 ∧ zr 0 255 r.2) := by
  unfold fX5_one fX12_r fX5_one_63 fX5_one_96 fX12_r_73 fX12_r_74
  rcases zr_hd (c := 0) hk rfl with e | hk
  · subst e
    refine zp2_ifl (fun q => absurd q (by decide)) (fun _ => zp2_ifl (fun q => absurd q (by decide)) (fun _ => zp2_ifl (fun q => absurd q (by decide)) (fun _ => zp2_ifl (fun q => absurd q (by decide)) (fun _ => zp2_ckl ?_))))
    exact zp2_ifr (fun q => absurd q (by decide)) (fun _ => zp2_ifr (fun q => absurd q (by decide)) (fun _ => zp2_ifr (fun _ => zp2_ckr (zp2_some ⟨rfl, rfl, h.eq (j := 2) (by decide), h.b (j := 2) (by decide)⟩)) (fun _ => zp2_ifr (fun _ => zp2_ckr (zp2_some ⟨rfl, rfl, h.eq (j := 2) (by decide), h.b (j := 2) (by decide)⟩)) (fun q => absurd (by decide) q))))
  rcases zr_hd (c := 1) hk rfl with e | hk
  · subst e
    refine zp2_ifl (fun q => absurd q (by decide)) (fun _ => zp2_ifl (fun q => absurd q (by decide)) (fun _ => zp2_ifl (fun q => absurd q (by decide)) (fun _ => zp2_ifl (fun q => absurd q (by decide)) (fun _ => zp2_ckl ?_))))
    exact zp2_ifr (fun q => absurd q (by decide)) (fun _ => zp2_ifr (fun q => absurd q (by decide)) (fun _ => zp2_ifr (fun _ => zp2_ckr (zp2_some ⟨rfl, rfl, h.eq (j := 3) (by decide), h.b (j := 3) (by decide)⟩)) (fun _ => zp2_ifr (fun _ => zp2_ckr (zp2_some ⟨rfl, rfl, h.eq (j := 3) (by decide), h.b (j := 3) (by decide)⟩)) (fun q => absurd (by decide) q))))
  rcases zr_hd (c := 2) hk rfl with e | hk
  · subst e
    refine zp2_ifl (fun q => absurd q (by decide)) (fun _ => zp2_ifl (fun q => absurd q (by decide)) (fun _ => zp2_ifl (fun q => absurd q (by decide)) (fun _ => zp2_ifl (fun q => absurd q (by decide)) (fun _ => zp2_ckl ?_))))
    exact zp2_ifr (fun q => absurd q (by decide)) (fun _ => zp2_ifr (fun q => absurd q (by decide)) (fun _ => zp2_ifr (fun _ => zp2_ckr (zp2_some ⟨rfl, rfl, h.eq (j := 4) (by decide), h.b (j := 4) (by decide)⟩)) (fun _ => zp2_ifr (fun _ => zp2_ckr (zp2_some ⟨rfl, rfl, h.eq (j := 4) (by decide), h.b (j := 4) (by decide)⟩)) (fun q => absurd (by decide) q))))
  rcases zr_hd (c := 3) hk rfl with e | hk
  · subst e
    refine zp2_ifl (fun q => absurd q (by decide)) (fun _ => zp2_ifl (fun q => absurd q (by decide)) (fun _ => zp2_ifl (fun q => absurd q (by decide)) (fun _ => zp2_ifl (fun q => absurd q (by decide)) (fun _ => zp2_ckl ?_))))
    exact zp2_ifr (fun q => absurd q (by decide)) (fun _ => zp2_ifr (fun q => absurd q (by decide)) (fun _ => zp2_ifr (fun _ => zp2_ckr (zp2_some ⟨rfl, rfl, h.eq (j := 5) (by decide), h.b (j := 5) (by decide)⟩)) (fun _ => zp2_ifr (fun _ => zp2_ckr (zp2_some ⟨rfl, rfl, h.eq (j := 5) (by decide), h.b (j := 5) (by decide)⟩)) (fun q => absurd (by decide) q))))
  rcases zr_hd (c := 4) hk rfl with e | hk
  · subst e
    rcases h.2.2.1 with ⟨a, b⟩ | ⟨a, b⟩ | ⟨a, b⟩
    · refine zp2_ifl (fun _ => zp2_ifl (fun _ => zp2_ckl ?_) (fun q => absurd a q)) (fun q => absurd rfl q)
      rw [show zgi μ 0 31 = 0 from b]
      exact zp2_ifr (fun q => absurd q (by decide)) (fun _ => zp2_ifr (fun q => absurd q (by decide)) (fun _ => zp2_ifr (fun _ => zp2_ckr (zp2_some ⟨rfl, rfl, h.eq (j := 6) (by decide), h.b (j := 6) (by decide)⟩)) (fun q => absurd (by decide) q)))
    · refine zp2_ifl (fun _ => zp2_ifl (fun q => absurd (a.symm.trans q) (by decide)) (fun _ => zp2_ckl ?_)) (fun q => absurd rfl q)
      rw [show zgi σ 7 4 = 16 from a, show zgi μ 0 31 = 16 from b]
      refine zp2_ifr (fun q => absurd q (by decide)) (fun _ => zp2_ifr (fun q => absurd q (by decide)) (fun _ => zp2_ifr (fun q => absurd q (by decide)) (fun _ => zp2_ifr (fun q => absurd q (by decide)) (fun _ => zp2_ifr (fun _ => zp2_ckr (zp2_some ⟨rfl, rfl, ?_, z_shr8 (h.w (j := 16) (by decide) (by decide))⟩)) (fun q => absurd rfl q)))))
      show μ.1 3 16 >>> ((8 : Int32) &&& 31) = σ.1 36 16 >>> ((8 : Int32) &&& 31)
      rw [h.eq (by decide)]
    · refine zp2_ifl (fun _ => zp2_ifl (fun q => absurd (a.symm.trans q) (by decide)) (fun _ => zp2_ckl ?_)) (fun q => absurd rfl q)
      rw [show zgi σ 7 4 = 17 from a, show zgi μ 0 31 = 17 from b]
      refine zp2_ifr (fun q => absurd q (by decide)) (fun _ => zp2_ifr (fun q => absurd q (by decide)) (fun _ => zp2_ifr (fun q => absurd q (by decide)) (fun _ => zp2_ifr (fun q => absurd q (by decide)) (fun _ => zp2_ifr (fun _ => zp2_ckr (zp2_some ⟨rfl, rfl, ?_, z_shr8 (h.w (j := 17) (by decide) (by decide))⟩)) (fun q => absurd rfl q)))))
      show μ.1 3 17 >>> ((8 : Int32) &&& 31) = σ.1 36 17 >>> ((8 : Int32) &&& 31)
      rw [h.eq (by decide)]
  rcases zr_hd (c := 5) hk rfl with e | hk
  · subst e
    rcases h.2.2.1 with ⟨a, b⟩ | ⟨a, b⟩ | ⟨a, b⟩
    · refine zp2_ifl (fun q => absurd q (by decide)) (fun _ => zp2_ifl (fun _ => zp2_ifl (fun _ => zp2_ckl ?_) (fun q => absurd a q)) (fun q => absurd rfl q))
      rw [show zgi μ 0 31 = 0 from b]
      exact zp2_ifr (fun q => absurd q (by decide)) (fun _ => zp2_ifr (fun q => absurd q (by decide)) (fun _ => zp2_ifr (fun _ => zp2_ckr (zp2_some ⟨rfl, rfl, h.eq (j := 7) (by decide), h.b (j := 7) (by decide)⟩)) (fun q => absurd (by decide) q)))
    · refine zp2_ifl (fun q => absurd q (by decide)) (fun _ => zp2_ifl (fun _ => zp2_ifl (fun q => absurd (a.symm.trans q) (by decide)) (fun _ => zp2_ckl ?_)) (fun q => absurd rfl q))
      rw [show zgi σ 7 4 = 16 from a, show zgi μ 0 31 = 16 from b]
      refine zp2_ifr (fun q => absurd q (by decide)) (fun _ => zp2_ifr (fun q => absurd q (by decide)) (fun _ => zp2_ifr (fun q => absurd q (by decide)) (fun _ => zp2_ifr (fun q => absurd q (by decide)) (fun _ => zp2_ifr (fun q => absurd q (by decide)) (fun _ => zp2_ckr (zp2_some ⟨rfl, rfl, ?_, z_r8 _⟩))))))
      show μ.1 3 16 &&& 255 = σ.1 36 16 &&& 255
      rw [h.eq (by decide)]
    · refine zp2_ifl (fun q => absurd q (by decide)) (fun _ => zp2_ifl (fun _ => zp2_ifl (fun q => absurd (a.symm.trans q) (by decide)) (fun _ => zp2_ckl ?_)) (fun q => absurd rfl q))
      rw [show zgi σ 7 4 = 17 from a, show zgi μ 0 31 = 17 from b]
      refine zp2_ifr (fun q => absurd q (by decide)) (fun _ => zp2_ifr (fun q => absurd q (by decide)) (fun _ => zp2_ifr (fun q => absurd q (by decide)) (fun _ => zp2_ifr (fun q => absurd q (by decide)) (fun _ => zp2_ifr (fun q => absurd q (by decide)) (fun _ => zp2_ckr (zp2_some ⟨rfl, rfl, ?_, z_r8 _⟩))))))
      show μ.1 3 17 &&& 255 = σ.1 36 17 &&& 255
      rw [h.eq (by decide)]
  rcases zr_hd (c := 6) hk rfl with e | hk
  · subst e
    refine zp2_ifl (fun q => absurd q (by decide)) (fun _ => zp2_ifl (fun q => absurd q (by decide)) (fun _ => zp2_ifl (fun _ => zp2_ifr (fun _ => ?_) (fun q => absurd rfl q)) (fun q => absurd rfl q)))
    refine zp2_bir (p_m h hp) (fun t w et => ?_)
    cases et
    exact zp2_rd h.1 rfl (fun v hv => zp2_some ⟨rfl, rfl, rfl, hv⟩)
  rcases zr_hd (c := 7) hk rfl with e | hk
  · subst e
    refine zp2_ifl (fun q => absurd q (by decide)) (fun _ => zp2_ifl (fun q => absurd q (by decide)) (fun _ => zp2_ifl (fun q => absurd q (by decide)) (fun _ => zp2_ifl (fun _ => zp2_ckl ?_) (fun q => absurd rfl q))))
    exact zp2_ifr (fun q => absurd q (by decide)) (fun _ => zp2_ifr (fun _ => zp2_ckr (zp2_some ⟨rfl, rfl, h.eq (j := 0) (by decide), h.b (j := 0) (by decide)⟩)) (fun q => absurd rfl q))
  exact zr_no9 hk (by decide)
theorem t_putOne (hI : zIoK I) (h : zTT I σ μ) (hp : zPlc σ μ) {k v w : Int32} (hk : zr 0 7 k) (e : w &&& 255 = v) (hv : zr 0 255 v) : zp2 (fX5_putOne σ k v) (fX12_rTo μ k w) (fun r r' => zTT I r r' ∧ zQ [15, 17, 19] [(36, 0, 0), (36, 2, 7), (36, 16, 17)] [] [] σ r ∧ zQ [5, 6] [(3, 0, 0), (3, 2, 7), (3, 16, 17), (3, 29, 32)] [] [] μ r') := by
  unfold fX5_putOne fX12_rTo fX5_putOne_88 fX12_rTo_113 fX12_rTo_104 fX12_rTo_100 fX5_putPairHalf fX5_putPairHalf_68 fX5_putPairHalf_69
  refine zp2_bvr (fun y ey => ?_)
  have ey : y = v := ey.trans e
  subst ey
  rcases zr_hd (c := 0) hk rfl with e1 | hk
  · subst e1
    have fin : zp2 (zck (zin (2 + (0 &&& 3)) 29) (zbv (zsi σ 36 ((2 + (0 &&& 3) : Int32).toNatClampNeg) y) (fun σ5 => some σ5))) (zck (zin (2 + 0) 1048) (zbv (zsi μ 3 ((2 + 0 : Int32).toNatClampNeg) y) (fun σ1 => some σ1))) (fun r r' => zTT I r r' ∧ zQ [15, 17, 19] [(36, 0, 0), (36, 2, 7), (36, 16, 17)] [] [] σ r ∧ zQ [5, 6] [(3, 0, 0), (3, 2, 7), (3, 16, 17), (3, 29, 32)] [] [] μ r') := by
      refine zp2_ckl (zp2_bvl (fun s f => zp2_ckr (zp2_bvr (fun t g => zp2_some ?_))))
      subst f
      subst g
      exact ⟨h.upd hI [2] (zQ.wi zQ.rf rfl) (zQ.wi zQ.rf rfl) rfl (zAl1 ⟨rfl, zrg_b (Or.inl (by decide)) hv⟩), zQ.wi zQ.rf rfl, zQ.wi zQ.rf rfl⟩
    exact zp2_ifl (fun q => absurd q (by decide)) (fun _ => zp2_ifl (fun q => absurd q (by decide)) (fun _ => zp2_ifl (fun q => absurd q (by decide)) (fun _ => zp2_ifl (fun q => absurd q (by decide)) (fun _ => zp2_ifr (fun q => absurd q (by decide)) (fun _ => zp2_ifr (fun q => absurd q (by decide)) (fun _ => zp2_ifr (fun _ => fin) (fun _ => zp2_ifr (fun _ => fin) (fun q => absurd (by decide) q))))))))
  rcases zr_hd (c := 1) hk rfl with e1 | hk
  · subst e1
    have fin : zp2 (zck (zin (2 + (1 &&& 3)) 29) (zbv (zsi σ 36 ((2 + (1 &&& 3) : Int32).toNatClampNeg) y) (fun σ5 => some σ5))) (zck (zin (2 + 1) 1048) (zbv (zsi μ 3 ((2 + 1 : Int32).toNatClampNeg) y) (fun σ1 => some σ1))) (fun r r' => zTT I r r' ∧ zQ [15, 17, 19] [(36, 0, 0), (36, 2, 7), (36, 16, 17)] [] [] σ r ∧ zQ [5, 6] [(3, 0, 0), (3, 2, 7), (3, 16, 17), (3, 29, 32)] [] [] μ r') := by
      refine zp2_ckl (zp2_bvl (fun s f => zp2_ckr (zp2_bvr (fun t g => zp2_some ?_))))
      subst f
      subst g
      exact ⟨h.upd hI [3] (zQ.wi zQ.rf rfl) (zQ.wi zQ.rf rfl) rfl (zAl1 ⟨rfl, zrg_b (Or.inl (by decide)) hv⟩), zQ.wi zQ.rf rfl, zQ.wi zQ.rf rfl⟩
    exact zp2_ifl (fun q => absurd q (by decide)) (fun _ => zp2_ifl (fun q => absurd q (by decide)) (fun _ => zp2_ifl (fun q => absurd q (by decide)) (fun _ => zp2_ifl (fun q => absurd q (by decide)) (fun _ => zp2_ifr (fun q => absurd q (by decide)) (fun _ => zp2_ifr (fun q => absurd q (by decide)) (fun _ => zp2_ifr (fun _ => fin) (fun _ => zp2_ifr (fun _ => fin) (fun q => absurd (by decide) q))))))))
  rcases zr_hd (c := 2) hk rfl with e1 | hk
  · subst e1
    have fin : zp2 (zck (zin (2 + (2 &&& 3)) 29) (zbv (zsi σ 36 ((2 + (2 &&& 3) : Int32).toNatClampNeg) y) (fun σ5 => some σ5))) (zck (zin (2 + 2) 1048) (zbv (zsi μ 3 ((2 + 2 : Int32).toNatClampNeg) y) (fun σ1 => some σ1))) (fun r r' => zTT I r r' ∧ zQ [15, 17, 19] [(36, 0, 0), (36, 2, 7), (36, 16, 17)] [] [] σ r ∧ zQ [5, 6] [(3, 0, 0), (3, 2, 7), (3, 16, 17), (3, 29, 32)] [] [] μ r') := by
      refine zp2_ckl (zp2_bvl (fun s f => zp2_ckr (zp2_bvr (fun t g => zp2_some ?_))))
      subst f
      subst g
      exact ⟨h.upd hI [4] (zQ.wi zQ.rf rfl) (zQ.wi zQ.rf rfl) rfl (zAl1 ⟨rfl, zrg_b (Or.inl (by decide)) hv⟩), zQ.wi zQ.rf rfl, zQ.wi zQ.rf rfl⟩
    exact zp2_ifl (fun q => absurd q (by decide)) (fun _ => zp2_ifl (fun q => absurd q (by decide)) (fun _ => zp2_ifl (fun q => absurd q (by decide)) (fun _ => zp2_ifl (fun q => absurd q (by decide)) (fun _ => zp2_ifr (fun q => absurd q (by decide)) (fun _ => zp2_ifr (fun q => absurd q (by decide)) (fun _ => zp2_ifr (fun _ => fin) (fun _ => zp2_ifr (fun _ => fin) (fun q => absurd (by decide) q))))))))
  rcases zr_hd (c := 3) hk rfl with e1 | hk
  · subst e1
    have fin : zp2 (zck (zin (2 + (3 &&& 3)) 29) (zbv (zsi σ 36 ((2 + (3 &&& 3) : Int32).toNatClampNeg) y) (fun σ5 => some σ5))) (zck (zin (2 + 3) 1048) (zbv (zsi μ 3 ((2 + 3 : Int32).toNatClampNeg) y) (fun σ1 => some σ1))) (fun r r' => zTT I r r' ∧ zQ [15, 17, 19] [(36, 0, 0), (36, 2, 7), (36, 16, 17)] [] [] σ r ∧ zQ [5, 6] [(3, 0, 0), (3, 2, 7), (3, 16, 17), (3, 29, 32)] [] [] μ r') := by
      refine zp2_ckl (zp2_bvl (fun s f => zp2_ckr (zp2_bvr (fun t g => zp2_some ?_))))
      subst f
      subst g
      exact ⟨h.upd hI [5] (zQ.wi zQ.rf rfl) (zQ.wi zQ.rf rfl) rfl (zAl1 ⟨rfl, zrg_b (Or.inl (by decide)) hv⟩), zQ.wi zQ.rf rfl, zQ.wi zQ.rf rfl⟩
    exact zp2_ifl (fun q => absurd q (by decide)) (fun _ => zp2_ifl (fun q => absurd q (by decide)) (fun _ => zp2_ifl (fun q => absurd q (by decide)) (fun _ => zp2_ifl (fun q => absurd q (by decide)) (fun _ => zp2_ifr (fun q => absurd q (by decide)) (fun _ => zp2_ifr (fun q => absurd q (by decide)) (fun _ => zp2_ifr (fun _ => fin) (fun _ => zp2_ifr (fun _ => fin) (fun q => absurd (by decide) q))))))))
  rcases zr_hd (c := 4) hk rfl with e1 | hk
  · subst e1
    rcases h.2.2.1 with ⟨a, b⟩ | ⟨a, b⟩ | ⟨a, b⟩
    · refine zp2_ifl (fun _ => ?_) (fun q => absurd rfl q)
      rw [show zgi μ 0 31 = 0 from b]
      refine zp2_ifr (fun q => absurd q (by decide)) (fun _ => zp2_ifr (fun q => absurd q (by decide)) (fun _ => zp2_ifr (fun _ => ?_) (fun q => absurd (by decide) q)))
      refine zp2_bul (P := fun r => r = zsi σ 36 6 y) (zpc_if (fun _ => zpc_ck (zpc_bv (fun s f => zpc_some f))) (fun q => absurd a q)) (fun s f => zp2_ckr (zp2_bvr (fun t g => zp2_some ?_)))
      subst f
      subst g
      exact ⟨h.upd hI [6] (zQ.wi zQ.rf rfl) (zQ.wi zQ.rf rfl) rfl (zAl1 ⟨rfl, zrg_b (Or.inl (by decide)) hv⟩), zQ.wi zQ.rf rfl, zQ.wi zQ.rf rfl⟩
    · refine zp2_ifl (fun _ => ?_) (fun q => absurd rfl q)
      refine zp2_bul (P := fun r => r = zsi σ 36 16 ((y <<< ((8 : Int32) &&& 31)) ||| (σ.1 36 16 &&& 255))) ?_ (fun s f => ?_)
      · refine zpc_if (fun q => absurd (a.symm.trans q) (by decide)) (fun _ => zpc_if (fun _ => zpc_ck ?_) (fun q => absurd rfl q))
        rw [show zgi σ 7 4 = 16 from a]
        exact zpc_ck (zpc_bv (fun s f => zpc_some f))
      rw [show zgi μ 0 31 = 16 from b]
      refine zp2_ifr (fun q => absurd q (by decide)) (fun _ => zp2_ifr (fun q => absurd q (by decide)) (fun _ => zp2_ifr (fun q => absurd q (by decide)) (fun _ => zp2_ifr (fun q => absurd q (by decide)) (fun _ => zp2_ifr (fun _ => zp2_ckr ?_) (fun q => absurd rfl q)))))
      refine zp2_ckr (zp2_bvr (fun t g => zp2_some ?_))
      subst f
      subst g
      refine ⟨h.upd hI [16] (zQ.wi zQ.rf rfl) (zQ.wi zQ.rf rfl) rfl (zAl1 ⟨?_, zrg_w (by decide) (by decide) (z_rw' hv (z_r8 _))⟩), zQ.wi zQ.rf rfl, zQ.wi zQ.rf rfl⟩
      show (y <<< ((8 : Int32) &&& 31)) ||| (μ.1 3 16 &&& 255) = (y <<< ((8 : Int32) &&& 31)) ||| (σ.1 36 16 &&& 255)
      rw [h.eq (by decide)]
    · refine zp2_ifl (fun _ => ?_) (fun q => absurd rfl q)
      refine zp2_bul (P := fun r => r = zsi σ 36 17 ((y <<< ((8 : Int32) &&& 31)) ||| (σ.1 36 17 &&& 255))) ?_ (fun s f => ?_)
      · refine zpc_if (fun q => absurd (a.symm.trans q) (by decide)) (fun _ => zpc_if (fun _ => zpc_ck ?_) (fun q => absurd rfl q))
        rw [show zgi σ 7 4 = 17 from a]
        exact zpc_ck (zpc_bv (fun s f => zpc_some f))
      rw [show zgi μ 0 31 = 17 from b]
      refine zp2_ifr (fun q => absurd q (by decide)) (fun _ => zp2_ifr (fun q => absurd q (by decide)) (fun _ => zp2_ifr (fun q => absurd q (by decide)) (fun _ => zp2_ifr (fun q => absurd q (by decide)) (fun _ => zp2_ifr (fun _ => zp2_ckr ?_) (fun q => absurd rfl q)))))
      refine zp2_ckr (zp2_bvr (fun t g => zp2_some ?_))
      subst f
      subst g
      refine ⟨h.upd hI [17] (zQ.wi zQ.rf rfl) (zQ.wi zQ.rf rfl) rfl (zAl1 ⟨?_, zrg_w (by decide) (by decide) (z_rw' hv (z_r8 _))⟩), zQ.wi zQ.rf rfl, zQ.wi zQ.rf rfl⟩
      show (y <<< ((8 : Int32) &&& 31)) ||| (μ.1 3 17 &&& 255) = (y <<< ((8 : Int32) &&& 31)) ||| (σ.1 36 17 &&& 255)
      rw [h.eq (by decide)]
  rcases zr_hd (c := 5) hk rfl with e1 | hk
  · subst e1
    rcases h.2.2.1 with ⟨a, b⟩ | ⟨a, b⟩ | ⟨a, b⟩
    · refine zp2_ifl (fun q => absurd q (by decide)) (fun _ => zp2_ifl (fun _ => ?_) (fun q => absurd rfl q))
      rw [show zgi μ 0 31 = 0 from b]
      refine zp2_ifr (fun q => absurd q (by decide)) (fun _ => zp2_ifr (fun q => absurd q (by decide)) (fun _ => zp2_ifr (fun _ => ?_) (fun q => absurd (by decide) q)))
      refine zp2_bul (P := fun r => r = zsi σ 36 7 y) (zpc_if (fun _ => zpc_ck (zpc_bv (fun s f => zpc_some f))) (fun q => absurd a q)) (fun s f => zp2_ckr (zp2_bvr (fun t g => zp2_some ?_)))
      subst f
      subst g
      exact ⟨h.upd hI [7] (zQ.wi zQ.rf rfl) (zQ.wi zQ.rf rfl) rfl (zAl1 ⟨rfl, zrg_b (Or.inl (by decide)) hv⟩), zQ.wi zQ.rf rfl, zQ.wi zQ.rf rfl⟩
    · refine zp2_ifl (fun q => absurd q (by decide)) (fun _ => zp2_ifl (fun _ => ?_) (fun q => absurd rfl q))
      refine zp2_bul (P := fun r => r = zsi σ 36 16 ((σ.1 36 16 &&& 65280) ||| y)) ?_ (fun s f => ?_)
      · refine zpc_if (fun q => absurd (a.symm.trans q) (by decide)) (fun _ => zpc_if (fun q => absurd q (by decide)) (fun _ => zpc_ck ?_))
        rw [show zgi σ 7 4 = 16 from a]
        exact zpc_ck (zpc_bv (fun s f => zpc_some f))
      rw [show zgi μ 0 31 = 16 from b]
      refine zp2_ifr (fun q => absurd q (by decide)) (fun _ => zp2_ifr (fun q => absurd q (by decide)) (fun _ => zp2_ifr (fun q => absurd q (by decide)) (fun _ => zp2_ifr (fun q => absurd q (by decide)) (fun _ => zp2_ifr (fun q => absurd q (by decide)) (fun _ => zp2_ckr ?_)))))
      refine zp2_ckr (zp2_bvr (fun t g => zp2_some ?_))
      subst f
      subst g
      refine ⟨h.upd hI [16] (zQ.wi zQ.rf rfl) (zQ.wi zQ.rf rfl) rfl (zAl1 ⟨?_, zrg_w (by decide) (by decide) (zr_or (lo := 0) (hi := 65535) 16 (zr_andr (lo := 0) (hi := 65280) (zr_c (lo := 65280) (hi := 65280) (by decide)) (by decide)) hv (by decide))⟩), zQ.wi zQ.rf rfl, zQ.wi zQ.rf rfl⟩
      show (μ.1 3 16 &&& 65280) ||| y = (σ.1 36 16 &&& 65280) ||| y
      rw [h.eq (by decide)]
    · refine zp2_ifl (fun q => absurd q (by decide)) (fun _ => zp2_ifl (fun _ => ?_) (fun q => absurd rfl q))
      refine zp2_bul (P := fun r => r = zsi σ 36 17 ((σ.1 36 17 &&& 65280) ||| y)) ?_ (fun s f => ?_)
      · refine zpc_if (fun q => absurd (a.symm.trans q) (by decide)) (fun _ => zpc_if (fun q => absurd q (by decide)) (fun _ => zpc_ck ?_))
        rw [show zgi σ 7 4 = 17 from a]
        exact zpc_ck (zpc_bv (fun s f => zpc_some f))
      rw [show zgi μ 0 31 = 17 from b]
      refine zp2_ifr (fun q => absurd q (by decide)) (fun _ => zp2_ifr (fun q => absurd q (by decide)) (fun _ => zp2_ifr (fun q => absurd q (by decide)) (fun _ => zp2_ifr (fun q => absurd q (by decide)) (fun _ => zp2_ifr (fun q => absurd q (by decide)) (fun _ => zp2_ckr ?_)))))
      refine zp2_ckr (zp2_bvr (fun t g => zp2_some ?_))
      subst f
      subst g
      refine ⟨h.upd hI [17] (zQ.wi zQ.rf rfl) (zQ.wi zQ.rf rfl) rfl (zAl1 ⟨?_, zrg_w (by decide) (by decide) (zr_or (lo := 0) (hi := 65535) 16 (zr_andr (lo := 0) (hi := 65280) (zr_c (lo := 65280) (hi := 65280) (by decide)) (by decide)) hv (by decide))⟩), zQ.wi zQ.rf rfl, zQ.wi zQ.rf rfl⟩
      show (μ.1 3 17 &&& 65280) ||| y = (σ.1 36 17 &&& 65280) ||| y
      rw [h.eq (by decide)]
  rcases zr_hd (c := 6) hk rfl with e1 | hk
  · subst e1
    refine zp2_ifl (fun q => absurd q (by decide)) (fun _ => zp2_ifl (fun q => absurd q (by decide)) (fun _ => zp2_ifl (fun _ => zp2_ifr (fun _ => ?_) (fun q => absurd rfl q)) (fun q => absurd rfl q)))
    refine zp2_bir (p_m h hp) (fun t w et => ?_)
    cases et
    refine zp2_wr h.1 rfl (z_m255 hv) hv (fun s t hm q1 q2 => zp2_some ⟨h.fin hI [] hm (q1.mono rfl rfl) (q2.mono rfl rfl) rfl zAl0 (h.2.2.1.of (q1.1 7 4 rfl) (q2.1 0 31 rfl)), q1.mono rfl rfl, q2.mono rfl rfl⟩)
  rcases zr_hd (c := 7) hk rfl with e1 | hk
  · subst e1
    refine zp2_ifl (fun q => absurd q (by decide)) (fun _ => zp2_ifl (fun q => absurd q (by decide)) (fun _ => zp2_ifl (fun q => absurd q (by decide)) (fun _ => zp2_ifl (fun _ => zp2_ckl ?_) (fun q => absurd rfl q))))
    refine zp2_ifr (fun q => absurd q (by decide)) (fun _ => zp2_ifr (fun _ => zp2_ckr ?_) (fun q => absurd rfl q))
    refine zp2_bvl (fun s f => zp2_bvr (fun t g => zp2_some ?_))
    subst f
    subst g
    exact ⟨h.upd hI [0] (zQ.wi zQ.rf rfl) (zQ.wi zQ.rf rfl) rfl (zAl1 ⟨rfl, zrg_b (Or.inl (by decide)) hv⟩), zQ.wi zQ.rf rfl, zQ.wi zQ.rf rfl⟩
  exact zr_no9 hk (by decide)
end ZT4
