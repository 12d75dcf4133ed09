/-! ED -/
theorem zp2_bulp {α β : Type} {o : Option zSt} {p : Option β} {f : zSt → Option α} {P : zSt → β → Prop} {Q : α → β → Prop} (h : zp2 o p P) (k : ∀ s b, P s b → zp2 (f s) (some b) Q) : zp2 (zbu o f) p Q := by
  intro a b ea eb
  cases e : o with
  | none => rw [e] at ea; cases ea
  | some r =>
    rw [e] at ea
    exact k r b (h r b e eb) a b ea rfl
theorem v_inf : ∀ i : Fin 256, ∀ c : Bool, zfl (d7 (Int32.ofNat i.val)) (d6 (Int32.ofNat i.val)) (d5 (Int32.ofNat i.val)) false (d3 (Int32.ofNat i.val)) (bc (gev (Int32.ofNat i.val))) false c = ((bif c then 1 else 0) ||| cby (Int32.ofNat i.val)) ||| cpar (Int32.ofNat i.val) := by decide +kernel
theorem v_in {f w : Int32} (hf : zr 0 255 f) (hw : zr 0 255 w) : pt (pt (pt (gby f w) 2 (gev w)) 4 0) 1 0 = ((f &&& 1) ||| cby w) ||| cpar w := by
  rw [z_f1 hf]
  obtain ⟨i, e⟩ := z_byteF hw
  subst e
  rw [← v_inf i]
  conv => lhs; rw [fl_of hf, fl_by, pt_2, pt_4, pt_1]
  rfl
theorem r_in {f w : Int32} (hf : zr 0 255 f) (hw : zr 0 255 w) : zr 0 255 (((f &&& 1) ||| cby w) ||| cpar w) := by
  rw [← v_in hf hw, fl_of hf, fl_by, pt_2, pt_4, pt_1]
  exact zfl_r _ _ _ _ _ _ _ _
theorem v_irf : ∀ i : Fin 256, ∀ c o : Bool, zfl (d7 (Int32.ofNat i.val)) (d6 (Int32.ofNat i.val)) (d5 (Int32.ofNat i.val)) false (d3 (Int32.ofNat i.val)) o false c = ((bif c then 1 else 0) ||| cby (Int32.ofNat i.val)) ||| (bif o then 4 else 0) := by decide +kernel
theorem v_ir {f w : Int32} {K : Prop} {d : Decidable K} (hf : zr 0 255 f) (hw : zr 0 255 w) : pt (pt (pt (gby f w) 2 (@ite _ K d 1 0)) 4 0) 1 0 = ((f &&& 1) ||| cby w) ||| (@ite _ K d 4 0) := by
  rw [z_f1 hf]
  obtain ⟨i, e⟩ := z_byteF hw
  subst e
  have eo : (@ite _ K d (4 : Int32) 0) = bif bc (@ite _ K d 1 0) then 4 else 0 := by
    by_cases q : K
    · rw [if_pos q, if_pos q]; rfl
    · rw [if_neg q, if_neg q]; rfl
  rw [eo, ← v_irf i]
  conv => lhs; rw [fl_of hf, fl_by, pt_2, pt_4, pt_1]
  rfl
theorem r_ir {f w : Int32} {K : Prop} {d : Decidable K} (hf : zr 0 255 f) (hw : zr 0 255 w) : zr 0 255 (((f &&& 1) ||| cby w) ||| (@ite _ K d 4 0)) := by
  rw [← v_ir hf hw, fl_of hf, fl_by, pt_2, pt_4, pt_1]
  exact zfl_r _ _ _ _ _ _ _ _
section ZED
variable {I : zSt → zSt → Prop} {σ μ : zSt}
theorem p_pC2 : zpc (fX5_pairAt σ 2) (fun r => r = (σ, (σ.1 36 2 <<< ((8 : Int32) &&& 31)) ||| σ.1 36 3)) := by
  unfold fX5_pairAt
  exact zpc_ck (zpc_ck (zpc_some rfl))
theorem p_pM2 : zpc (fX12_pair μ 2) (fun r => r = (μ, (μ.1 3 2 <<< ((8 : Int32) &&& 31)) ||| μ.1 3 3)) := by
  unfold fX12_pair
  exact zpc_ck (zpc_ck (zpc_some rfl))
theorem p_pC4 : zpc (fX5_pairAt σ 4) (fun r => r = (σ, (σ.1 36 4 <<< ((8 : Int32) &&& 31)) ||| σ.1 36 5)) := by
  unfold fX5_pairAt
  exact zpc_ck (zpc_ck (zpc_some rfl))
theorem p_pM4 : zpc (fX12_pair μ 4) (fun r => r = (μ, (μ.1 3 4 <<< ((8 : Int32) &&& 31)) ||| μ.1 3 5)) := by
  unfold fX12_pair
  exact zpc_ck (zpc_ck (zpc_some rfl))
theorem p_pC6 : zpc (fX5_pairAt σ 6) (fun r => r = (σ, (σ.1 36 6 <<< ((8 : Int32) &&& 31)) ||| σ.1 36 7)) := by
  unfold fX5_pairAt
  exact zpc_ck (zpc_ck (zpc_some rfl))
theorem p_pM6 : zpc (fX12_pair μ 6) (fun r => r = (μ, (μ.1 3 6 <<< ((8 : Int32) &&& 31)) ||| μ.1 3 7)) := by
  unfold fX12_pair
  exact zpc_ck (zpc_ck (zpc_some rfl))
theorem t_in26 (hI : zIoK I) (h : zTT I σ μ) (hF : zF σ μ) {v x : Int32} (rv : zr 0 255 v) (hx : σ.1 36 20 = x) : zp2 (fX5_takeFromPort_26 σ v) (fX12_more_133 μ x v) (fun s b => zEnq I (s, 12) b) := by
  have ef : μ.1 3 1 = σ.1 36 1 := hF
  have hf : zr 0 255 (σ.1 36 1) := h.b (by decide)
  unfold fX5_takeFromPort_26 fX12_more_133
  refine zp2_ckl (zp2_bil p_byC (fun s1 v1 e1 => ?_))
  cases e1
  refine zp2_bil p_parC (fun s1 v1 e1 => ?_)
  cases e1
  refine zp2_ckl (zp2_bvl (fun s2 f2 => ?_))
  refine zp2_bur p_by' (fun t1 e1 => ?_)
  rw [ef] at e1
  subst e1
  refine zp2_bir p_even (fun t1 v1 e1 => ?_)
  cases e1
  refine zp2_bur p_put (fun t1 e1 => ?_)
  subst e1
  refine zp2_bur p_put (fun t1 e1 => ?_)
  subst e1
  refine zp2_bur p_put (fun t1 e1 => zp2_ckr (zp2_bvr (fun t2 g2 => zp2_some ?_)))
  rw [v_in hf rv] at e1
  subst e1
  subst g2
  subst f2
  refine ⟨((h.onC hI (Or.inl rfl) (zrg_b (Or.inl (by decide)) (r_in hf rv))).onM hI (Or.inl rfl)).onM hI (Or.inr rfl), rfl, ?_, rfl⟩
  exact hx.symm
theorem t_edin (hI : zIoK I) (hPo : zPorts I) (h : zTT I σ μ) (hF : zF σ μ) (hp : zPlc σ μ) {y : Int32} (hy : zr 0 7 y) : zp2 (zbi (fX5_pairAt σ 2) (fun σ3 v4 => zck (zin 20 29) (zbv (zsi σ3 36 ((20 : Int32).toNatClampNeg) ((v4 + 1) &&& 65535)) (fun σ5 => zbu (fX5_takeFromPort σ5 y) (fun σ6 => some (σ6, (12 : Int32))))))) (zbi (fX12_pair μ 2) (fun σ15 v16 => zbv ((v16 + 1) &&& 65535) (fun v17 => zck (zin 3 1048) (zbi (fX12_port σ15 (zgi σ15 3 (3 : Int32).toNatClampNeg)) (fun σ18 v19 => if y = 6 then fX12_more_133 σ18 v17 v19 else zbu (fX12_rTo σ18 y v19) (fun σ20 => fX12_more_133 σ20 v17 v19)))))) (zEnq I) := by
  refine zp2_sm (t_pair2 h) (fun v rv => zp2_ckl (zp2_bvl (fun s1 f1 => zp2_bvr (fun x ex => zp2_ckr ?_))))
  have h1 : zTT I s1 μ := by rw [f1]; exact h.onC hI (Or.inr rfl) (zrg_w (by decide) (by decide) (z_r16 _))
  have F1 : zF s1 μ := hF.of (by rw [f1]; rfl) rfl
  have w1 : s1.1 36 20 = x := by rw [f1, ex]; rfl
  have p1 : zPlc s1 μ := hp.of (by rw [f1]; rfl) (by rw [f1]; rfl) (by rw [f1]; rfl) rfl rfl
  unfold fX5_takeFromPort
  refine zp2_bulp (P := fun s b => zEnq I (s, 12) b) ?_ (fun s b q => zp2_some q)
  refine zp2_ckl ?_
  rw [show zgi μ 3 (3 : Int32).toNatClampNeg = zgi s1 36 (3 : Int32).toNatClampNeg from h1.eq (j := 3) (by decide)]
  refine zp2_bii (hPo.2 _ _ _ h1 (h1.b (j := 3) (by decide))) (fun s2 u t2 u' q => ?_)
  obtain ⟨h2, e2, ru, k2⟩ := q
  have e2 : u' = u := e2
  subst e2
  have F2 : zF s2 t2 := k2.f F1
  have w2 : s2.1 36 20 = x := (k2.1 20).trans w1
  refine zp2_if (fun _ => t_in26 hI h2 F2 ru w2) (fun _ => ?_)
  refine zp2_buu (t_putOne hI h2 (p1.of k2.2.2.1 (k2.1 6) (k2.1 7) (k2.2.1 20 (by decide)) k2.2.2.2) hy (z_m255 ru) ru) (fun s3 t3 q => ?_)
  obtain ⟨h3, qc, qm⟩ := q
  exact t_in26 hI h3 (F2.of (qc.1 36 1 rfl) (qm.1 3 1 rfl)) ru ((qc.1 36 20 rfl).trans w2)
theorem t_edo (hI : zIoK I) (hPo : zPorts I) (h : zTT I σ μ) (hF : zF σ μ) {v : Int32} (rv : zr 0 255 v) (hw : σ.1 36 20 = (((σ.1 36 2 <<< ((8 : Int32) &&& 31)) ||| σ.1 36 3) + 1) &&& 65535) : zp2 (fX5_behindEd_131 σ v (zgi σ 36 (3 : Int32).toNatClampNeg)) (fX12_more_195 μ v (zgi σ 36 (3 : Int32).toNatClampNeg)) (zEnq I) := by
  unfold fX5_behindEd_131 fX12_more_195
  refine zp2_buu (hPo.1 _ _ _ _ h (h.b (j := 3) (by decide)) rv) (fun s t q => ?_)
  obtain ⟨h1, k1⟩ := q
  refine zp2_bir p_pM2 (fun t1 v1 e1 => ?_)
  cases e1
  refine zp2_ckr (zp2_bvr (fun t2 g2 => zp2_some ?_))
  subst g2
  refine ⟨h1.onM hI (Or.inr rfl), k1.f hF, ?_, rfl⟩
  show (((t.1 3 2 <<< ((8 : Int32) &&& 31)) ||| t.1 3 3) + 1) &&& 65535 = s.1 36 20
  rw [k1.1 20, hw, h1.eq (by decide), h1.eq (by decide), k1.1 2, k1.1 3]
theorem t_edout (hI : zIoK I) (hPo : zPorts I) (h : zTT I σ μ) (hF : zF σ μ) (hp : zPlc σ μ) {y : Int32} (hy : zr 0 7 y) : zp2 (zbi (fX5_pairAt σ 2) (fun σ7 v8 => zck (zin 20 29) (zbv (zsi σ7 36 ((20 : Int32).toNatClampNeg) ((v8 + 1) &&& 65535)) (fun σ9 => zck (zin 3 29) (if y = 6 then fX5_behindEd_131 σ9 0 (zgi σ9 36 (3 : Int32).toNatClampNeg) else zbi (fX5_one σ9 y) (fun σ10 v11 => fX5_behindEd_131 σ10 v11 (zgi σ9 36 (3 : Int32).toNatClampNeg))))))) (zck (zin 3 1048) (if y = 6 then fX12_more_195 μ 0 (zgi μ 3 (3 : Int32).toNatClampNeg) else zbi (fX12_r μ y) (fun σ21 v22 => fX12_more_195 σ21 v22 (zgi μ 3 (3 : Int32).toNatClampNeg)))) (zEnq I) := by
  refine zp2_bil p_pC2 (fun s0 v0 e0 => ?_)
  cases e0
  refine zp2_ckl (zp2_bvl (fun s1 f1 => zp2_ckl (zp2_ckr ?_)))
  have h1 : zTT I s1 μ := by rw [f1]; exact h.onC hI (Or.inr rfl) (zrg_w (by decide) (by decide) (z_r16 _))
  have F1 : zF s1 μ := hF.of (by rw [f1]; rfl) rfl
  have w1 : s1.1 36 20 = (((s1.1 36 2 <<< ((8 : Int32) &&& 31)) ||| s1.1 36 3) + 1) &&& 65535 := by rw [f1]; rfl
  have p1 : zPlc s1 μ := hp.of (by rw [f1]; rfl) (by rw [f1]; rfl) (by rw [f1]; rfl) rfl rfl
  rw [show zgi μ 3 (3 : Int32).toNatClampNeg = zgi s1 36 (3 : Int32).toNatClampNeg from h1.eq (j := 3) (by decide)]
  exact zp2_if (fun _ => t_edo hI hPo h1 F1 (zr_c (by decide)) w1) (fun _ => zp2_sm (t_one h1 p1 hy) (fun v rv => t_edo hI hPo h1 F1 rv w1))
/-! ld (nn), rp and back -/
theorem t_edfar (hI : zIoK I) (h : zTT I σ μ) (hF : zF σ μ) {y : Int32} (hy : zr 0 7 y) : zp2 (fX5_farPair σ y) (zbi (fX12_nextWord μ ) (fun σ23 v24 => zck (decide (¬ (2 : Int32) = 0)) (if (zrem y 2) = 0 then zbi (fX12_rp σ23 (y >>> ((1 : Int32) &&& 31))) (fun σ28 v29 => zbu (fX12_wordTo σ28 v24 v29) (fun σ30 => fX12_more_281 σ30 v24)) else zbi (fX12_word σ23 v24) (fun σ25 v26 => zbu (fX12_rpTo σ25 (y >>> ((1 : Int32) &&& 31)) v26) (fun σ27 => fX12_more_281 σ27 v24))))) (zEnq I) := by
  obtain ⟨par, hp⟩ := z_par hy
  unfold fX5_farPair fX5_farPair_51 fX12_more_281
  refine zp2_bii (t_word hI h) (fun s v t v' q => ?_)
  obtain ⟨h0, e1, rv, qc, qm⟩ := q
  have e1 : v' = v := e1
  subst e1
  have F0 : zF s t := hF.of (qc.1 36 1 rfl) (qm.1 3 1 rfl)
  refine zp2_ckl (zp2_bvl (fun s1 f1 => zp2_ckr ?_))
  have h1 : zTT I s1 t := by rw [f1]; exact h0.onC hI (Or.inr rfl) (zrg_w (by decide) (by decide) (z_r16 _))
  have F1 : zF s1 t := F0.of (by rw [f1]; rfl) rfl
  have wz : ∀ s3 : zSt, s3.1 36 20 = s1.1 36 20 → s3 = zsi s3 36 20 ((v' + 1) &&& 65535) := fun s3 e3 => by
    have e : s3.1 36 20 = (v' + 1) &&& 65535 := by rw [e3, f1]; rfl
    rw [← e]; exact zsi_own.symm
  rcases par with ⟨e1, e2⟩ | ⟨e1, e2⟩
  · rw [e1, e2]
    refine zp2_ifl (fun _ => zp2_ifr (fun _ => ?_) (fun q => absurd rfl q)) (fun q => absurd rfl q)
    refine zp2_sm (t_rp h1 hp) (fun w rw1 => ?_)
    refine zp2_buu (t_wword h1.1 rfl rfl rw1) (fun s3 t3 q => zp2_ckr (zp2_bvr (fun t4 g4 => zp2_some ?_)))
    obtain ⟨hm, qc3, qm3⟩ := q
    rw [wz s3 (qc3.1 36 20 rfl), g4]
    exact zEnq.wz hI (h1.mem hI hm qc3 qm3) (F1.of (qc3.1 36 1 rfl) (qm3.1 3 1 rfl)) rfl (z_r16 _)
  · rw [e1, e2]
    refine zp2_ifl (fun q => absurd q (by decide)) (fun _ => zp2_ifr (fun q => absurd q (by decide)) (fun _ => ?_))
    refine zp2_sm (t_rword h1.1 rfl) (fun w rw1 => ?_)
    refine zp2_buu (t_rpTo hI h1 rfl) (fun s3 t3 q => zp2_ckr (zp2_bvr (fun t4 g4 => zp2_some ?_)))
    obtain ⟨h3, qc3, qm3⟩ := q
    rw [wz s3 (qc3.1 36 20 rfl), g4]
    exact zEnq.wz hI h3 (F1.of (qc3.1 36 1 rfl) (qm3.1 3 1 rfl)) rfl (z_r16 _)
/-! neg -/
theorem p_does2 {b : Int32} : zpc (fX12_does μ 2 b) (fun r => r = zsi (zsi μ 3 1 (mF (μ.1 3 1) (hS (μ.1 3 0) b 0) (cX ((μ.1 3 0 - b) - 0)) (((μ.1 3 0 - b) - 0) &&& 255) (oX ((sg (μ.1 3 0) - sg b) - 0)) 1)) 3 0 (((μ.1 3 0 - b) - 0) &&& 255)) := by
  unfold fX12_does fX12_does_101 fX12_does_111 fX12_does_120 fX12_does_132
  refine zpc_ck (zpc_bv (fun a ea => ?_))
  subst ea
  exact zpc_if (fun _ => zpc_if (fun q => absurd q (by decide)) (fun _ => zpc_if (fun q => absurd q (by decide)) (fun _ => zpc_if (fun _ => zpc_if (fun _ => p_subM (by decide)) (fun q => absurd rfl q)) (fun q => absurd (by decide) q)))) (fun q => absurd (by decide) q)
theorem t_neg (hI : zIoK I) (h : zTT I σ μ) (hF : zF σ μ) (hW : zWzz σ μ) : zp2 (zck (zin 0 29) (zbi (fX5_difference σ 0 (zgi σ 36 (0 : Int32).toNatClampNeg) 0) (fun σ18 v19 => zck (zin 0 29) (zbv (zsi σ18 36 ((0 : Int32).toNatClampNeg) v19) (fun σ20 => some (σ20, (8 : Int32))))))) (zck (zin 0 1048) (zbv (zgi μ 3 (0 : Int32).toNatClampNeg) (fun v31 => zck (zin 0 1048) (zbv (zsi μ 3 ((0 : Int32).toNatClampNeg) 0) (fun σ32 => zbu (fX12_does σ32 2 v31) (fun σ33 => some (σ33, (8 : Int32)))))))) (zEnq I) := by
  have ea : μ.1 3 0 = σ.1 36 0 := h.eq (by decide)
  have ef : μ.1 3 1 = σ.1 36 1 := hF
  have ha : zr 0 255 (σ.1 36 0) := h.b (by decide)
  have hf : zr 0 255 (σ.1 36 1) := h.b (by decide)
  have c0 : zr 0 1 (0 : Int32) := zr_c (by decide)
  have z0 : zr 0 255 (0 : Int32) := zr_c (by decide)
  have cC : zpc (fX5_difference σ 0 (zgi σ 36 (0 : Int32).toNatClampNeg) 0) (fun r => r = (zsi σ 36 1 (cdif 0 (σ.1 36 0) 0), ((0 - σ.1 36 0) - 0) &&& 255)) := p_difC
  refine zp2_ckl (zp2_bil cC (fun s1 v1 e1 => ?_))
  cases e1
  refine zp2_ckl (zp2_bvl (fun s2 f2 => zp2_ckr (zp2_bvr (fun x ex => zp2_ckr (zp2_bvr (fun t1 g1 => zp2_bur p_does2 (fun t2 e2 => zp2_some ?_)))))))
  have ex : x = σ.1 36 0 := ex.trans ea
  subst ex
  have g0 : t1.1 3 0 = 0 := by rw [g1]; rfl
  have gf : t1.1 3 1 = σ.1 36 1 := by rw [g1]; exact ef
  have eF : mF (t1.1 3 1) (hS (t1.1 3 0) (σ.1 36 0) 0) (cX ((t1.1 3 0 - σ.1 36 0) - 0)) (((t1.1 3 0 - σ.1 36 0) - 0) &&& 255) (oX ((sg (t1.1 3 0) - sg (σ.1 36 0)) - 0)) 1 = cdif 0 (σ.1 36 0) 0 := by
    rw [g0, gf, fl_mF hf, ← v_dif z0 ha c0]
    rfl
  rw [eF, g0] at e2
  exact zEnq_af hI h hW (by rw [f2]; exact zQ.wi (zQ.wi zQ.rf rfl) rfl) (by rw [e2, g1]; exact zQ.wi (zQ.wi (zQ.wi zQ.rf rfl) rfl) rfl) (by rw [f2]; rfl) (by rw [f2]; rfl) (by rw [e2]; rfl) (by rw [e2]; rfl) rfl rfl (z_r8 _) (cdif_r z0 ha c0)
theorem t_retn (hI : zIoK I) (h : zTT I σ μ) (hF : zF σ μ) : zp2 (zbi (fX5_pop σ ) (fun σ21 v22 => zbu (fX5_goTo σ21 v22) (fun σ23 => zck (zin 24 29) (zck (zin 23 29) (zbv (zsi σ23 36 ((23 : Int32).toNatClampNeg) (zgi σ23 36 (24 : Int32).toNatClampNeg)) (fun σ24 => some (σ24, (14 : Int32)))))))) (zbi (fX12_pop μ ) (fun σ34 v35 => zck (zin 19 1048) (zbv (zsi σ34 3 ((19 : Int32).toNatClampNeg) v35) (fun σ36 => zck (zin 19 1048) (zck (zin 20 1048) (zbv (zsi σ36 3 ((20 : Int32).toNatClampNeg) (zgi σ36 3 (19 : Int32).toNatClampNeg)) (fun σ37 => zck (zin 24 1048) (zck (zin 23 1048) (zbv (zsi σ37 3 ((23 : Int32).toNatClampNeg) (zgi σ37 3 (24 : Int32).toNatClampNeg)) (fun σ38 => some (σ38, (14 : Int32)))))))))))) (zEnq I) := by
  refine zp2_bii (t_pop hI h) (fun s v t v' q => ?_)
  obtain ⟨h1, e1, rv, qc, qm⟩ := q
  have e1 : v' = v := e1
  subst e1
  refine zp2_bul p_goC (fun s2 e2 => zp2_ckl (zp2_ckl (zp2_bvl (fun s3 f3 => zp2_ckr (zp2_bvr (fun t1 g1 => zp2_ckr (zp2_ckr (zp2_bvr (fun t2 g2 => zp2_ckr (zp2_ckr (zp2_bvr (fun t3 g3 => zp2_some ?_))))))))))))
  have g2 : t2 = zsi (zsi t 3 19 v') 3 20 v' := by rw [g2, g1]; rfl
  have z := zEnq.go hI h1 (hF.of (qc.1 36 1 rfl) (qm.1 3 1 rfl)) rv (b := 0)
  have zT' : zTT I s2 t2 := by rw [e2, g2]; exact z.1
  have zF' : zF s2 t2 := by rw [e2, g2]; exact z.2.1
  have zW' : zWzz s2 t2 := by rw [e2, g2]; exact z.2.2.1
  subst f3
  subst g3
  exact ⟨zT'.upd hI [23] (zQ.wi zQ.rf rfl) (zQ.wi zQ.rf rfl) rfl (zAl1 ⟨zT'.eq (j := 24) (by decide), zrg_1 (by decide) (by decide) ((zT'.g (j := 24) (by decide)).2.2.2.1 (by decide) (by decide))⟩), zF', zW', rfl⟩
theorem v_im : ∀ i : Fin 8, (zmax 0 ((Int32.ofNat i.val &&& 3) - 1) = if 2 ≤ zrem (Int32.ofNat i.val) 4 then zrem (Int32.ofNat i.val) 4 - 1 else 0) ∧ 0 ≤ (zmax 0 ((Int32.ofNat i.val &&& 3) - 1)).toInt ∧ (zmax 0 ((Int32.ofNat i.val &&& 3) - 1)).toInt ≤ 2 := by decide +kernel
theorem t_im (hI : zIoK I) (h : zTT I σ μ) (hF : zF σ μ) (hW : zWzz σ μ) {y : Int32} (hy : zr 0 7 y) : zp2 (zck (zin 25 29) (zbv (zsi σ 36 ((25 : Int32).toNatClampNeg) (zmax 0 ((y &&& 3) - 1))) (fun σ25 => some (σ25, (8 : Int32))))) (zck (decide (¬ (4 : Int32) = 0)) (if 2 ≤ (zrem y 4) then zck (decide (¬ (4 : Int32) = 0)) (fX12_more_387 μ ((zrem y 4) - 1) 25) else fX12_more_387 μ 0 25)) (zEnq I) := by
  have v : (zmax 0 ((y &&& 3) - 1) = if 2 ≤ zrem y 4 then zrem y 4 - 1 else 0) ∧ zr 0 2 (zmax 0 ((y &&& 3) - 1)) := by
    obtain ⟨i, e⟩ := z_fin8 hy
    subst e
    exact v_im i
  obtain ⟨v1, v2⟩ := v
  have fin : ∀ x : Int32, zmax 0 ((y &&& 3) - 1) = x → zp2 (zck (zin 25 29) (zbv (zsi σ 36 ((25 : Int32).toNatClampNeg) (zmax 0 ((y &&& 3) - 1))) (fun σ25 => some (σ25, (8 : Int32))))) (fX12_more_387 μ x 25) (zEnq I) := fun x e => by
    unfold fX12_more_387
    refine zp2_ckl (zp2_bvl (fun s f => zp2_ckr (zp2_bvr (fun t g => zp2_some ?_))))
    rw [e] at f v2
    subst f
    subst g
    exact ⟨h.upd hI [25] (zQ.wi zQ.rf rfl) (zQ.wi zQ.rf rfl) rfl (zAl1 ⟨rfl, ⟨fun q => absurd q (by decide), fun _ q => absurd q (by decide), fun _ q => absurd q (by decide), fun _ q => absurd q (by decide), fun _ => v2, fun q _ => absurd q (by decide)⟩⟩), hF, hW, rfl⟩
  refine zp2_ckr ?_
  by_cases q : 2 ≤ zrem y 4
  · rw [if_pos q] at v1
    exact zp2_ifr (fun _ => zp2_ckr (fin _ v1)) (fun r => absurd q r)
  · rw [if_neg q] at v1
    exact zp2_ifr (fun r => absurd r q) (fun _ => fin _ v1)
end ZED
