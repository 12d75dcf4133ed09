/-! ONE INSTRUCTION OF BOTH -/
section ZCO
variable {I : zSt → zSt → Prop} {σ μ : zSt}
theorem t_p90 (hI : zIoK I) (h : zTT I σ μ) (hF : zF σ μ) (hW : zWzz σ μ) : zp2 (fX5_carryOn_90 σ) (fX12_prefixed_33 μ) (zEnq I) := by
  unfold fX5_carryOn_90 fX12_prefixed_33
  refine zp2_ckl (zp2_bvl (fun s f => zp2_ckr (zp2_bvr (fun t g => zp2_some ?_))))
  subst f
  subst g
  exact ⟨h.pz hI (zr_c (by decide)), hF, hW, rfl⟩
theorem t_115 (hI : zIoK I) (hPo : zPorts I) (h : zTT I σ μ) (hF : zF σ μ) (hW : zWzz σ μ) (hp : zPlc σ μ) (h7 : σ.1 7 4 = 6) (h28 : σ.1 36 28 = 0) {w v : Int32} (hw : w = 16 ∨ w = 17) (ee : fX12_read μ (zgi μ 3 (19 : Int32).toNatClampNeg) = some (μ, v)) (n3 : ¬ v = 221) (n2 : ¬ v = 237) (n4 : ¬ v = 253) : zp2 (fX5_carryOn_115 σ w) (zbi (fX12_fetch μ ) (fun σ15 v16 => if v16 = 203 then zck (zin w 1048) (zbi (fX12_next σ15 ) (fun σ20 v21 => zbi (fX12_signed σ20 v21) (fun σ22 v23 => zck (zin 20 1048) (zbv (zsi σ22 3 ((20 : Int32).toNatClampNeg) (((zgi σ15 3 w.toNatClampNeg) + v23) &&& 65535)) (fun σ24 => zck (zbo 1) (zbv (zsi σ24 0 32 1) (fun σ25 => zbi (fX12_next σ25 ) (fun σ26 v27 => zbi (fX12_turn σ26 v27) (fun σ28 v29 => if (v27 >>> ((6 : Int32) &&& 31)) = 1 then fX12_prefixed_135 σ28 v27 v29 else if (v27 &&& 7) = 6 then fX12_prefixed_135 σ28 v27 v29 else zck (zbo 0) (zbv (zsi σ28 0 32 0) (fun σ30 => zbu (fX12_rTo σ30 (v27 &&& 7) (zgi σ30 0 33)) (fun σ31 => fX12_prefixed_135 σ31 v27 v29)))))))))))) else zbv ((v16 >>> ((3 : Int32) &&& 31)) &&& 7) (fun v17 => zbv (v16 &&& 7) (fun v18 => zbv (v16 >>> ((6 : Int32) &&& 31)) (fun v19 => if v19 = 0 then if v18 ≤ 3 then fX12_prefixed_200 σ15 w v16 v17 v18 v19 else if 7 ≤ v18 then fX12_prefixed_200 σ15 w v16 v17 v18 v19 else if v17 = 6 then fX12_prefixed_239 σ15 w v16 else fX12_prefixed_200 σ15 w v16 v17 v18 v19 else fX12_prefixed_200 σ15 w v16 v17 v18 v19))))) (zEnq I) := by
  unfold fX5_carryOn_115
  refine zp2_bvl (fun s0 e0 => ?_)
  subst e0
  refine zp2_bii (t_opJ hI h) (fun s1 op t op' q => ?_)
  obtain ⟨s', q1, h1, q3, ro, qc, qm, rd⟩ := q
  have q3 : op' = op := q3
  subst q3
  have ro : zr 0 255 op' := ro
  have ev : op' = v := by
    have e : some (μ, op') = some (μ, v) := rd.symm.trans ee
    cases e
    rfl
  have q1 : s1 = zsi s' 7 4 w := q1
  subst q1
  have F1 : zF s' t := hF.of (qc.1 36 1 rfl) (qm.1 3 1 rfl)
  have W1 : zWzz s' t := hW.of (qc.1 36 20 rfl) (qm.1 3 20 rfl)
  have p1 : zPlc s' t := hp.of (qc.1 7 5 rfl) (qc.1 36 6 rfl) (qc.1 36 7 rfl) (qm.1 3 20 rfl) (qm.1 0 32 rfl)
  by_cases cb : op' = 203
  · refine zp2_ifl (fun _ => zp2_ifr (fun _ => ?_) (fun q => absurd cb q)) (fun q => absurd cb q)
    exact zp2_bilp (t_ddcb hI h1 F1 ((qc.1 7 4 rfl).trans h7) hw) (fun s v b q => zp2_some q)
  · refine zp2_ifl (fun q => absurd q cb) (fun _ => zp2_ifr (fun q => absurd q cb) (fun _ => ?_))
    refine zp2_bvr (fun y ey => zp2_bvr (fun z ez => zp2_bvr (fun x ex => ?_)))
    rw [e_pml, ey, ez, ex, (z_mpl ro).1]
    exact t_px hI hPo h1 F1 W1 p1 ((qc.1 7 4 rfl).trans h7) ((qc.1 36 28 rfl).trans h28) hw ro cb (fun e => n2 (ev.symm.trans e)) (fun e => n3 (ev.symm.trans e)) (fun e => n4 (ev.symm.trans e))
theorem t_prefix (hI : zIoK I) (hPo : zPorts I) (h : zTT I σ μ) (hF : zF σ μ) (hW : zWzz σ μ) (hp : zPlc σ μ) (h7 : σ.1 7 4 = 6) (h28 : σ.1 36 28 = 0) {x w : Int32} (hx : (x = 221 ∧ w = 16) ∨ (x = 253 ∧ w = 17)) : zp2 (fX5_carryOn_54 σ x) (fX12_prefixed μ w) (zEnq I) := by
  unfold fX5_carryOn_54 fX12_prefixed
  have e19 : zgi μ 3 (19 : Int32).toNatClampNeg = zgi σ 36 (19 : Int32).toNatClampNeg := h.eq (j := 19) (by decide)
  refine zp2_ckl (zp2_ckr (zp2_rdE h.1 (by rw [e19]) (fun v hv ee => ?_)))
  refine zp2_if (fun _ => t_p90 hI h hF hW) (fun n3 => zp2_if (fun _ => t_p90 hI h hF hW) (fun n2 => zp2_if (fun _ => t_p90 hI h hF hW) (fun n4 => ?_)))
  rcases hx with ⟨e1, e2⟩ | ⟨e1, e2⟩
  · subst e1
    subst e2
    exact zp2_ifl (fun _ => t_115 hI hPo h hF hW hp h7 h28 (Or.inl rfl) ee n3 n2 n4) (fun q => absurd rfl q)
  · subst e1
    subst e2
    exact zp2_ifl (fun q => absurd q (by decide)) (fun _ => t_115 hI hPo h hF hW hp h7 h28 (Or.inr rfl) ee n3 n2 n4)
theorem t_pl221 {o : Option (zSt × Int32)} (h : zp2 o (fX12_prefixed μ 16) (zEnq I)) : zp2 o (fX12_plain μ 221) (zEnq I) := by
  unfold fX12_plain fX12_plain_160
  refine zp2_bvr (fun y ey => zp2_bvr (fun z ez => ?_))
  have ey : y = 3 := ey.trans (by decide)
  have ez : z = 5 := ez.trans (by decide)
  subst ey
  subst ez
  refine zp2_ifr (fun q => absurd q (by decide)) (fun _ => zp2_ifr (fun q => absurd q (by decide)) (fun _ => zp2_ifr (fun q => absurd q (by decide)) (fun _ => zp2_ifr (fun _ => ?_) (fun q => absurd (by decide) q))))
  refine zp2_birp (P := zEnq I) ?_ (fun a t w q => zp2_some q)
  unfold fX12_more3 fX12_more3_197 fX12_more3_200
  refine zp2_bvr (fun p ep => zp2_ifr (fun q => absurd q (by decide)) (fun _ => zp2_ifr (fun q => absurd q (by decide)) (fun _ => zp2_ifr (fun q => absurd q (by decide)) (fun _ => zp2_ckr (zp2_ifr (fun q => absurd q (by decide)) (fun _ => ?_))))))
  have ep : p = 1 := ep.trans (by decide)
  subst ep
  refine zp2_ifr (fun q => absurd q (by decide)) (fun _ => zp2_ifr (fun q => absurd q (by decide)) (fun _ => zp2_ifr (fun _ => ?_) (fun q => absurd rfl q)))
  exact zp2_birp h (fun a t w q => zp2_some q)
theorem t_pl253 {o : Option (zSt × Int32)} (h : zp2 o (fX12_prefixed μ 17) (zEnq I)) : zp2 o (fX12_plain μ 253) (zEnq I) := by
  unfold fX12_plain fX12_plain_160
  refine zp2_bvr (fun y ey => zp2_bvr (fun z ez => ?_))
  have ey : y = 7 := ey.trans (by decide)
  have ez : z = 5 := ez.trans (by decide)
  subst ey
  subst ez
  refine zp2_ifr (fun q => absurd q (by decide)) (fun _ => zp2_ifr (fun q => absurd q (by decide)) (fun _ => zp2_ifr (fun q => absurd q (by decide)) (fun _ => zp2_ifr (fun _ => ?_) (fun q => absurd (by decide) q))))
  refine zp2_birp (P := zEnq I) ?_ (fun a t w q => zp2_some q)
  unfold fX12_more3 fX12_more3_197 fX12_more3_200
  refine zp2_bvr (fun p ep => zp2_ifr (fun q => absurd q (by decide)) (fun _ => zp2_ifr (fun q => absurd q (by decide)) (fun _ => zp2_ifr (fun q => absurd q (by decide)) (fun _ => zp2_ckr (zp2_ifr (fun q => absurd q (by decide)) (fun _ => ?_))))))
  have ep : p = 3 := ep.trans (by decide)
  subst ep
  refine zp2_ifr (fun q => absurd q (by decide)) (fun _ => zp2_ifr (fun q => absurd q (by decide)) (fun _ => zp2_ifr (fun q => absurd q (by decide)) (fun _ => ?_)))
  exact zp2_birp h (fun a t w q => zp2_some q)
theorem zTT.j0 (hI : zIoK I) (h : zTT I σ μ) {v : Int32} : zTT I (zsi (zsi σ 7 4 6) 7 5 v) (zsi (zsi μ 0 31 0) 0 32 0) := ⟨h.1.keep (zQ.wi (zQ.wi zQ.rf rfl) rfl) (zQ.wi (zQ.wi zQ.rf rfl) rfl), ⟨fun j a b c => h.2.1.1 j a b c, h.2.1.2.1, h.2.1.2.2.1, h.2.1.2.2.2⟩, Or.inl ⟨rfl, rfl⟩, hI _ _ _ _ h.2.2.2 (zQ.wi (zQ.wi zQ.rf rfl) rfl) (zQ.wi (zQ.wi zQ.rf rfl) rfl)⟩
theorem t_instr (hI : zIoK I) (hPo : zPorts I) (h : zTT I σ μ) (hF : zF σ μ) (hW : zWzz σ μ) (h28 : σ.1 36 28 = 0) : zp2 (zbv (zsi σ 7 4 6) (fun σ31 => zbi (fX5_pairAt σ31 6) (fun σ32 v33 => zbv (zsi σ32 7 5 v33) (fun σ34 => zbi (fX5_fetchOp σ34 ) (fun σ35 v36 => if v36 = 221 then fX5_carryOn_54 σ35 v36 else if v36 = 253 then fX5_carryOn_54 σ35 v36 else fX5_carryOn_141 σ35 v36 0))))) (fX12_instruction μ ) (zEnq I) := by
  unfold fX12_instruction
  refine zp2_bvl (fun s0 e0 => zp2_bil p_pC6 (fun s1 v1 e1 => ?_))
  cases e1
  subst e0
  refine zp2_bvl (fun s2 e2 => zp2_bvr (fun t1 g1 => zp2_ckr (zp2_bvr (fun t2 g2 => ?_))))
  subst g1
  subst g2
  have h2 : zTT I s2 (zsi (zsi μ 0 31 0) 0 32 0) := by rw [e2]; exact h.j0 hI
  have F2 : zF s2 (zsi (zsi μ 0 31 0) 0 32 0) := by rw [e2]; exact hF
  have W2 : zWzz s2 (zsi (zsi μ 0 31 0) 0 32 0) := by rw [e2]; exact hW
  have p2 : zPlc s2 (zsi (zsi μ 0 31 0) 0 32 0) := by rw [e2]; exact Or.inl ⟨rfl, rfl⟩
  have s7 : s2.1 7 4 = 6 := by rw [e2]; rfl
  have c28 : s2.1 36 28 = 0 := by rw [e2]; exact h28
  refine zp2_bii (t_op hI h2) (fun s op t op' q => ?_)
  obtain ⟨h3, e3, ro, qc, qm⟩ := q
  have e3 : op' = op := e3
  subst e3
  have ro : zr 0 255 op' := ro
  have F3 : zF s t := F2.of (qc.1 36 1 rfl) (qm.1 3 1 rfl)
  have W3 : zWzz s t := W2.of (qc.1 36 20 rfl) (qm.1 3 20 rfl)
  have p3 : zPlc s t := p2.of (qc.1 7 5 rfl) (qc.1 36 6 rfl) (qc.1 36 7 rfl) (qm.1 3 20 rfl) (qm.1 0 32 rfl)
  have t7 : s.1 7 4 = 6 := (qc.1 7 4 rfl).trans s7
  have t28 : s.1 36 28 = 0 := (qc.1 36 28 rfl).trans c28
  have t32 : t.1 0 32 = 0 := (qm.1 0 32 rfl).trans rfl
  refine zp2_birp (P := zEnq I) ?_ (fun a t w q => zp2_some q)
  by_cases a1 : op' = 221
  · subst a1
    exact zp2_ifl (fun _ => t_pl221 (t_prefix hI hPo h3 F3 W3 p3 t7 t28 (Or.inl ⟨rfl, rfl⟩))) (fun q => absurd rfl q)
  by_cases a2 : op' = 253
  · subst a2
    exact zp2_ifl (fun q => absurd q (by decide)) (fun _ => zp2_ifl (fun _ => t_pl253 (t_prefix hI hPo h3 F3 W3 p3 t7 t28 (Or.inr ⟨rfl, rfl⟩))) (fun q => absurd rfl q))
  refine zp2_ifl (fun q => absurd q a1) (fun _ => zp2_ifl (fun q => absurd q a2) (fun _ => ?_))
  by_cases a3 : op' = 203
  · subst a3
    exact t_cb hI h3 F3 W3 p3 t32
  by_cases a4 : op' = 237
  · subst a4
    exact t_edp hI hPo h3 F3 W3 p3
  refine zp2_mono (t_quart hI hPo h3 F3 W3 p3 t28 (x2 := 0) ro a3 a4 a1 a2) (fun r r' q => ?_)
  obtain ⟨q1, q2, q3, q4⟩ := q
  refine ⟨q1, q2, q3, ?_⟩
  have q4 : r'.2 + 0 = r.2 := q4
  rw [Int32.add_zero] at q4
  exact q4
end ZCO
