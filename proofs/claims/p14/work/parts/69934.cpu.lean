/-! THE LAST QUARTER, WHOLE -/
section ZQ5
variable {I : zSt → zSt → Prop} {σ μ : zSt}
theorem t_callk (hI : zIoK I) (h : zTT I σ μ) (hF : zF σ μ) {x : Int32} (hx : zr 0 65535 x) {α β : Type} {Q : α → β → Prop} {f : zSt → Option α} {g : zSt → Option β} (k : ∀ s t, zTT I s t → zF s t → zWzz s t → zQ [15, 17, 19] [(36, 18, 20)] [] [] σ s → zQ [5, 6] [(3, 18, 20), (3, 29, 32)] [] [] μ t → zp2 (f s) (g t) Q) : zp2 (zbu (fX5_push σ (zgi σ 36 (19 : Int32).toNatClampNeg)) (fun σ3 => zbu (fX5_goTo σ3 x) f)) (zbu (fX12_call μ x) g) Q := by
  have e : zbu (fX5_push σ (zgi σ 36 (19 : Int32).toNatClampNeg)) (fun σ3 => zbu (fX5_goTo σ3 x) f) = zbu (zbu (fX5_push σ (zgi σ 36 (19 : Int32).toNatClampNeg)) (fun σ3 => zbu (fX5_goTo σ3 x) (fun σ4 => some σ4))) f := by
    cases fX5_push σ (zgi σ 36 (19 : Int32).toNatClampNeg) with
    | none => rfl
    | some s =>
      show zbu (fX5_goTo s x) f = zbu (zbu (fX5_goTo s x) (fun σ4 => some σ4)) f
      cases fX5_goTo s x with
      | none => rfl
      | some t => rfl
  rw [e]
  exact zp2_buu (t_call hI h hF hx) (fun s t q => k s t q.1 q.2.1 q.2.2.1 q.2.2.2.1 q.2.2.2.2)
theorem t_l0 (hI : zIoK I) (h : zTT I σ μ) (hF : zF σ μ) (hW : zWzz σ μ) {y : Int32} (hy : zr 0 7 y) : zp2 (zbi (fX5_holds σ y) (fun σ5 v6 => if v6 = 0 then some (σ5, (5 : Int32)) else zbi (fX5_pop σ5 ) (fun σ7 v8 => zbu (fX5_goTo σ7 v8) (fun σ9 => some (σ9, 11))))) (fX12_three μ y 0) (zEnq I) := by
  unfold fX12_three
  refine zp2_bvr (fun p _ => zp2_ifr (fun _ => zp2_sm (t_cc hF (h.b (j := 1) (by decide)) hy) (fun b rb => zp2_if (fun _ => zp2_some ⟨h, hF, hW, rfl⟩) (fun _ => t_ret hI h hF))) (fun q => absurd rfl q))
theorem t_l1 (hI : zIoK I) (h : zTT I σ μ) (hF : zF σ μ) (hW : zWzz σ μ) {y : Int32} (hy : zr 0 7 y) : zp2 (if (y &&& 1) = 0 then zbi (fX5_popPair σ (y >>> ((1 : Int32) &&& 31))) (fun σ12 v13 => fX5_lastQuarter_96 σ12 v13) else zbi (fX5_leave σ (y >>> ((1 : Int32) &&& 31))) (fun σ10 v11 => fX5_lastQuarter_96 σ10 v11)) (fX12_three μ y 1) (zEnq I) := by
  obtain ⟨par, hp⟩ := z_par hy
  unfold fX12_three fX5_lastQuarter_96
  refine zp2_bvr (fun p ep => zp2_ifr (fun q => absurd q (by decide)) (fun _ => zp2_ifr (fun _ => zp2_ckr ?_) (fun q => absurd rfl q)))
  subst ep
  rcases par with ⟨e1, e2⟩ | ⟨e1, e2⟩
  · rw [e1, e2]
    exact zp2_ifl (fun _ => zp2_ifr (fun _ => zp2_bilp (t_popp hI h hF hW) (fun s v b q => zp2_some q)) (fun q => absurd rfl q)) (fun q => absurd rfl q)
  · rw [e1, e2]
    exact zp2_ifl (fun q => absurd q (by decide)) (fun _ => zp2_ifr (fun q => absurd q (by decide)) (fun _ => zp2_bilp (t_leave hI h hF hW hp) (fun s v b q => zp2_some q)))
theorem e_th2 {y z : Int32} (h0 : ¬ z = 0) (h1 : ¬ z = 1) : fX12_three μ y z = fX12_three_88 μ y z (y >>> ((1 : Int32) &&& 31)) := by
  unfold fX12_three
  show (if z = 0 then _ else (if z = 1 then _ else fX12_three_88 μ y z (y >>> ((1 : Int32) &&& 31)))) = _
  rw [if_neg h0, if_neg h1]
theorem t_l4 (hI : zIoK I) (h : zTT I σ μ) (hF : zF σ μ) {y : Int32} (hy : zr 0 7 y) : zp2 (zbi (fX5_holds σ y) (fun σ20 v21 => zbi (fX5_callIf σ20 v21) (fun σ22 v23 => some (σ22, v23)))) (fX12_more3 μ y 4) (zEnq I) := by
  unfold fX12_more3
  exact zp2_bvr (fun p _ => zp2_ifr (fun _ => t_callcc hI h hF hy) (fun q => absurd rfl q))
theorem t_l5 (hI : zIoK I) (h : zTT I σ μ) (hF : zF σ μ) (hW : zWzz σ μ) {y : Int32} (hn : y = 0 ∨ y = 1 ∨ y = 2 ∨ y = 4 ∨ y = 6) : zp2 (if (y &&& 1) = 1 then zbi (fX5_callIf σ 1) (fun σ28 v29 => some (σ28, v29)) else if y = 6 then zbi (fX5_pairAt σ 0) (fun σ26 v27 => fX5_lastQuarter_178 σ26 v27) else zbi (fX5_pair σ (y >>> ((1 : Int32) &&& 31))) (fun σ24 v25 => fX5_lastQuarter_178 σ24 v25)) (fX12_more3 μ y 5) (zEnq I) := by
  have pu : ∀ v : Int32, zr 0 65535 v → zp2 (fX5_lastQuarter_178 σ v) (fX12_more3_119 μ v) (zEnq I) := fun v rv => by
    unfold fX5_lastQuarter_178 fX12_more3_119
    refine zp2_buu (t_push hI h rfl rv) (fun s t q => zp2_some ?_)
    obtain ⟨h1, qc, qm⟩ := q
    exact ⟨h1, hF.of (qc.1 36 1 rfl) (qm.1 3 1 rfl), hW.of (qc.1 36 20 rfl) (qm.1 3 20 rfl), rfl⟩
  unfold fX12_more3
  refine zp2_bvr (fun p ep => zp2_ifr (fun q => absurd q (by decide)) (fun _ => zp2_ifr (fun q => absurd q (by decide)) (fun _ => zp2_ifr (fun q => absurd q (by decide)) (fun _ => zp2_ckr ?_))))
  subst ep
  rcases hn with e | e | e | e | e
  · subst e
    refine zp2_ifl (fun q => absurd q (by decide)) (fun _ => zp2_ifl (fun q => absurd q (by decide)) (fun _ => zp2_ifr (fun _ => zp2_ifr (fun q => absurd q (by decide)) (fun _ => ?_)) (fun q => absurd (by decide) q)))
    exact zp2_sm (t_rp h (zr_c (by decide))) (fun v rv => pu v rv)
  · subst e
    refine zp2_ifl (fun _ => zp2_ifr (fun q => absurd q (by decide)) (fun _ => zp2_ifr (fun _ => ?_) (fun q => absurd (by decide) q))) (fun q => absurd (by decide) q)
    unfold fX5_callIf
    refine zp2_bilp (P := zEnq I) ?_ (fun s v b q => zp2_some q)
    refine t_wzw hI h hF (fun v s t rv h1 f1 w1 w2 ef => ?_)
    exact zp2_ifl (fun q => absurd q (by decide)) (fun _ => t_callnn hI h1 f1 rv w1 w2)
  · subst e
    refine zp2_ifl (fun q => absurd q (by decide)) (fun _ => zp2_ifl (fun q => absurd q (by decide)) (fun _ => zp2_ifr (fun _ => zp2_ifr (fun q => absurd q (by decide)) (fun _ => ?_)) (fun q => absurd (by decide) q)))
    exact zp2_sm (t_rp h (zr_c (by decide))) (fun v rv => pu v rv)
  · subst e
    refine zp2_ifl (fun q => absurd q (by decide)) (fun _ => zp2_ifl (fun q => absurd q (by decide)) (fun _ => zp2_ifr (fun _ => zp2_ifr (fun q => absurd q (by decide)) (fun _ => ?_)) (fun q => absurd (by decide) q)))
    exact zp2_sm (t_rp h (zr_c (by decide))) (fun v rv => pu v rv)
  · subst e
    refine zp2_ifl (fun q => absurd q (by decide)) (fun _ => zp2_ifl (fun _ => zp2_ifr (fun _ => zp2_ifr (fun _ => ?_) (fun q => absurd (by decide) q)) (fun q => absurd (by decide) q)) (fun q => absurd rfl q))
    exact zp2_sm (t_pair0 h hF) (fun v rv => pu v rv)
theorem t_l6 (hI : zIoK I) (h : zTT I σ μ) (hF : zF σ μ) (hW : zWzz σ μ) {y : Int32} (hy : zr 0 7 y) : zp2 (zbi (fX5_fetch σ ) (fun σ30 v31 => zbu (fX5_doWith σ30 y v31) (fun σ32 => some (σ32, (7 : Int32))))) (fX12_more3 μ y 6) (zEnq I) := by
  unfold fX12_more3
  refine zp2_bvr (fun p _ => zp2_ifr (fun q => absurd q (by decide)) (fun _ => zp2_ifr (fun _ => zp2_bii (t_next hI h) (fun s v t v' q => ?_)) (fun q => absurd rfl q)))
  obtain ⟨h1, e1, rv, qc, qm⟩ := q
  have e1 : v' = v := e1
  subst e1
  refine zp2_buu (t_do hI h1 (hF.of (qc.1 36 1 rfl) (qm.1 3 1 rfl)) hy rv) (fun s2 t2 q2 => zp2_some ?_)
  obtain ⟨h2, f2, qc2, qm2⟩ := q2
  exact ⟨h2, f2, hW.of ((qc2.1 36 20 rfl).trans (qc.1 36 20 rfl)) ((qm2.1 3 20 rfl).trans (qm.1 3 20 rfl)), rfl⟩
theorem t_l7 (hI : zIoK I) (h : zTT I σ μ) (hF : zF σ μ) {y : Int32} (hy : zr 0 7 y) : zp2 (fX5_lastQuarter_196 σ y) (fX12_more3 μ y 7) (zEnq I) := by
  unfold fX5_lastQuarter_196 fX12_more3
  refine zp2_bvr (fun p _ => zp2_ifr (fun q => absurd q (by decide)) (fun _ => zp2_ifr (fun q => absurd q (by decide)) (fun _ => zp2_ifr (fun _ => zp2_ckl ?_) (fun q => absurd rfl q))))
  exact t_callk hI h hF (z_8y hy) (fun s t h1 f1 w1 _ _ => zp2_some ⟨h1, f1, w1, rfl⟩)
theorem t_last (hI : zIoK I) (h : zTT I σ μ) (hF : zF σ μ) (hW : zWzz σ μ) {op : Int32} (hx : op >>> ((6 : Int32) &&& 31) = 3) (h3 : ¬ op &&& 7 = 3) (hn : op &&& 7 = 5 → ((op >>> ((3 : Int32) &&& 31)) &&& 7 = 0 ∨ (op >>> ((3 : Int32) &&& 31)) &&& 7 = 1 ∨ (op >>> ((3 : Int32) &&& 31)) &&& 7 = 2 ∨ (op >>> ((3 : Int32) &&& 31)) &&& 7 = 4 ∨ (op >>> ((3 : Int32) &&& 31)) &&& 7 = 6)) : zp2 (fX5_lastQuarter σ op) (fX12_plain μ op) (zEnq I) := by
  have hy : zr 0 7 ((op >>> ((3 : Int32) &&& 31)) &&& 7) := z_r7 _
  have hz : zr 0 7 (op &&& 7) := z_r7 _
  unfold fX5_lastQuarter fX12_plain fX12_plain_160
  rw [hx]
  refine zp2_bvl (fun y ey => zp2_bvr (fun y' ey' => zp2_bvr (fun z ez => zp2_ifr (fun q => absurd q (by decide)) (fun _ => zp2_ifr (fun q => absurd q (by decide)) (fun _ => zp2_ifr (fun q => absurd q (by decide)) (fun _ => ?_))))))
  rw [← ey] at ey' hy hn
  subst ey'
  rw [← ez] at hz hn h3 ⊢
  clear ez
  rcases zr_hd (c := 0) hz rfl with e | hz
  · subst e
    exact zp2_ifl (fun _ => zp2_ifr (fun q => absurd q (by decide)) (fun _ => zp2_birp (t_l0 hI h hF hW hy) (fun a t w q => zp2_some q))) (fun q => absurd rfl q)
  rcases zr_hd (c := 1) hz rfl with e | hz
  · subst e
    exact zp2_ifl (fun q => absurd q (by decide)) (fun _ => zp2_ifl (fun _ => zp2_ifr (fun q => absurd q (by decide)) (fun _ => zp2_birp (t_l1 hI h hF hW hy) (fun a t w q => zp2_some q))) (fun q => absurd rfl q))
  rcases zr_hd (c := 2) hz rfl with e | hz
  · subst e
    rw [e_th2 (by decide) (by decide)]
    exact zp2_ifl (fun q => absurd q (by decide)) (fun _ => zp2_ifl (fun q => absurd q (by decide)) (fun _ => zp2_ifl (fun _ => zp2_ifr (fun q => absurd q (by decide)) (fun _ => zp2_birp (t_jpcc hI h hF hy) (fun a t w q => zp2_some q))) (fun q => absurd rfl q)))
  rcases zr_hd (c := 3) hz rfl with e | hz
  · exact absurd e h3
  rcases zr_hd (c := 4) hz rfl with e | hz
  · subst e
    exact zp2_ifl (fun q => absurd q (by decide)) (fun _ => zp2_ifl (fun q => absurd q (by decide)) (fun _ => zp2_ifl (fun q => absurd q (by decide)) (fun _ => zp2_ifl (fun q => absurd q (by decide)) (fun _ => zp2_ifl (fun _ => zp2_ifr (fun _ => zp2_birp (t_l4 hI h hF hy) (fun a t w q => zp2_some q)) (fun q => absurd (by decide) q)) (fun q => absurd rfl q)))))
  rcases zr_hd (c := 5) hz rfl with e | hz
  · subst e
    exact zp2_ifl (fun q => absurd q (by decide)) (fun _ => zp2_ifl (fun q => absurd q (by decide)) (fun _ => zp2_ifl (fun q => absurd q (by decide)) (fun _ => zp2_ifl (fun q => absurd q (by decide)) (fun _ => zp2_ifl (fun q => absurd q (by decide)) (fun _ => zp2_ifl (fun _ => zp2_ifr (fun _ => zp2_birp (t_l5 hI h hF hW (hn rfl)) (fun a t w q => zp2_some q)) (fun q => absurd (by decide) q)) (fun q => absurd rfl q))))))
  rcases zr_hd (c := 6) hz rfl with e | hz
  · subst e
    exact zp2_ifl (fun q => absurd q (by decide)) (fun _ => zp2_ifl (fun q => absurd q (by decide)) (fun _ => zp2_ifl (fun q => absurd q (by decide)) (fun _ => zp2_ifl (fun q => absurd q (by decide)) (fun _ => zp2_ifl (fun q => absurd q (by decide)) (fun _ => zp2_ifl (fun q => absurd q (by decide)) (fun _ => zp2_ifl (fun _ => zp2_ifr (fun _ => zp2_birp (t_l6 hI h hF hW hy) (fun a t w q => zp2_some q)) (fun q => absurd (by decide) q)) (fun q => absurd rfl q)))))))
  rcases zr_hd (c := 7) hz rfl with e | hz
  · subst e
    exact zp2_ifl (fun q => absurd q (by decide)) (fun _ => zp2_ifl (fun q => absurd q (by decide)) (fun _ => zp2_ifl (fun q => absurd q (by decide)) (fun _ => zp2_ifl (fun q => absurd q (by decide)) (fun _ => zp2_ifl (fun q => absurd q (by decide)) (fun _ => zp2_ifl (fun q => absurd q (by decide)) (fun _ => zp2_ifl (fun q => absurd q (by decide)) (fun _ => zp2_ifr (fun _ => zp2_birp (t_l7 hI h hF hy) (fun a t w q => zp2_some q)) (fun q => absurd (by decide) q))))))))
  exact zr_no9 hz (by decide)
theorem t_lx (hI : zIoK I) (hPo : zPorts I) (h : zTT I σ μ) (hF : zF σ μ) (hW : zWzz σ μ) (h28 : σ.1 36 28 = 0) {op : Int32} (hx : op >>> ((6 : Int32) &&& 31) = 3) (h3 : op &&& 7 = 3) (hn : ¬ (op >>> ((3 : Int32) &&& 31)) &&& 7 = 1) : zp2 (fX5_exchange σ ((op >>> ((3 : Int32) &&& 31)) &&& 7)) (fX12_plain μ op) (zEnq I) := by
  unfold fX12_plain fX12_plain_160
  rw [hx, h3]
  refine zp2_bvr (fun y' ey' => zp2_bvr (fun z ez => zp2_ifr (fun q => absurd q (by decide)) (fun _ => zp2_ifr (fun q => absurd q (by decide)) (fun _ => zp2_ifr (fun q => absurd q (by decide)) (fun _ => ?_)))))
  subst ey'
  subst ez
  refine zp2_ifr (fun q => absurd q (by decide)) (fun _ => ?_)
  rw [e_th2 (by decide) (by decide)]
  exact zp2_birp (t_exch hI hPo h hF hW h28 (z_r7 _) hn) (fun a t w q => zp2_some q)
theorem t_l4_r1 (hI : zIoK I) (h : zTT I σ μ) (hF : zF σ μ) {y : Int32} (hy : zr 0 7 y) : zp2 (zbi (fX5_holds σ y) (fun σ20 v21 => zbi (fX5_callIf σ20 v21) (fun σ22 v23 => some (σ22, v23)))) (fX12_more3_r1 μ y 4) (zEnq I) := by
  unfold fX12_more3_r1
  exact zp2_bvr (fun p _ => zp2_ifr (fun _ => t_callcc hI h hF hy) (fun q => absurd rfl q))
theorem t_l5_r1 (hI : zIoK I) (h : zTT I σ μ) (hF : zF σ μ) (hW : zWzz σ μ) {y : Int32} (hn : y = 0 ∨ y = 1 ∨ y = 2 ∨ y = 4 ∨ y = 6) : zp2 (if (y &&& 1) = 1 then zbi (fX5_callIf σ 1) (fun σ28 v29 => some (σ28, v29)) else if y = 6 then zbi (fX5_pairAt σ 0) (fun σ26 v27 => fX5_lastQuarter_178 σ26 v27) else zbi (fX5_pair σ (y >>> ((1 : Int32) &&& 31))) (fun σ24 v25 => fX5_lastQuarter_178 σ24 v25)) (fX12_more3_r1 μ y 5) (zEnq I) := by
  have pu : ∀ v : Int32, zr 0 65535 v → zp2 (fX5_lastQuarter_178 σ v) (fX12_more3_r1_119 μ v) (zEnq I) := fun v rv => by
    unfold fX5_lastQuarter_178 fX12_more3_r1_119
    refine zp2_buu (t_push hI h rfl rv) (fun s t q => zp2_some ?_)
    obtain ⟨h1, qc, qm⟩ := q
    exact ⟨h1, hF.of (qc.1 36 1 rfl) (qm.1 3 1 rfl), hW.of (qc.1 36 20 rfl) (qm.1 3 20 rfl), rfl⟩
  unfold fX12_more3_r1
  refine zp2_bvr (fun p ep => zp2_ifr (fun q => absurd q (by decide)) (fun _ => zp2_ifr (fun q => absurd q (by decide)) (fun _ => zp2_ifr (fun q => absurd q (by decide)) (fun _ => zp2_ckr ?_))))
  subst ep
  rcases hn with e | e | e | e | e
  · subst e
    refine zp2_ifl (fun q => absurd q (by decide)) (fun _ => zp2_ifl (fun q => absurd q (by decide)) (fun _ => zp2_ifr (fun _ => zp2_ifr (fun q => absurd q (by decide)) (fun _ => ?_)) (fun q => absurd (by decide) q)))
    exact zp2_sm (t_rp h (zr_c (by decide))) (fun v rv => pu v rv)
  · subst e
    refine zp2_ifl (fun _ => zp2_ifr (fun q => absurd q (by decide)) (fun _ => zp2_ifr (fun _ => ?_) (fun q => absurd (by decide) q))) (fun q => absurd (by decide) q)
    unfold fX5_callIf
    refine zp2_bilp (P := zEnq I) ?_ (fun s v b q => zp2_some q)
    refine t_wzw hI h hF (fun v s t rv h1 f1 w1 w2 ef => ?_)
    exact zp2_ifl (fun q => absurd q (by decide)) (fun _ => t_callnn hI h1 f1 rv w1 w2)
  · subst e
    refine zp2_ifl (fun q => absurd q (by decide)) (fun _ => zp2_ifl (fun q => absurd q (by decide)) (fun _ => zp2_ifr (fun _ => zp2_ifr (fun q => absurd q (by decide)) (fun _ => ?_)) (fun q => absurd (by decide) q)))
    exact zp2_sm (t_rp h (zr_c (by decide))) (fun v rv => pu v rv)
  · subst e
    refine zp2_ifl (fun q => absurd q (by decide)) (fun _ => zp2_ifl (fun q => absurd q (by decide)) (fun _ => zp2_ifr (fun _ => zp2_ifr (fun q => absurd q (by decide)) (fun _ => ?_)) (fun q => absurd (by decide) q)))
    exact zp2_sm (t_rp h (zr_c (by decide))) (fun v rv => pu v rv)
  · subst e
    refine zp2_ifl (fun q => absurd q (by decide)) (fun _ => zp2_ifl (fun _ => zp2_ifr (fun _ => zp2_ifr (fun _ => ?_) (fun q => absurd (by decide) q)) (fun q => absurd (by decide) q)) (fun q => absurd rfl q))
    exact zp2_sm (t_pair0 h hF) (fun v rv => pu v rv)
theorem t_l6_r1 (hI : zIoK I) (h : zTT I σ μ) (hF : zF σ μ) (hW : zWzz σ μ) {y : Int32} (hy : zr 0 7 y) : zp2 (zbi (fX5_fetch σ ) (fun σ30 v31 => zbu (fX5_doWith σ30 y v31) (fun σ32 => some (σ32, (7 : Int32))))) (fX12_more3_r1 μ y 6) (zEnq I) := by
  unfold fX12_more3_r1
  refine zp2_bvr (fun p _ => zp2_ifr (fun q => absurd q (by decide)) (fun _ => zp2_ifr (fun _ => zp2_bii (t_next hI h) (fun s v t v' q => ?_)) (fun q => absurd rfl q)))
  obtain ⟨h1, e1, rv, qc, qm⟩ := q
  have e1 : v' = v := e1
  subst e1
  refine zp2_buu (t_do hI h1 (hF.of (qc.1 36 1 rfl) (qm.1 3 1 rfl)) hy rv) (fun s2 t2 q2 => zp2_some ?_)
  obtain ⟨h2, f2, qc2, qm2⟩ := q2
  exact ⟨h2, f2, hW.of ((qc2.1 36 20 rfl).trans (qc.1 36 20 rfl)) ((qm2.1 3 20 rfl).trans (qm.1 3 20 rfl)), rfl⟩
theorem t_l7_r1 (hI : zIoK I) (h : zTT I σ μ) (hF : zF σ μ) {y : Int32} (hy : zr 0 7 y) : zp2 (fX5_lastQuarter_196 σ y) (fX12_more3_r1 μ y 7) (zEnq I) := by
  unfold fX5_lastQuarter_196 fX12_more3_r1
  refine zp2_bvr (fun p _ => zp2_ifr (fun q => absurd q (by decide)) (fun _ => zp2_ifr (fun q => absurd q (by decide)) (fun _ => zp2_ifr (fun _ => zp2_ckl ?_) (fun q => absurd rfl q))))
  exact t_callk hI h hF (z_8y hy) (fun s t h1 f1 w1 _ _ => zp2_some ⟨h1, f1, w1, rfl⟩)
theorem t_last_r1 (hI : zIoK I) (h : zTT I σ μ) (hF : zF σ μ) (hW : zWzz σ μ) {op : Int32} (hx : op >>> ((6 : Int32) &&& 31) = 3) (h3 : ¬ op &&& 7 = 3) (hn : op &&& 7 = 5 → ((op >>> ((3 : Int32) &&& 31)) &&& 7 = 0 ∨ (op >>> ((3 : Int32) &&& 31)) &&& 7 = 1 ∨ (op >>> ((3 : Int32) &&& 31)) &&& 7 = 2 ∨ (op >>> ((3 : Int32) &&& 31)) &&& 7 = 4 ∨ (op >>> ((3 : Int32) &&& 31)) &&& 7 = 6)) : zp2 (fX5_lastQuarter σ op) (fX12_plain_r1 μ op) (zEnq I) := by
  have hy : zr 0 7 ((op >>> ((3 : Int32) &&& 31)) &&& 7) := z_r7 _
  have hz : zr 0 7 (op &&& 7) := z_r7 _
  unfold fX5_lastQuarter fX12_plain_r1 fX12_plain_r1_160
  rw [hx]
  refine zp2_bvl (fun y ey => zp2_bvr (fun y' ey' => zp2_bvr (fun z ez => zp2_ifr (fun q => absurd q (by decide)) (fun _ => zp2_ifr (fun q => absurd q (by decide)) (fun _ => zp2_ifr (fun q => absurd q (by decide)) (fun _ => ?_))))))
  rw [← ey] at ey' hy hn
  subst ey'
  rw [← ez] at hz hn h3 ⊢
  clear ez
  rcases zr_hd (c := 0) hz rfl with e | hz
  · subst e
    exact zp2_ifl (fun _ => zp2_ifr (fun q => absurd q (by decide)) (fun _ => zp2_birp (t_l0 hI h hF hW hy) (fun a t w q => zp2_some q))) (fun q => absurd rfl q)
  rcases zr_hd (c := 1) hz rfl with e | hz
  · subst e
    exact zp2_ifl (fun q => absurd q (by decide)) (fun _ => zp2_ifl (fun _ => zp2_ifr (fun q => absurd q (by decide)) (fun _ => zp2_birp (t_l1 hI h hF hW hy) (fun a t w q => zp2_some q))) (fun q => absurd rfl q))
  rcases zr_hd (c := 2) hz rfl with e | hz
  · subst e
    rw [e_th2 (by decide) (by decide)]
    exact zp2_ifl (fun q => absurd q (by decide)) (fun _ => zp2_ifl (fun q => absurd q (by decide)) (fun _ => zp2_ifl (fun _ => zp2_ifr (fun q => absurd q (by decide)) (fun _ => zp2_birp (t_jpcc hI h hF hy) (fun a t w q => zp2_some q))) (fun q => absurd rfl q)))
  rcases zr_hd (c := 3) hz rfl with e | hz
  · exact absurd e h3
  rcases zr_hd (c := 4) hz rfl with e | hz
  · subst e
    exact zp2_ifl (fun q => absurd q (by decide)) (fun _ => zp2_ifl (fun q => absurd q (by decide)) (fun _ => zp2_ifl (fun q => absurd q (by decide)) (fun _ => zp2_ifl (fun q => absurd q (by decide)) (fun _ => zp2_ifl (fun _ => zp2_ifr (fun _ => zp2_birp (t_l4_r1 hI h hF hy) (fun a t w q => zp2_some q)) (fun q => absurd (by decide) q)) (fun q => absurd rfl q)))))
  rcases zr_hd (c := 5) hz rfl with e | hz
  · subst e
    exact zp2_ifl (fun q => absurd q (by decide)) (fun _ => zp2_ifl (fun q => absurd q (by decide)) (fun _ => zp2_ifl (fun q => absurd q (by decide)) (fun _ => zp2_ifl (fun q => absurd q (by decide)) (fun _ => zp2_ifl (fun q => absurd q (by decide)) (fun _ => zp2_ifl (fun _ => zp2_ifr (fun _ => zp2_birp (t_l5_r1 hI h hF hW (hn rfl)) (fun a t w q => zp2_some q)) (fun q => absurd (by decide) q)) (fun q => absurd rfl q))))))
  rcases zr_hd (c := 6) hz rfl with e | hz
  · subst e
    exact zp2_ifl (fun q => absurd q (by decide)) (fun _ => zp2_ifl (fun q => absurd q (by decide)) (fun _ => zp2_ifl (fun q => absurd q (by decide)) (fun _ => zp2_ifl (fun q => absurd q (by decide)) (fun _ => zp2_ifl (fun q => absurd q (by decide)) (fun _ => zp2_ifl (fun q => absurd q (by decide)) (fun _ => zp2_ifl (fun _ => zp2_ifr (fun _ => zp2_birp (t_l6_r1 hI h hF hW hy) (fun a t w q => zp2_some q)) (fun q => absurd (by decide) q)) (fun q => absurd rfl q)))))))
  rcases zr_hd (c := 7) hz rfl with e | hz
  · subst e
    exact zp2_ifl (fun q => absurd q (by decide)) (fun _ => zp2_ifl (fun q => absurd q (by decide)) (fun _ => zp2_ifl (fun q => absurd q (by decide)) (fun _ => zp2_ifl (fun q => absurd q (by decide)) (fun _ => zp2_ifl (fun q => absurd q (by decide)) (fun _ => zp2_ifl (fun q => absurd q (by decide)) (fun _ => zp2_ifl (fun q => absurd q (by decide)) (fun _ => zp2_ifr (fun _ => zp2_birp (t_l7_r1 hI h hF hy) (fun a t w q => zp2_some q)) (fun q => absurd (by decide) q))))))))
  exact zr_no9 hz (by decide)
theorem t_lx_r1 (hI : zIoK I) (hPo : zPorts I) (h : zTT I σ μ) (hF : zF σ μ) (hW : zWzz σ μ) (h28 : σ.1 36 28 = 0) {op : Int32} (hx : op >>> ((6 : Int32) &&& 31) = 3) (h3 : op &&& 7 = 3) (hn : ¬ (op >>> ((3 : Int32) &&& 31)) &&& 7 = 1) : zp2 (fX5_exchange σ ((op >>> ((3 : Int32) &&& 31)) &&& 7)) (fX12_plain_r1 μ op) (zEnq I) := by
  unfold fX12_plain_r1 fX12_plain_r1_160
  rw [hx, h3]
  refine zp2_bvr (fun y' ey' => zp2_bvr (fun z ez => zp2_ifr (fun q => absurd q (by decide)) (fun _ => zp2_ifr (fun q => absurd q (by decide)) (fun _ => zp2_ifr (fun q => absurd q (by decide)) (fun _ => ?_)))))
  subst ey'
  subst ez
  refine zp2_ifr (fun q => absurd q (by decide)) (fun _ => ?_)
  rw [e_th2 (by decide) (by decide)]
  exact zp2_birp (t_exch hI hPo h hF hW h28 (z_r7 _) hn) (fun a t w q => zp2_some q)
end ZQ5
