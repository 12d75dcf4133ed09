/-! DD CB, FD CB -/
section ZDD
variable {I : zSt → zSt → Prop} {σ μ : zSt}
theorem zp2_burx {α β : Type} {o p : Option zSt} {f : zSt → Option α} {g : zSt → Option β} {P : zSt → zSt → Prop} {Q : α → β → Prop} (h : zp2 o p P) (k : ∀ s t, P s t → zp2 (f s) (g t) Q) : zp2 (zbu o f) (zbu p g) Q := zp2_buu h k
theorem t_r6 (h : zTT I σ μ) (hp : zPlc σ μ) : zp2 (fX2_read σ (zgi σ 7 5)) (fX12_r μ 6) (fun r r' => r.1 = σ ∧ r'.1 = μ ∧ r'.2 = r.2 ∧ zr 0 255 r.2) := by
  unfold fX12_r fX12_r_73
  refine zp2_ifr (fun _ => ?_) (fun q => absurd rfl q)
  refine zp2_bir (p_m h hp) (fun t w et => ?_)
  cases et
  exact zp2_birp (h.1.rd rfl) (fun a t w q => zp2_some q)
/-- bits, behind DD CB -/
theorem t_dbit (hI : zIoK I) (h : zTT I σ μ) (hF : zF σ μ) (hW : zWzz σ μ) (hp : zPlc σ μ) (h32 : ¬ μ.1 0 32 = 0) {op : Int32} (x1 : op >>> ((6 : Int32) &&& 31) = 1) : zp2 (zbi (fX2_read σ (zgi σ 7 5)) (fun σ8 v9 => zck (zin 20 29) (zbu (fX5_askBit σ8 ((op >>> ((3 : Int32) &&& 31)) &&& 7) v9 ((zgi σ8 36 (20 : Int32).toNatClampNeg) >>> ((8 : Int32) &&& 31))) (fun σ14 => some (σ14, (20 : Int32)))))) (fX12_turn μ op) (fun r r' => zEnq I r (r'.1, 20)) := by
  unfold fX12_turn
  refine zp2_bvr (fun y ey => zp2_ifr (fun q => absurd q h32) (fun _ => ?_))
  unfold fX12_turn_23
  refine zp2_sm (t_r6 h hp) (fun v rv => zp2_bvr (fun x ex => ?_))
  have x1' : x = 1 := ex.trans x1
  refine zp2_ifr (fun _ => ?_) (fun q => absurd x1' q)
  refine zp2_bvr (fun w ew => zp2_bur p_by' (fun t2 e2 => ?_))
  subst e2
  have rw1 : zr 0 255 w := by rw [ew]; exact zr_andl (lo := 0) (hi := 255) rv (by decide)
  intro r r' er er'
  have em := p_bitM (μ := μ) (f := gby (μ.1 3 1) w) (z := 6) (v := v) (w := w) r' er'
  have hf : zr 0 255 (σ.1 36 1) := h.b (by decide)
  have hs : zr 0 255 (σ.1 36 20 >>> ((8 : Int32) &&& 31)) := z_hi (h.w (j := 20) (by decide) (by decide))
  have ef : μ.1 3 1 = σ.1 36 1 := hF
  have ew20 : μ.1 3 20 = σ.1 36 20 := hW
  rw [if_pos (rfl : (6 : Int32) = 6), ef, ew20, v_bit hf rw1 hs] at em
  have cC : zpc (zck (zin 20 29) (zbu (fX5_askBit σ ((op >>> ((3 : Int32) &&& 31)) &&& 7) v ((zgi σ 36 (20 : Int32).toNatClampNeg) >>> ((8 : Int32) &&& 31))) (fun σ14 => some (σ14, (20 : Int32))))) (fun r => r = (zsi σ 36 1 (cbit (σ.1 36 1) w (σ.1 36 20 >>> ((8 : Int32) &&& 31))), 20)) := by
    refine zpc_ck (zpc_bu p_bitC (fun s e => zpc_some ?_))
    rw [e, ew, ey]
    rfl
  rw [cC r er, em]
  exact ⟨(h.onC hI (Or.inl rfl) (zrg_b (Or.inl (by decide)) (r_bit hf rw1 hs))).onM hI (Or.inl rfl), rfl, hW, rfl⟩
/-- rotations, behind DD CB: up to the write -/
theorem t_drot (hI : zIoK I) (h : zTT I σ μ) (hF : zF σ μ) (hW : zWzz σ μ) (hp : zPlc σ μ) (h32 : ¬ μ.1 0 32 = 0) {op : Int32} (hx : zr 0 3 (op >>> ((6 : Int32) &&& 31))) (x1 : ¬ op >>> ((6 : Int32) &&& 31) = 1) : zp2 (zbi (fX2_read σ (zgi σ 7 5)) (fun σ8 v9 => zbi (fX5_turned σ8 op v9) (fun σ10 v11 => zbu (fX2_write σ10 (zgi σ10 7 5) v11) (fun σ12 => some (σ12, v11))))) (fX12_turn μ op) (fun r r' => zTT I r.1 r'.1 ∧ zF r.1 r'.1 ∧ zWzz r.1 r'.1 ∧ r'.1.1 0 33 = r.2 ∧ r'.2 = 15 ∧ zr 0 255 r.2) := by
  unfold fX12_turn
  refine zp2_bvr (fun y ey => zp2_ifr (fun q => absurd q h32) (fun _ => ?_))
  unfold fX12_turn_23
  refine zp2_sm (t_r6 h hp) (fun v rv => zp2_bvr (fun x ex => ?_))
  have x1' : ¬ x = 1 := fun q => x1 (ex.symm.trans q)
  refine zp2_ifr (fun q => absurd q x1') (fun _ => ?_)
  rw [ex, ey]
  unfold fX12_turn_191
  refine t_tk hI h hF hx x1 rv (g := fun t w => fX12_turn_193 t 6 w) (fun s t w h1 f1 qc qm rw1 => ?_)
  unfold fX12_turn_193 fX12_turn_219 fX12_rTo
  refine zp2_burx (P := fun s2 t2 => zTT I s2 t2 ∧ zQ [15, 17, 19] [] [] [] s s2 ∧ zQ [5, 6] [(3, 29, 32)] [] [] t t2) ?_ (fun s2 t2 q => zp2_bvr (fun t3 g3 => zp2_ifr (fun _ => zp2_some ?_) (fun q => absurd rfl q)))
  · refine zp2_bvr (fun u eu => ?_)
    have eu : u = w := eu.trans (z_m255 rw1)
    subst eu
    refine zp2_ifr (fun _ => ?_) (fun q => absurd rfl q)
    refine zp2_bir (p_m h1 (hp.of (qc.1 7 5 rfl) (qc.1 36 6 rfl) (qc.1 36 7 rfl) (qm.1 3 20 rfl) (qm.1 0 32 rfl))) (fun t0 w0 et => ?_)
    cases et
    refine zp2_burp (P := fun s2 t2 => zTT I s2 t2 ∧ zQ [15, 17, 19] [] [] [] s s2 ∧ zQ [5, 6] [(3, 29, 32)] [] [] t t2) (zp2_mono (h1.1.wr rfl (z_m255 rw1) rw1) (fun a b q => ⟨h1.mem hI q.1 q.2.1 q.2.2, q.2.1, q.2.2⟩)) (fun a t q => zp2_some q)
  · obtain ⟨h2, qc2, qm2⟩ := q
    subst g3
    exact ⟨h2.m33 hI, f1.of (qc2.1 36 1 rfl) (qm2.1 3 1 rfl), hW.of ((qc2.1 36 20 rfl).trans (qc.1 36 20 rfl)) ((qm2.1 3 20 rfl).trans (qm.1 3 20 rfl)), rfl, rfl, rw1⟩
end ZDD
