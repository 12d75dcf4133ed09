/-! FAR AND MOVES -/
section ZFA
variable {I : zSt → zSt → Prop} {σ μ : zSt}
theorem t_p0 (h : zTT I σ μ) : zp2 (fX5_pair σ 0) (fX12_pair μ 2) (fun r r' => r.1 = σ ∧ r'.1 = μ ∧ r'.2 = r.2 ∧ zr 0 65535 r.2) := by
  unfold fX5_pair
  exact zp2_ifl (fun _ => zp2_bilp (t_pair2 h) (fun s v b q => zp2_some q)) (fun q => absurd rfl q)
theorem t_p1 (h : zTT I σ μ) : zp2 (fX5_pair σ 1) (fX12_pair μ 4) (fun r r' => r.1 = σ ∧ r'.1 = μ ∧ r'.2 = r.2 ∧ zr 0 65535 r.2) := by
  unfold fX5_pair
  exact zp2_ifl (fun q => absurd q (by decide)) (fun _ => zp2_ifl (fun _ => zp2_bilp (t_pair4 h) (fun s v b q => zp2_some q)) (fun q => absurd rfl q))
/-- behind a read or a write: WZ is put on both sides -/
theorem zEnq.wz (hI : zIoK I) (h : zTT I σ μ) (hF : zF σ μ) {v w b : Int32} (e : w = v) (hv : zr 0 65535 v) : zEnq I (zsi σ 36 20 v, b) (zsi μ 3 20 w, b) := by
  subst e
  exact ⟨(h.onC hI (Or.inr rfl) (zrg_w (by decide) (by decide) hv)).onM hI (Or.inr rfl), hF, rfl, rfl⟩
theorem z_awz {a v : Int32} (ha : zr 0 255 a) : zr 0 65535 ((a <<< ((8 : Int32) &&& 31)) ||| ((v + 1) &&& 255)) := z_rw' ha (z_r8 _)
theorem t_far (hI : zIoK I) (h : zTT I σ μ) (hF : zF σ μ) {y : Int32} (hy : zr 0 7 y) : zp2 (fX5_far σ y) (fX12_moves μ (y >>> ((1 : Int32) &&& 31)) (y &&& 1)) (zEnq I) := by
  unfold fX5_far fX12_moves fX5_far_12 fX12_moves_15 fX12_moves_114 fX12_moves_160 fX12_moves_195 fX12_moves_201 fX12_moves_85 fX12_moves_214
  rcases zr_hd (c := 0) hy rfl with e | hy
  · subst e
    refine zp2_ifl (fun q => absurd q (by decide)) (fun _ => ?_)
    refine zp2_ifl (fun q => absurd q (by decide)) (fun _ => zp2_ifr (fun q => absurd q (by decide)) (fun _ => ?_))
    refine zp2_ifr (fun _ => ?_) (fun q => absurd (by decide) q)
    refine zp2_bii (t_p0 h) (fun s v t v' q => ?_)
    obtain ⟨q1, q2, q3, rv⟩ := q
    have q1 : s = σ := q1
    have q2 : t = μ := q2
    have q3 : v' = v := q3
    subst q1
    subst q2
    subst q3
    have rv : zr 0 65535 v' := rv
    unfold fX5_far_32 fX5_far_140 fX5_far_152 fX5_far_78
    refine zp2_ckl (zp2_bvl (fun s1 f1 => ?_))
    have h1 : zTT I s1 t := by rw [f1]; exact h.onC hI (Or.inr rfl) (zrg_w (by decide) (by decide) (z_r16 _))
    have F1 : zF s1 t := hF.of (by rw [f1]; rfl) rfl
    have wz : s1 = zsi s1 36 20 ((v' + 1) &&& 65535) := by rw [f1]; exact zsi_ow.symm
    refine zp2_ifl (fun q => absurd q (by decide)) (fun _ => ?_)
    refine zp2_ifl (fun _ => zp2_ckl (zp2_ifr (fun _ => zp2_ckr ?_) (fun q => absurd (by decide) q))) (fun q => absurd rfl q)
    refine zp2_wr h1.1 rfl (by rw [show zgi t 3 (0 : Int32).toNatClampNeg = s1.1 36 0 from h1.eq (by decide)]; exact z_m255 (h1.b (by decide))) (h1.b (j := 0) (by decide)) (fun s3 t3 hm qc3 qm3 => ?_)
    have h3 := h1.mem hI hm qc3 qm3
    have ea : zgi t3 3 (0 : Int32).toNatClampNeg = zgi s3 36 (0 : Int32).toNatClampNeg := h3.eq (by decide)
    refine zp2_ckl (zp2_ckl (zp2_bvl (fun s4 f4 => zp2_ifl (fun q => absurd q (by decide)) (fun _ => ?_))))
    refine zp2_ckr (zp2_ckr (zp2_bvr (fun t4 g4 => zp2_some ?_)))
    rw [f4, g4]
    exact zEnq.wz hI h3 (F1.of (qc3.1 36 1 rfl) (qm3.1 3 1 rfl)) (by rw [ea]) (z_awz (h3.b (j := 0) (by decide)))
  rcases zr_hd (c := 1) hy rfl with e | hy
  · subst e
    refine zp2_ifl (fun _ => ?_) (fun q => absurd rfl q)
    refine zp2_ifl (fun q => absurd q (by decide)) (fun _ => zp2_ifr (fun q => absurd q (by decide)) (fun _ => ?_))
    refine zp2_ifr (fun _ => ?_) (fun q => absurd (by decide) q)
    refine zp2_bii (t_p0 h) (fun s v t v' q => ?_)
    obtain ⟨q1, q2, q3, rv⟩ := q
    have q1 : s = σ := q1
    have q2 : t = μ := q2
    have q3 : v' = v := q3
    subst q1
    subst q2
    subst q3
    have rv : zr 0 65535 v' := rv
    unfold fX5_far_32 fX5_far_140 fX5_far_152 fX5_far_78
    refine zp2_ckl (zp2_bvl (fun s1 f1 => ?_))
    have h1 : zTT I s1 t := by rw [f1]; exact h.onC hI (Or.inr rfl) (zrg_w (by decide) (by decide) (z_r16 _))
    have F1 : zF s1 t := hF.of (by rw [f1]; rfl) rfl
    have wz : s1 = zsi s1 36 20 ((v' + 1) &&& 65535) := by rw [f1]; exact zsi_ow.symm
    refine zp2_ifl (fun q => absurd q (by decide)) (fun _ => ?_)
    refine zp2_ifl (fun q => absurd q (by decide)) (fun _ => zp2_ifr (fun q => absurd q (by decide)) (fun _ => ?_))
    refine zp2_rd h1.1 rfl (fun b rb => zp2_ckl (zp2_bvl (fun s4 f4 => zp2_ifl (fun q => absurd q (by decide)) (fun _ => ?_))))
    refine zp2_ckr (zp2_bvr (fun t3 g3 => ?_))
    have h3 : zTT I s4 t3 := h1.upd hI [0] (by rw [f4]; exact zQ.wi zQ.rf rfl) (by rw [g3]; exact zQ.wi zQ.rf rfl) rfl (zAl1 ⟨by rw [f4, g3]; rfl, by rw [f4]; exact zrg_b (Or.inl (by decide)) rb⟩)
    have F3 : zF s4 t3 := F1.of (by rw [f4]; rfl) (by rw [g3]; rfl)
    have w3 : s4 = zsi s4 36 20 ((v' + 1) &&& 65535) := by
      have e : s4.1 36 20 = (v' + 1) &&& 65535 := by rw [f4, f1]; rfl
      rw [← e]; exact zsi_own.symm
    refine zp2_ckr (zp2_bvr (fun t4 g4 => zp2_some ?_))
    rw [w3, g4]
    exact zEnq.wz hI h3 F3 rfl (z_r16 _)
  rcases zr_hd (c := 2) hy rfl with e | hy
  · subst e
    refine zp2_ifl (fun q => absurd q (by decide)) (fun _ => ?_)
    refine zp2_ifl (fun q => absurd q (by decide)) (fun _ => zp2_ifr (fun q => absurd q (by decide)) (fun _ => ?_))
    refine zp2_ifr (fun q => absurd q (by decide)) (fun _ => ?_)
    refine zp2_bii (t_p1 h) (fun s v t v' q => ?_)
    obtain ⟨q1, q2, q3, rv⟩ := q
    have q1 : s = σ := q1
    have q2 : t = μ := q2
    have q3 : v' = v := q3
    subst q1
    subst q2
    subst q3
    have rv : zr 0 65535 v' := rv
    unfold fX5_far_32 fX5_far_140 fX5_far_152 fX5_far_78
    refine zp2_ckl (zp2_bvl (fun s1 f1 => ?_))
    have h1 : zTT I s1 t := by rw [f1]; exact h.onC hI (Or.inr rfl) (zrg_w (by decide) (by decide) (z_r16 _))
    have F1 : zF s1 t := hF.of (by rw [f1]; rfl) rfl
    have wz : s1 = zsi s1 36 20 ((v' + 1) &&& 65535) := by rw [f1]; exact zsi_ow.symm
    refine zp2_ifl (fun q => absurd q (by decide)) (fun _ => ?_)
    refine zp2_ifl (fun _ => zp2_ckl (zp2_ifr (fun _ => zp2_ckr ?_) (fun q => absurd (by decide) q))) (fun q => absurd rfl q)
    refine zp2_wr h1.1 rfl (by rw [show zgi t 3 (0 : Int32).toNatClampNeg = s1.1 36 0 from h1.eq (by decide)]; exact z_m255 (h1.b (by decide))) (h1.b (j := 0) (by decide)) (fun s3 t3 hm qc3 qm3 => ?_)
    have h3 := h1.mem hI hm qc3 qm3
    have ea : zgi t3 3 (0 : Int32).toNatClampNeg = zgi s3 36 (0 : Int32).toNatClampNeg := h3.eq (by decide)
    refine zp2_ckl (zp2_ckl (zp2_bvl (fun s4 f4 => zp2_ifl (fun q => absurd q (by decide)) (fun _ => ?_))))
    refine zp2_ckr (zp2_ckr (zp2_bvr (fun t4 g4 => zp2_some ?_)))
    rw [f4, g4]
    exact zEnq.wz hI h3 (F1.of (qc3.1 36 1 rfl) (qm3.1 3 1 rfl)) (by rw [ea]) (z_awz (h3.b (j := 0) (by decide)))
  rcases zr_hd (c := 3) hy rfl with e | hy
  · subst e
    refine zp2_ifl (fun _ => ?_) (fun q => absurd rfl q)
    refine zp2_ifl (fun q => absurd q (by decide)) (fun _ => zp2_ifr (fun q => absurd q (by decide)) (fun _ => ?_))
    refine zp2_ifr (fun q => absurd q (by decide)) (fun _ => ?_)
    refine zp2_bii (t_p1 h) (fun s v t v' q => ?_)
    obtain ⟨q1, q2, q3, rv⟩ := q
    have q1 : s = σ := q1
    have q2 : t = μ := q2
    have q3 : v' = v := q3
    subst q1
    subst q2
    subst q3
    have rv : zr 0 65535 v' := rv
    unfold fX5_far_32 fX5_far_140 fX5_far_152 fX5_far_78
    refine zp2_ckl (zp2_bvl (fun s1 f1 => ?_))
    have h1 : zTT I s1 t := by rw [f1]; exact h.onC hI (Or.inr rfl) (zrg_w (by decide) (by decide) (z_r16 _))
    have F1 : zF s1 t := hF.of (by rw [f1]; rfl) rfl
    have wz : s1 = zsi s1 36 20 ((v' + 1) &&& 65535) := by rw [f1]; exact zsi_ow.symm
    refine zp2_ifl (fun q => absurd q (by decide)) (fun _ => ?_)
    refine zp2_ifl (fun q => absurd q (by decide)) (fun _ => zp2_ifr (fun q => absurd q (by decide)) (fun _ => ?_))
    refine zp2_rd h1.1 rfl (fun b rb => zp2_ckl (zp2_bvl (fun s4 f4 => zp2_ifl (fun q => absurd q (by decide)) (fun _ => ?_))))
    refine zp2_ckr (zp2_bvr (fun t3 g3 => ?_))
    have h3 : zTT I s4 t3 := h1.upd hI [0] (by rw [f4]; exact zQ.wi zQ.rf rfl) (by rw [g3]; exact zQ.wi zQ.rf rfl) rfl (zAl1 ⟨by rw [f4, g3]; rfl, by rw [f4]; exact zrg_b (Or.inl (by decide)) rb⟩)
    have F3 : zF s4 t3 := F1.of (by rw [f4]; rfl) (by rw [g3]; rfl)
    have w3 : s4 = zsi s4 36 20 ((v' + 1) &&& 65535) := by
      have e : s4.1 36 20 = (v' + 1) &&& 65535 := by rw [f4, f1]; rfl
      rw [← e]; exact zsi_own.symm
    refine zp2_ckr (zp2_bvr (fun t4 g4 => zp2_some ?_))
    rw [w3, g4]
    exact zEnq.wz hI h3 F3 rfl (z_r16 _)
  rcases zr_hd (c := 4) hy rfl with e | hy
  · subst e
    refine zp2_ifl (fun q => absurd q (by decide)) (fun _ => ?_)
    refine zp2_ifl (fun _ => zp2_ifr (fun _ => ?_) (fun q => absurd (by decide) q)) (fun q => absurd (by decide) q)
    refine zp2_bii (t_word hI h) (fun s v t v' q => ?_)
    obtain ⟨h0, e1, rv, qc, qm⟩ := q
    have e1 : v' = v := e1
    subst e1
    have hF : zF s t := hF.of (qc.1 36 1 rfl) (qm.1 3 1 rfl)
    have h := h0
    have rv : zr 0 65535 v' := rv
    unfold fX5_far_32 fX5_far_140 fX5_far_152 fX5_far_78
    refine zp2_ckl (zp2_bvl (fun s1 f1 => ?_))
    have h1 : zTT I s1 t := by rw [f1]; exact h.onC hI (Or.inr rfl) (zrg_w (by decide) (by decide) (z_r16 _))
    have F1 : zF s1 t := hF.of (by rw [f1]; rfl) rfl
    have wz : s1 = zsi s1 36 20 ((v' + 1) &&& 65535) := by rw [f1]; exact zsi_ow.symm
    refine zp2_ifl (fun _ => ?_) (fun q => absurd (by decide) q)
    refine zp2_ifr (fun _ => ?_) (fun q => absurd (by decide) q)
    refine zp2_ifl (fun _ => zp2_ifr (fun _ => zp2_ifr (fun _ => ?_) (fun q => absurd (by decide) q)) (fun q => absurd (by decide) q)) (fun q => absurd rfl q)
    refine zp2_bii (t_hl h1) (fun s2 w t2 w' q => ?_)
    obtain ⟨q1, q2, q3, rw1⟩ := q
    have q1 : s2 = s1 := q1
    have q2 : t2 = t := q2
    have q3 : w' = w := q3
    subst q1
    subst q2
    subst q3
    refine zp2_buu (t_wword h1.1 rfl rfl rw1) (fun s3 t3 q => ?_)
    obtain ⟨hm, qc3, qm3⟩ := q
    have h3 := h1.mem hI hm qc3 qm3
    refine zp2_ifr (fun q => absurd q (by decide)) (fun _ => zp2_ckr (zp2_bvr (fun t4 g4 => zp2_ifr (fun _ => zp2_some ?_) (fun q => absurd (by decide) q))))
    have w3 : s3 = zsi s3 36 20 ((v' + 1) &&& 65535) := by
      have e : s3.1 36 20 = (v' + 1) &&& 65535 := by rw [qc3.1 36 20 rfl, f1]; rfl
      rw [← e]; exact zsi_own.symm
    rw [w3, g4]
    exact zEnq.wz hI h3 (F1.of (qc3.1 36 1 rfl) (qm3.1 3 1 rfl)) rfl (z_r16 _)
  rcases zr_hd (c := 5) hy rfl with e | hy
  · subst e
    refine zp2_ifl (fun _ => ?_) (fun q => absurd rfl q)
    refine zp2_ifl (fun _ => zp2_ifr (fun _ => ?_) (fun q => absurd (by decide) q)) (fun q => absurd (by decide) q)
    refine zp2_bii (t_word hI h) (fun s v t v' q => ?_)
    obtain ⟨h0, e1, rv, qc, qm⟩ := q
    have e1 : v' = v := e1
    subst e1
    have hF : zF s t := hF.of (qc.1 36 1 rfl) (qm.1 3 1 rfl)
    have h := h0
    have rv : zr 0 65535 v' := rv
    unfold fX5_far_32 fX5_far_140 fX5_far_152 fX5_far_78
    refine zp2_ckl (zp2_bvl (fun s1 f1 => ?_))
    have h1 : zTT I s1 t := by rw [f1]; exact h.onC hI (Or.inr rfl) (zrg_w (by decide) (by decide) (z_r16 _))
    have F1 : zF s1 t := hF.of (by rw [f1]; rfl) rfl
    have wz : s1 = zsi s1 36 20 ((v' + 1) &&& 65535) := by rw [f1]; exact zsi_ow.symm
    refine zp2_ifl (fun _ => ?_) (fun q => absurd (by decide) q)
    refine zp2_ifr (fun _ => ?_) (fun q => absurd (by decide) q)
    refine zp2_ifl (fun q => absurd q (by decide)) (fun _ => zp2_ifr (fun q => absurd q (by decide)) (fun _ => ?_))
    refine zp2_bii (t_rword h1.1 rfl) (fun s2 w t2 w' q => ?_)
    obtain ⟨q1, q2, q3, rw1⟩ := q
    have q1 : s2 = s1 := q1
    have q2 : t2 = t := q2
    have q3 : w' = w := q3
    subst q1
    subst q2
    subst q3
    refine zp2_buu (t_hlTo hI h1 rfl) (fun s3 t3 q => ?_)
    obtain ⟨h3, qc3, qm3⟩ := q
    refine zp2_ifr (fun q => absurd q (by decide)) (fun _ => zp2_ckr (zp2_bvr (fun t4 g4 => zp2_ifr (fun _ => zp2_some ?_) (fun q => absurd (by decide) q))))
    have w3 : s3 = zsi s3 36 20 ((v' + 1) &&& 65535) := by
      have e : s3.1 36 20 = (v' + 1) &&& 65535 := by rw [qc3.1 36 20 rfl, f1]; rfl
      rw [← e]; exact zsi_own.symm
    rw [w3, g4]
    exact zEnq.wz hI h3 (F1.of (qc3.1 36 1 rfl) (qm3.1 3 1 rfl)) rfl (z_r16 _)
  rcases zr_hd (c := 6) hy rfl with e | hy
  · subst e
    refine zp2_ifl (fun q => absurd q (by decide)) (fun _ => ?_)
    refine zp2_ifl (fun _ => zp2_ifr (fun _ => ?_) (fun q => absurd (by decide) q)) (fun q => absurd (by decide) q)
    refine zp2_bii (t_word hI h) (fun s v t v' q => ?_)
    obtain ⟨h0, e1, rv, qc, qm⟩ := q
    have e1 : v' = v := e1
    subst e1
    have hF : zF s t := hF.of (qc.1 36 1 rfl) (qm.1 3 1 rfl)
    have h := h0
    have rv : zr 0 65535 v' := rv
    unfold fX5_far_32 fX5_far_140 fX5_far_152 fX5_far_78
    refine zp2_ckl (zp2_bvl (fun s1 f1 => ?_))
    have h1 : zTT I s1 t := by rw [f1]; exact h.onC hI (Or.inr rfl) (zrg_w (by decide) (by decide) (z_r16 _))
    have F1 : zF s1 t := hF.of (by rw [f1]; rfl) rfl
    have wz : s1 = zsi s1 36 20 ((v' + 1) &&& 65535) := by rw [f1]; exact zsi_ow.symm
    refine zp2_ifl (fun q => absurd q (by decide)) (fun _ => ?_)
    refine zp2_ifr (fun q => absurd q (by decide)) (fun _ => zp2_ifr (fun q => absurd q (by decide)) (fun _ => ?_))
    refine zp2_ifl (fun _ => zp2_ckl (zp2_ifr (fun _ => zp2_ckr ?_) (fun q => absurd (by decide) q))) (fun q => absurd rfl q)
    refine zp2_wr h1.1 rfl (by rw [show zgi t 3 (0 : Int32).toNatClampNeg = s1.1 36 0 from h1.eq (by decide)]; exact z_m255 (h1.b (by decide))) (h1.b (j := 0) (by decide)) (fun s3 t3 hm qc3 qm3 => ?_)
    have h3 := h1.mem hI hm qc3 qm3
    have ea : zgi t3 3 (0 : Int32).toNatClampNeg = zgi s3 36 (0 : Int32).toNatClampNeg := h3.eq (by decide)
    refine zp2_ckl (zp2_ckl (zp2_bvl (fun s4 f4 => zp2_ifl (fun _ => ?_) (fun q => absurd (by decide) q))))
    refine zp2_ifr (fun _ => zp2_ifr (fun _ => zp2_ckr (zp2_ckr (zp2_bvr (fun t4 g4 => zp2_ifr (fun q => absurd q (by decide)) (fun _ => zp2_some ?_))))) (fun q => absurd (by decide) q)) (fun q => absurd (by decide) q)
    rw [f4, g4]
    exact zEnq.wz hI h3 (F1.of (qc3.1 36 1 rfl) (qm3.1 3 1 rfl)) (by rw [ea]) (z_awz (h3.b (j := 0) (by decide)))
  rcases zr_hd (c := 7) hy rfl with e | hy
  · subst e
    refine zp2_ifl (fun _ => ?_) (fun q => absurd rfl q)
    refine zp2_ifl (fun _ => zp2_ifr (fun _ => ?_) (fun q => absurd (by decide) q)) (fun q => absurd (by decide) q)
    refine zp2_bii (t_word hI h) (fun s v t v' q => ?_)
    obtain ⟨h0, e1, rv, qc, qm⟩ := q
    have e1 : v' = v := e1
    subst e1
    have hF : zF s t := hF.of (qc.1 36 1 rfl) (qm.1 3 1 rfl)
    have h := h0
    have rv : zr 0 65535 v' := rv
    unfold fX5_far_32 fX5_far_140 fX5_far_152 fX5_far_78
    refine zp2_ckl (zp2_bvl (fun s1 f1 => ?_))
    have h1 : zTT I s1 t := by rw [f1]; exact h.onC hI (Or.inr rfl) (zrg_w (by decide) (by decide) (z_r16 _))
    have F1 : zF s1 t := hF.of (by rw [f1]; rfl) rfl
    have wz : s1 = zsi s1 36 20 ((v' + 1) &&& 65535) := by rw [f1]; exact zsi_ow.symm
    refine zp2_ifl (fun q => absurd q (by decide)) (fun _ => ?_)
    refine zp2_ifr (fun q => absurd q (by decide)) (fun _ => zp2_ifr (fun q => absurd q (by decide)) (fun _ => ?_))
    refine zp2_ifl (fun q => absurd q (by decide)) (fun _ => zp2_ifr (fun q => absurd q (by decide)) (fun _ => ?_))
    refine zp2_rd h1.1 rfl (fun b rb => zp2_ckl (zp2_bvl (fun s4 f4 => zp2_ifl (fun _ => ?_) (fun q => absurd (by decide) q))))
    refine zp2_ckr (zp2_bvr (fun t3 g3 => ?_))
    have h3 : zTT I s4 t3 := h1.upd hI [0] (by rw [f4]; exact zQ.wi zQ.rf rfl) (by rw [g3]; exact zQ.wi zQ.rf rfl) rfl (zAl1 ⟨by rw [f4, g3]; rfl, by rw [f4]; exact zrg_b (Or.inl (by decide)) rb⟩)
    have F3 : zF s4 t3 := F1.of (by rw [f4]; rfl) (by rw [g3]; rfl)
    have w3 : s4 = zsi s4 36 20 ((v' + 1) &&& 65535) := by
      have e : s4.1 36 20 = (v' + 1) &&& 65535 := by rw [f4, f1]; rfl
      rw [← e]; exact zsi_own.symm
    refine zp2_ifr (fun _ => zp2_ifr (fun q => absurd q (by decide)) (fun _ => zp2_ckr (zp2_bvr (fun t4 g4 => zp2_ifr (fun q => absurd q (by decide)) (fun _ => zp2_some ?_))))) (fun q => absurd (by decide) q)
    rw [w3, g4]
    exact zEnq.wz hI h3 F3 rfl (z_r16 _)
  exact zr_no9 hy (by decide)
end ZFA
