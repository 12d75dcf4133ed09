/-! CB -/
theorem v_1y : ∀ i : Fin 8, 0 ≤ ((1 : Int32) <<< (Int32.ofNat i.val &&& 31)).toInt ∧ ((1 : Int32) <<< (Int32.ofNat i.val &&& 31)).toInt ≤ 255 := by decide
theorem z_1y {y : Int32} (h : zr 0 7 y) : zr 0 255 (1 <<< (y &&& 31)) := by
  obtain ⟨i, e⟩ := z_fin8 h
  subst e
  exact v_1y i
def cbit (f w s : Int32) : Int32 := ((((f &&& 1) ||| (w &&& 128)) ||| (if w = 0 then 68 else 0)) ||| 16) ||| (s &&& 40)
theorem v_bitf : ∀ i : Fin 256, ∀ c x y : Bool, zfl (d7 (Int32.ofNat i.val)) (d6 (Int32.ofNat i.val)) x true y (bc (if Int32.ofNat i.val = 0 then 1 else 0)) false c = ((((bif c then 1 else 0) ||| (Int32.ofNat i.val &&& 128)) ||| (if Int32.ofNat i.val = 0 then 68 else 0)) ||| 16) ||| ((bif x then 32 else 0) ||| (bif y then 8 else 0)) := by decide +kernel
theorem v_bit {f w s : Int32} (hf : zr 0 255 f) (hw : zr 0 255 w) (hs : zr 0 255 s) : gxy (pt (pt (pt (gby f w) 2 (if w = 0 then 1 else 0)) 4 1) 1 0) s = cbit f w s := by
  unfold cbit
  rw [z_40 hs, z_f1 hf]
  obtain ⟨i, e⟩ := z_byteF hw
  subst e
  rw [← v_bitf i]
  conv => lhs; rw [fl_of hf, fl_by, pt_2, pt_4, pt_1, fl_xy]
  rfl
theorem r_bit {f w s : Int32} (hf : zr 0 255 f) (hw : zr 0 255 w) (hs : zr 0 255 s) : zr 0 255 (cbit f w s) := by
  rw [← v_bit hf hw hs, fl_of hf, fl_by, pt_2, pt_4, pt_1, fl_xy]
  exact zfl_r _ _ _ _ _ _ _ _
section ZCB
variable {I : zSt → zSt → Prop} {σ μ : zSt}
theorem zTT.m33 (hI : zIoK I) (h : zTT I σ μ) {w : Int32} : zTT I σ (zsi μ 0 33 w) := ⟨h.1.keep zQ.rf (zQ.wi zQ.rf rfl), ⟨fun j a b c => h.2.1.1 j a b c, h.2.1.2.1, h.2.1.2.2.1, h.2.1.2.2.2⟩, h.2.2.1.of rfl rfl, hI _ _ _ _ h.2.2.2 zQ.rf (zQ.wi zQ.rf rfl)⟩
theorem p_bitC {y v s : Int32} : zpc (fX5_askBit σ y v s) (fun r => r = zsi σ 36 1 (cbit (σ.1 36 1) (v &&& (1 <<< (y &&& 31))) s)) := by
  unfold fX5_askBit cbit
  refine zpc_bv (fun w ew => zpc_ck ?_)
  subst ew
  refine zpc_jx (K := fun x => fX5_askBit_38 σ s x (((zgi σ 36 (1 : Int32).toNatClampNeg) &&& 1) ||| ((v &&& ((1 : Int32) <<< (y &&& 31))) &&& 128)) 1) (a := 68) (b := 0) rfl rfl (fun x ex => ?_)
  unfold fX5_askBit_38
  refine zpc_ck (zpc_bv (fun t et => zpc_some ?_))
  rw [et, ex]
  rfl
theorem p_bitM {f z v w : Int32} : zpc (if w = 0 then fX12_turn_69 (zsi μ 3 1 f) z v 1 2 else fX12_turn_69 (zsi μ 3 1 f) z v 0 2) (fun r => r = (zsi μ 3 1 (gxy (pt (pt (pt f 2 (if w = 0 then 1 else 0)) 4 1) 1 0) (if z = 6 then μ.1 3 20 >>> ((8 : Int32) &&& 31) else v)), if z = 6 then 12 else 8)) := by
  refine zpc_jx (K := fun x => fX12_turn_69 (zsi μ 3 1 f) z v x 2) (a := 1) (b := 0) rfl rfl (fun x ex => ?_)
  unfold fX12_turn_69 fX12_turn_106 fX12_turn_122
  refine zpc_bu p_put (fun s e => ?_)
  subst e
  refine zpc_bu p_put (fun s e => ?_)
  subst e
  refine zpc_bu p_put (fun s e => ?_)
  subst e
  refine zpc_if (fun q => zpc_ck (zpc_bu p_xy (fun s e => zpc_if (fun _ => zpc_some ?_) (fun r => absurd q r)))) (fun q => zpc_bu p_xy (fun s e => zpc_if (fun r => absurd r q) (fun _ => zpc_some ?_)))
  · rw [e, ex, if_pos q, if_pos q]; rfl
  · rw [e, ex, if_neg q, if_neg q]
theorem t_rot0 (hI : zIoK I) (h : zTT I σ μ) (hF : zF σ μ) {v : Int32} (rv : zr 0 255 v) {α β : Type} {Q : α → β → Prop} {f : zSt → Int32 → Option α} {g : zSt → Int32 → Option β} (k : ∀ s t w, zTT I s t → zF s t → zQ [] [(36, 1, 1)] [] [] σ s → zQ [] [(3, 1, 1)] [] [] μ t → zr 0 255 w → zp2 (f s w) (g t w) Q) : zp2 (zbi (fX5_turn σ 0 v) f) (zbi (fX12_turned μ 0 v) (fun σ10 v11 => zbu (fX12_by σ10 v11) (fun σ12 => zbi (fX12_isEven σ12 v11) (fun σ13 v14 => zbu (fX12_put σ13 2 v14) (fun σ15 => zbu (fX12_put σ15 4 0) (fun σ16 => zbu (fX12_put σ16 1 0) (fun σ17 => g σ17 v11))))))) Q := by
  have ef : μ.1 3 1 = σ.1 36 1 := hF
  have hf : zr 0 255 (σ.1 36 1) := h.b (by decide)
  have hwo : zr 0 255 (((v <<< ((1 : Int32) &&& 31)) &&& 255) ||| (v >>> ((7 : Int32) &&& 31))) ∧ zr 0 1 (v >>> ((7 : Int32) &&& 31)) := by
    obtain ⟨i, ei⟩ := z_byteF rv
    obtain ⟨m, em⟩ := z_bit1 (z_r1 (σ.1 36 1))
    rw [ei]
    exact ⟨(v_rotf0 i m).1, (v_rotf0 i m).2⟩
  have cM := p_rotM0 (μ := μ) (v := v)
  rw [ef] at cM
  refine zp2_bil p_rotC0 (fun s w1 e => zp2_bir cM (fun t w2 e' => ?_))
  cases e
  cases e'
  obtain ⟨rw1, ro⟩ := hwo
  generalize ((v <<< ((1 : Int32) &&& 31)) &&& 255) ||| (v >>> ((7 : Int32) &&& 31)) = w at rw1
  refine zp2_bur p_by (fun t2 e2 => ?_)
  subst e2
  refine zp2_bir p_even (fun t3 v3 e3 => ?_)
  cases e3
  refine zp2_bur p_put (fun t2 e2 => ?_)
  subst e2
  refine zp2_bur p_put (fun t2 e2 => ?_)
  subst e2
  refine zp2_bur p_put (fun t2 e2 => ?_)
  have eF : pt (pt (pt (gby (pt (σ.1 36 1) 0 (if v >>> ((7 : Int32) &&& 31) = 1 then 1 else 0)) w) 2 (gev w)) 4 0) 1 0 = crot w (v >>> ((7 : Int32) &&& 31)) := by
    rw [← v_rt rw1 ro, fl_of hf, pt_0, fl_by, pt_2, pt_4, pt_1]
    rfl
  rw [eF] at e2
  subst e2
  have rF : zr 0 255 (crot w (v >>> ((7 : Int32) &&& 31))) := by rw [← v_rt rw1 ro]; exact zfl_r _ _ _ _ _ _ _ _
  exact k _ _ w ((h.onC hI (Or.inl rfl) (zrg_b (Or.inl (by decide)) rF)).onM hI (Or.inl rfl)) rfl (zQ.wi zQ.rf rfl) (zQ.wi zQ.rf rfl) rw1
theorem t_rot1 (hI : zIoK I) (h : zTT I σ μ) (hF : zF σ μ) {v : Int32} (rv : zr 0 255 v) {α β : Type} {Q : α → β → Prop} {f : zSt → Int32 → Option α} {g : zSt → Int32 → Option β} (k : ∀ s t w, zTT I s t → zF s t → zQ [] [(36, 1, 1)] [] [] σ s → zQ [] [(3, 1, 1)] [] [] μ t → zr 0 255 w → zp2 (f s w) (g t w) Q) : zp2 (zbi (fX5_turn σ 1 v) f) (zbi (fX12_turned μ 1 v) (fun σ10 v11 => zbu (fX12_by σ10 v11) (fun σ12 => zbi (fX12_isEven σ12 v11) (fun σ13 v14 => zbu (fX12_put σ13 2 v14) (fun σ15 => zbu (fX12_put σ15 4 0) (fun σ16 => zbu (fX12_put σ16 1 0) (fun σ17 => g σ17 v11))))))) Q := by
  have ef : μ.1 3 1 = σ.1 36 1 := hF
  have hf : zr 0 255 (σ.1 36 1) := h.b (by decide)
  have hwo : zr 0 255 ((v >>> ((1 : Int32) &&& 31)) ||| ((v &&& 1) <<< ((7 : Int32) &&& 31))) ∧ zr 0 1 (v &&& 1) := by
    obtain ⟨i, ei⟩ := z_byteF rv
    obtain ⟨m, em⟩ := z_bit1 (z_r1 (σ.1 36 1))
    rw [ei]
    exact ⟨(v_rotf1 i m).1, (v_rotf1 i m).2⟩
  have cM := p_rotM1 (μ := μ) (v := v)
  rw [ef] at cM
  refine zp2_bil p_rotC1 (fun s w1 e => zp2_bir cM (fun t w2 e' => ?_))
  cases e
  cases e'
  obtain ⟨rw1, ro⟩ := hwo
  generalize (v >>> ((1 : Int32) &&& 31)) ||| ((v &&& 1) <<< ((7 : Int32) &&& 31)) = w at rw1
  refine zp2_bur p_by (fun t2 e2 => ?_)
  subst e2
  refine zp2_bir p_even (fun t3 v3 e3 => ?_)
  cases e3
  refine zp2_bur p_put (fun t2 e2 => ?_)
  subst e2
  refine zp2_bur p_put (fun t2 e2 => ?_)
  subst e2
  refine zp2_bur p_put (fun t2 e2 => ?_)
  have eF : pt (pt (pt (gby (pt (σ.1 36 1) 0 (if v &&& 1 = 1 then 1 else 0)) w) 2 (gev w)) 4 0) 1 0 = crot w (v &&& 1) := by
    rw [← v_rt rw1 ro, fl_of hf, pt_0, fl_by, pt_2, pt_4, pt_1]
    rfl
  rw [eF] at e2
  subst e2
  have rF : zr 0 255 (crot w (v &&& 1)) := by rw [← v_rt rw1 ro]; exact zfl_r _ _ _ _ _ _ _ _
  exact k _ _ w ((h.onC hI (Or.inl rfl) (zrg_b (Or.inl (by decide)) rF)).onM hI (Or.inl rfl)) rfl (zQ.wi zQ.rf rfl) (zQ.wi zQ.rf rfl) rw1
theorem t_rot2 (hI : zIoK I) (h : zTT I σ μ) (hF : zF σ μ) {v : Int32} (rv : zr 0 255 v) {α β : Type} {Q : α → β → Prop} {f : zSt → Int32 → Option α} {g : zSt → Int32 → Option β} (k : ∀ s t w, zTT I s t → zF s t → zQ [] [(36, 1, 1)] [] [] σ s → zQ [] [(3, 1, 1)] [] [] μ t → zr 0 255 w → zp2 (f s w) (g t w) Q) : zp2 (zbi (fX5_turn σ 2 v) f) (zbi (fX12_turned μ 2 v) (fun σ10 v11 => zbu (fX12_by σ10 v11) (fun σ12 => zbi (fX12_isEven σ12 v11) (fun σ13 v14 => zbu (fX12_put σ13 2 v14) (fun σ15 => zbu (fX12_put σ15 4 0) (fun σ16 => zbu (fX12_put σ16 1 0) (fun σ17 => g σ17 v11))))))) Q := by
  have ef : μ.1 3 1 = σ.1 36 1 := hF
  have hf : zr 0 255 (σ.1 36 1) := h.b (by decide)
  have hwo : zr 0 255 (((v <<< ((1 : Int32) &&& 31)) &&& 255) ||| (σ.1 36 1 &&& 1)) ∧ zr 0 1 (v >>> ((7 : Int32) &&& 31)) := by
    obtain ⟨i, ei⟩ := z_byteF rv
    obtain ⟨m, em⟩ := z_bit1 (z_r1 (σ.1 36 1))
    rw [em, ei]
    exact ⟨(v_rotf2 i m).1, (v_rotf2 i m).2⟩
  have cM := p_rotM2 (μ := μ) (v := v)
  rw [ef, z_c0 hf] at cM
  refine zp2_bil p_rotC2 (fun s w1 e => zp2_bir cM (fun t w2 e' => ?_))
  cases e
  cases e'
  obtain ⟨rw1, ro⟩ := hwo
  generalize ((v <<< ((1 : Int32) &&& 31)) &&& 255) ||| (σ.1 36 1 &&& 1) = w at rw1
  refine zp2_bur p_by (fun t2 e2 => ?_)
  subst e2
  refine zp2_bir p_even (fun t3 v3 e3 => ?_)
  cases e3
  refine zp2_bur p_put (fun t2 e2 => ?_)
  subst e2
  refine zp2_bur p_put (fun t2 e2 => ?_)
  subst e2
  refine zp2_bur p_put (fun t2 e2 => ?_)
  have eF : pt (pt (pt (gby (pt (σ.1 36 1) 0 (if v >>> ((7 : Int32) &&& 31) = 1 then 1 else 0)) w) 2 (gev w)) 4 0) 1 0 = crot w (v >>> ((7 : Int32) &&& 31)) := by
    rw [← v_rt rw1 ro, fl_of hf, pt_0, fl_by, pt_2, pt_4, pt_1]
    rfl
  rw [eF] at e2
  subst e2
  have rF : zr 0 255 (crot w (v >>> ((7 : Int32) &&& 31))) := by rw [← v_rt rw1 ro]; exact zfl_r _ _ _ _ _ _ _ _
  exact k _ _ w ((h.onC hI (Or.inl rfl) (zrg_b (Or.inl (by decide)) rF)).onM hI (Or.inl rfl)) rfl (zQ.wi zQ.rf rfl) (zQ.wi zQ.rf rfl) rw1
theorem t_rot3 (hI : zIoK I) (h : zTT I σ μ) (hF : zF σ μ) {v : Int32} (rv : zr 0 255 v) {α β : Type} {Q : α → β → Prop} {f : zSt → Int32 → Option α} {g : zSt → Int32 → Option β} (k : ∀ s t w, zTT I s t → zF s t → zQ [] [(36, 1, 1)] [] [] σ s → zQ [] [(3, 1, 1)] [] [] μ t → zr 0 255 w → zp2 (f s w) (g t w) Q) : zp2 (zbi (fX5_turn σ 3 v) f) (zbi (fX12_turned μ 3 v) (fun σ10 v11 => zbu (fX12_by σ10 v11) (fun σ12 => zbi (fX12_isEven σ12 v11) (fun σ13 v14 => zbu (fX12_put σ13 2 v14) (fun σ15 => zbu (fX12_put σ15 4 0) (fun σ16 => zbu (fX12_put σ16 1 0) (fun σ17 => g σ17 v11))))))) Q := by
  have ef : μ.1 3 1 = σ.1 36 1 := hF
  have hf : zr 0 255 (σ.1 36 1) := h.b (by decide)
  have hwo : zr 0 255 ((v >>> ((1 : Int32) &&& 31)) ||| ((σ.1 36 1 &&& 1) <<< ((7 : Int32) &&& 31))) ∧ zr 0 1 (v &&& 1) := by
    obtain ⟨i, ei⟩ := z_byteF rv
    obtain ⟨m, em⟩ := z_bit1 (z_r1 (σ.1 36 1))
    rw [em, ei]
    exact ⟨(v_rotf3 i m).1, (v_rotf3 i m).2⟩
  have cM := p_rotM3 (μ := μ) (v := v)
  rw [ef, z_c0 hf] at cM
  refine zp2_bil p_rotC3 (fun s w1 e => zp2_bir cM (fun t w2 e' => ?_))
  cases e
  cases e'
  obtain ⟨rw1, ro⟩ := hwo
  generalize (v >>> ((1 : Int32) &&& 31)) ||| ((σ.1 36 1 &&& 1) <<< ((7 : Int32) &&& 31)) = w at rw1
  refine zp2_bur p_by (fun t2 e2 => ?_)
  subst e2
  refine zp2_bir p_even (fun t3 v3 e3 => ?_)
  cases e3
  refine zp2_bur p_put (fun t2 e2 => ?_)
  subst e2
  refine zp2_bur p_put (fun t2 e2 => ?_)
  subst e2
  refine zp2_bur p_put (fun t2 e2 => ?_)
  have eF : pt (pt (pt (gby (pt (σ.1 36 1) 0 (if v &&& 1 = 1 then 1 else 0)) w) 2 (gev w)) 4 0) 1 0 = crot w (v &&& 1) := by
    rw [← v_rt rw1 ro, fl_of hf, pt_0, fl_by, pt_2, pt_4, pt_1]
    rfl
  rw [eF] at e2
  subst e2
  have rF : zr 0 255 (crot w (v &&& 1)) := by rw [← v_rt rw1 ro]; exact zfl_r _ _ _ _ _ _ _ _
  exact k _ _ w ((h.onC hI (Or.inl rfl) (zrg_b (Or.inl (by decide)) rF)).onM hI (Or.inl rfl)) rfl (zQ.wi zQ.rf rfl) (zQ.wi zQ.rf rfl) rw1
theorem t_rot4 (hI : zIoK I) (h : zTT I σ μ) (hF : zF σ μ) {v : Int32} (rv : zr 0 255 v) {α β : Type} {Q : α → β → Prop} {f : zSt → Int32 → Option α} {g : zSt → Int32 → Option β} (k : ∀ s t w, zTT I s t → zF s t → zQ [] [(36, 1, 1)] [] [] σ s → zQ [] [(3, 1, 1)] [] [] μ t → zr 0 255 w → zp2 (f s w) (g t w) Q) : zp2 (zbi (fX5_turn σ 4 v) f) (zbi (fX12_turned μ 4 v) (fun σ10 v11 => zbu (fX12_by σ10 v11) (fun σ12 => zbi (fX12_isEven σ12 v11) (fun σ13 v14 => zbu (fX12_put σ13 2 v14) (fun σ15 => zbu (fX12_put σ15 4 0) (fun σ16 => zbu (fX12_put σ16 1 0) (fun σ17 => g σ17 v11))))))) Q := by
  have ef : μ.1 3 1 = σ.1 36 1 := hF
  have hf : zr 0 255 (σ.1 36 1) := h.b (by decide)
  have hwo : zr 0 255 (((v <<< ((1 : Int32) &&& 31)) &&& 255) ||| 0) ∧ zr 0 1 (v >>> ((7 : Int32) &&& 31)) := by
    obtain ⟨i, ei⟩ := z_byteF rv
    obtain ⟨m, em⟩ := z_bit1 (z_r1 (σ.1 36 1))
    rw [ei]
    exact ⟨(v_rotf4 i m).1, (v_rotf4 i m).2⟩
  have cM := p_rotM4 (μ := μ) (v := v)
  rw [ef] at cM
  refine zp2_bil p_rotC4 (fun s w1 e => zp2_bir cM (fun t w2 e' => ?_))
  cases e
  cases e'
  obtain ⟨rw1, ro⟩ := hwo
  generalize ((v <<< ((1 : Int32) &&& 31)) &&& 255) ||| 0 = w at rw1
  refine zp2_bur p_by (fun t2 e2 => ?_)
  subst e2
  refine zp2_bir p_even (fun t3 v3 e3 => ?_)
  cases e3
  refine zp2_bur p_put (fun t2 e2 => ?_)
  subst e2
  refine zp2_bur p_put (fun t2 e2 => ?_)
  subst e2
  refine zp2_bur p_put (fun t2 e2 => ?_)
  have eF : pt (pt (pt (gby (pt (σ.1 36 1) 0 (if v >>> ((7 : Int32) &&& 31) = 1 then 1 else 0)) w) 2 (gev w)) 4 0) 1 0 = crot w (v >>> ((7 : Int32) &&& 31)) := by
    rw [← v_rt rw1 ro, fl_of hf, pt_0, fl_by, pt_2, pt_4, pt_1]
    rfl
  rw [eF] at e2
  subst e2
  have rF : zr 0 255 (crot w (v >>> ((7 : Int32) &&& 31))) := by rw [← v_rt rw1 ro]; exact zfl_r _ _ _ _ _ _ _ _
  exact k _ _ w ((h.onC hI (Or.inl rfl) (zrg_b (Or.inl (by decide)) rF)).onM hI (Or.inl rfl)) rfl (zQ.wi zQ.rf rfl) (zQ.wi zQ.rf rfl) rw1
theorem t_rot5 (hI : zIoK I) (h : zTT I σ μ) (hF : zF σ μ) {v : Int32} (rv : zr 0 255 v) {α β : Type} {Q : α → β → Prop} {f : zSt → Int32 → Option α} {g : zSt → Int32 → Option β} (k : ∀ s t w, zTT I s t → zF s t → zQ [] [(36, 1, 1)] [] [] σ s → zQ [] [(3, 1, 1)] [] [] μ t → zr 0 255 w → zp2 (f s w) (g t w) Q) : zp2 (zbi (fX5_turn σ 5 v) f) (zbi (fX12_turned μ 5 v) (fun σ10 v11 => zbu (fX12_by σ10 v11) (fun σ12 => zbi (fX12_isEven σ12 v11) (fun σ13 v14 => zbu (fX12_put σ13 2 v14) (fun σ15 => zbu (fX12_put σ15 4 0) (fun σ16 => zbu (fX12_put σ16 1 0) (fun σ17 => g σ17 v11))))))) Q := by
  have ef : μ.1 3 1 = σ.1 36 1 := hF
  have hf : zr 0 255 (σ.1 36 1) := h.b (by decide)
  have hwo : zr 0 255 ((v >>> ((1 : Int32) &&& 31)) ||| ((v >>> ((7 : Int32) &&& 31)) <<< ((7 : Int32) &&& 31))) ∧ zr 0 1 (v &&& 1) := by
    obtain ⟨i, ei⟩ := z_byteF rv
    obtain ⟨m, em⟩ := z_bit1 (z_r1 (σ.1 36 1))
    rw [ei]
    exact ⟨(v_rotf5 i m).1, (v_rotf5 i m).2⟩
  have cM := p_rotM5 (μ := μ) (v := v)
  rw [ef] at cM
  refine zp2_bil p_rotC5 (fun s w1 e => zp2_bir cM (fun t w2 e' => ?_))
  cases e
  cases e'
  obtain ⟨rw1, ro⟩ := hwo
  generalize (v >>> ((1 : Int32) &&& 31)) ||| ((v >>> ((7 : Int32) &&& 31)) <<< ((7 : Int32) &&& 31)) = w at rw1
  refine zp2_bur p_by (fun t2 e2 => ?_)
  subst e2
  refine zp2_bir p_even (fun t3 v3 e3 => ?_)
  cases e3
  refine zp2_bur p_put (fun t2 e2 => ?_)
  subst e2
  refine zp2_bur p_put (fun t2 e2 => ?_)
  subst e2
  refine zp2_bur p_put (fun t2 e2 => ?_)
  have eF : pt (pt (pt (gby (pt (σ.1 36 1) 0 (if v &&& 1 = 1 then 1 else 0)) w) 2 (gev w)) 4 0) 1 0 = crot w (v &&& 1) := by
    rw [← v_rt rw1 ro, fl_of hf, pt_0, fl_by, pt_2, pt_4, pt_1]
    rfl
  rw [eF] at e2
  subst e2
  have rF : zr 0 255 (crot w (v &&& 1)) := by rw [← v_rt rw1 ro]; exact zfl_r _ _ _ _ _ _ _ _
  exact k _ _ w ((h.onC hI (Or.inl rfl) (zrg_b (Or.inl (by decide)) rF)).onM hI (Or.inl rfl)) rfl (zQ.wi zQ.rf rfl) (zQ.wi zQ.rf rfl) rw1
theorem t_rot6 (hI : zIoK I) (h : zTT I σ μ) (hF : zF σ μ) {v : Int32} (rv : zr 0 255 v) {α β : Type} {Q : α → β → Prop} {f : zSt → Int32 → Option α} {g : zSt → Int32 → Option β} (k : ∀ s t w, zTT I s t → zF s t → zQ [] [(36, 1, 1)] [] [] σ s → zQ [] [(3, 1, 1)] [] [] μ t → zr 0 255 w → zp2 (f s w) (g t w) Q) : zp2 (zbi (fX5_turn σ 6 v) f) (zbi (fX12_turned μ 6 v) (fun σ10 v11 => zbu (fX12_by σ10 v11) (fun σ12 => zbi (fX12_isEven σ12 v11) (fun σ13 v14 => zbu (fX12_put σ13 2 v14) (fun σ15 => zbu (fX12_put σ15 4 0) (fun σ16 => zbu (fX12_put σ16 1 0) (fun σ17 => g σ17 v11))))))) Q := by
  have ef : μ.1 3 1 = σ.1 36 1 := hF
  have hf : zr 0 255 (σ.1 36 1) := h.b (by decide)
  have hwo : zr 0 255 (((v <<< ((1 : Int32) &&& 31)) &&& 255) ||| 1) ∧ zr 0 1 (v >>> ((7 : Int32) &&& 31)) := by
    obtain ⟨i, ei⟩ := z_byteF rv
    obtain ⟨m, em⟩ := z_bit1 (z_r1 (σ.1 36 1))
    rw [ei]
    exact ⟨(v_rotf6 i m).1, (v_rotf6 i m).2⟩
  have cM := p_rotM6 (μ := μ) (v := v)
  rw [ef] at cM
  refine zp2_bil p_rotC6 (fun s w1 e => zp2_bir cM (fun t w2 e' => ?_))
  cases e
  cases e'
  obtain ⟨rw1, ro⟩ := hwo
  generalize ((v <<< ((1 : Int32) &&& 31)) &&& 255) ||| 1 = w at rw1
  refine zp2_bur p_by (fun t2 e2 => ?_)
  subst e2
  refine zp2_bir p_even (fun t3 v3 e3 => ?_)
  cases e3
  refine zp2_bur p_put (fun t2 e2 => ?_)
  subst e2
  refine zp2_bur p_put (fun t2 e2 => ?_)
  subst e2
  refine zp2_bur p_put (fun t2 e2 => ?_)
  have eF : pt (pt (pt (gby (pt (σ.1 36 1) 0 (if v >>> ((7 : Int32) &&& 31) = 1 then 1 else 0)) w) 2 (gev w)) 4 0) 1 0 = crot w (v >>> ((7 : Int32) &&& 31)) := by
    rw [← v_rt rw1 ro, fl_of hf, pt_0, fl_by, pt_2, pt_4, pt_1]
    rfl
  rw [eF] at e2
  subst e2
  have rF : zr 0 255 (crot w (v >>> ((7 : Int32) &&& 31))) := by rw [← v_rt rw1 ro]; exact zfl_r _ _ _ _ _ _ _ _
  exact k _ _ w ((h.onC hI (Or.inl rfl) (zrg_b (Or.inl (by decide)) rF)).onM hI (Or.inl rfl)) rfl (zQ.wi zQ.rf rfl) (zQ.wi zQ.rf rfl) rw1
theorem t_rot7 (hI : zIoK I) (h : zTT I σ μ) (hF : zF σ μ) {v : Int32} (rv : zr 0 255 v) {α β : Type} {Q : α → β → Prop} {f : zSt → Int32 → Option α} {g : zSt → Int32 → Option β} (k : ∀ s t w, zTT I s t → zF s t → zQ [] [(36, 1, 1)] [] [] σ s → zQ [] [(3, 1, 1)] [] [] μ t → zr 0 255 w → zp2 (f s w) (g t w) Q) : zp2 (zbi (fX5_turn σ 7 v) f) (zbi (fX12_turned μ 7 v) (fun σ10 v11 => zbu (fX12_by σ10 v11) (fun σ12 => zbi (fX12_isEven σ12 v11) (fun σ13 v14 => zbu (fX12_put σ13 2 v14) (fun σ15 => zbu (fX12_put σ15 4 0) (fun σ16 => zbu (fX12_put σ16 1 0) (fun σ17 => g σ17 v11))))))) Q := by
  have ef : μ.1 3 1 = σ.1 36 1 := hF
  have hf : zr 0 255 (σ.1 36 1) := h.b (by decide)
  have hwo : zr 0 255 ((v >>> ((1 : Int32) &&& 31)) ||| (0 <<< ((7 : Int32) &&& 31))) ∧ zr 0 1 (v &&& 1) := by
    obtain ⟨i, ei⟩ := z_byteF rv
    obtain ⟨m, em⟩ := z_bit1 (z_r1 (σ.1 36 1))
    rw [ei]
    exact ⟨(v_rotf7 i m).1, (v_rotf7 i m).2⟩
  have cM := p_rotM7 (μ := μ) (v := v)
  rw [ef] at cM
  refine zp2_bil p_rotC7 (fun s w1 e => zp2_bir cM (fun t w2 e' => ?_))
  cases e
  cases e'
  obtain ⟨rw1, ro⟩ := hwo
  generalize (v >>> ((1 : Int32) &&& 31)) ||| (0 <<< ((7 : Int32) &&& 31)) = w at rw1
  refine zp2_bur p_by (fun t2 e2 => ?_)
  subst e2
  refine zp2_bir p_even (fun t3 v3 e3 => ?_)
  cases e3
  refine zp2_bur p_put (fun t2 e2 => ?_)
  subst e2
  refine zp2_bur p_put (fun t2 e2 => ?_)
  subst e2
  refine zp2_bur p_put (fun t2 e2 => ?_)
  have eF : pt (pt (pt (gby (pt (σ.1 36 1) 0 (if v &&& 1 = 1 then 1 else 0)) w) 2 (gev w)) 4 0) 1 0 = crot w (v &&& 1) := by
    rw [← v_rt rw1 ro, fl_of hf, pt_0, fl_by, pt_2, pt_4, pt_1]
    rfl
  rw [eF] at e2
  subst e2
  have rF : zr 0 255 (crot w (v &&& 1)) := by rw [← v_rt rw1 ro]; exact zfl_r _ _ _ _ _ _ _ _
  exact k _ _ w ((h.onC hI (Or.inl rfl) (zrg_b (Or.inl (by decide)) rF)).onM hI (Or.inl rfl)) rfl (zQ.wi zQ.rf rfl) (zQ.wi zQ.rf rfl) rw1
theorem e_tC {op v : Int32} (hx : op >>> ((6 : Int32) &&& 31) = 0) : fX5_turned σ op v = fX5_turn σ ((op >>> ((3 : Int32) &&& 31)) &&& 7) v := by
  unfold fX5_turned
  rw [hx]
  have e : ∀ y, (if (0 : Int32) = 0 then zbi (fX5_turn σ y v) (fun σ2 v3 => some (σ2, v3)) else if (0 : Int32) = 2 then some (σ, v &&& (((1 : Int32) <<< (y &&& 31)) ^^^ (-1))) else some (σ, v ||| ((1 : Int32) <<< (y &&& 31)))) = fX5_turn σ y v := fun y => by
    rw [if_pos rfl]
    cases fX5_turn σ y v with
    | none => rfl
    | some r => rfl
  exact e _
/-- rotations, RES and SET -/
theorem t_tk (hI : zIoK I) (h : zTT I σ μ) (hF : zF σ μ) {op v : Int32} (hx : zr 0 3 (op >>> ((6 : Int32) &&& 31))) (hx1 : ¬ op >>> ((6 : Int32) &&& 31) = 1) (rv : zr 0 255 v) {α β : Type} {Q : α → β → Prop} {f : zSt → Int32 → Option α} {g : zSt → Int32 → Option β} (k : ∀ s t w, zTT I s t → zF s t → zQ [] [(36, 1, 1)] [] [] σ s → zQ [] [(3, 1, 1)] [] [] μ t → zr 0 255 w → zp2 (f s w) (g t w) Q) : zp2 (zbi (fX5_turned σ op v) f) (if op >>> ((6 : Int32) &&& 31) = 0 then zbi (fX12_turned μ ((op >>> ((3 : Int32) &&& 31)) &&& 7) v) (fun σ10 v11 => zbu (fX12_by σ10 v11) (fun σ12 => zbi (fX12_isEven σ12 v11) (fun σ13 v14 => zbu (fX12_put σ13 2 v14) (fun σ15 => zbu (fX12_put σ15 4 0) (fun σ16 => zbu (fX12_put σ16 1 0) (fun σ17 => g σ17 v11)))))) else if op >>> ((6 : Int32) &&& 31) = 2 then g μ (v &&& ((1 <<< (((op >>> ((3 : Int32) &&& 31)) &&& 7) &&& 31)) ^^^ (-1))) else g μ (v ||| (1 <<< (((op >>> ((3 : Int32) &&& 31)) &&& 7) &&& 31)))) Q := by
  have hy : zr 0 7 ((op >>> ((3 : Int32) &&& 31)) &&& 7) := z_r7 _
  by_cases x0 : op >>> ((6 : Int32) &&& 31) = 0
  · rw [e_tC x0, if_pos x0]
    generalize (op >>> ((3 : Int32) &&& 31)) &&& 7 = y at hy
    rcases zr_hd (c := 0) hy rfl with e | hy
    · subst e; exact t_rot0 hI h hF rv k
    rcases zr_hd (c := 1) hy rfl with e | hy
    · subst e; exact t_rot1 hI h hF rv k
    rcases zr_hd (c := 2) hy rfl with e | hy
    · subst e; exact t_rot2 hI h hF rv k
    rcases zr_hd (c := 3) hy rfl with e | hy
    · subst e; exact t_rot3 hI h hF rv k
    rcases zr_hd (c := 4) hy rfl with e | hy
    · subst e; exact t_rot4 hI h hF rv k
    rcases zr_hd (c := 5) hy rfl with e | hy
    · subst e; exact t_rot5 hI h hF rv k
    rcases zr_hd (c := 6) hy rfl with e | hy
    · subst e; exact t_rot6 hI h hF rv k
    rcases zr_hd (c := 7) hy rfl with e | hy
    · subst e; exact t_rot7 hI h hF rv k
    exact zr_no9 hy (by decide)
  · rw [if_neg x0]
    unfold fX5_turned
    by_cases x2 : op >>> ((6 : Int32) &&& 31) = 2
    · rw [if_pos x2]
      refine zp2_bil (P := fun r => r = (σ, v &&& ((1 <<< (((op >>> ((3 : Int32) &&& 31)) &&& 7) &&& 31)) ^^^ (-1)))) (zpc_bv (fun y ey => zpc_if (fun q => absurd q x0) (fun _ => zpc_if (fun _ => zpc_some (by rw [ey])) (fun q => absurd x2 q)))) (fun s w e => ?_)
      cases e
      exact k _ _ _ h hF zQ.rf zQ.rf (zr_andl (lo := 0) (hi := 255) rv (by decide))
    · rw [if_neg x2]
      refine zp2_bil (P := fun r => r = (σ, v ||| (1 <<< (((op >>> ((3 : Int32) &&& 31)) &&& 7) &&& 31)))) (zpc_bv (fun y ey => zpc_if (fun q => absurd q x0) (fun _ => zpc_if (fun q => absurd q x2) (fun _ => zpc_some (by rw [ey]))))) (fun s w e => ?_)
      cases e
      exact k _ _ _ h hF zQ.rf zQ.rf (z_ob rv (z_1y hy))
theorem t_turns (hI : zIoK I) (h : zTT I σ μ) (hF : zF σ μ) (hW : zWzz σ μ) (hp : zPlc σ μ) (h32 : μ.1 0 32 = 0) {op : Int32} (hx : zr 0 3 (op >>> ((6 : Int32) &&& 31))) : zp2 (fX5_turns σ op) (fX12_turn μ op) (zEnq I) := by
  have hz : zr 0 7 (op &&& 7) := z_r7 _
  have hy : zr 0 7 ((op >>> ((3 : Int32) &&& 31)) &&& 7) := z_r7 _
  unfold fX5_turns fX12_turn
  refine zp2_bvl (fun z ez => zp2_bvr (fun y ey => zp2_ifr (fun _ => ?_) (fun q => absurd h32 q)))
  rw [← ez] at hz ⊢
  rw [← ey] at hy
  unfold fX12_turn_23
  refine zp2_sm (t_one h hp hz) (fun v rv => zp2_bvr (fun x ex => ?_))
  by_cases x1 : op >>> ((6 : Int32) &&& 31) = 1
  · have x1' : x = 1 := ex.trans x1
    refine zp2_ifl (fun _ => zp2_ifr (fun _ => ?_) (fun q => absurd x1' q)) (fun q => absurd x1 q)
    refine zp2_bvr (fun w ew => zp2_bur p_by' (fun t2 e2 => ?_))
    subst e2
    have rw1 : zr 0 255 w := by rw [ew]; exact zr_andl (lo := 0) (hi := 255) rv (by decide)
    unfold fX5_turns_47 fX5_turns_63
    intro r r' er er'
    have em := p_bitM (μ := μ) (f := gby (μ.1 3 1) w) (z := z) (v := v) (w := w) r' er'
    have hf : zr 0 255 (σ.1 36 1) := h.b (by decide)
    have r20 : zr 0 255 (σ.1 36 20 >>> ((8 : Int32) &&& 31)) := z_hi (h.w (j := 20) (by decide) (by decide))
    have ef : μ.1 3 1 = σ.1 36 1 := hF
    have ew20 : μ.1 3 20 = σ.1 36 20 := hW
    have hs : zr 0 255 (if z = 6 then σ.1 36 20 >>> ((8 : Int32) &&& 31) else v) := by
      by_cases q : z = 6
      · rw [if_pos q]; exact r20
      · rw [if_neg q]; exact rv
    rw [ef, ew20, v_bit hf rw1 hs] at em
    have cC : zpc (if z = 6 then zck (zin 20 29) (zbu (fX5_askBit σ ((op >>> ((3 : Int32) &&& 31)) &&& 7) v ((zgi σ 36 (20 : Int32).toNatClampNeg) >>> ((8 : Int32) &&& 31))) (fun σ1 => if z = 6 then some (σ1, (12 : Int32)) else some (σ1, 8))) else zbu (fX5_askBit σ ((op >>> ((3 : Int32) &&& 31)) &&& 7) v v) (fun σ1 => if z = 6 then some (σ1, (12 : Int32)) else some (σ1, 8))) (fun r => r = (zsi σ 36 1 (cbit (σ.1 36 1) w (if z = 6 then σ.1 36 20 >>> ((8 : Int32) &&& 31) else v)), if z = 6 then 12 else 8)) := by
      refine zpc_if (fun q => zpc_ck (zpc_bu p_bitC (fun s e => zpc_if (fun _ => zpc_some ?_) (fun n => absurd q n)))) (fun q => zpc_bu p_bitC (fun s e => zpc_if (fun n => absurd n q) (fun _ => zpc_some ?_)))
      · rw [e, if_pos q, if_pos q, ew, ey]; rfl
      · rw [e, if_neg q, if_neg q, ew, ey]
    rw [cC r er, em]
    exact ⟨(h.onC hI (Or.inl rfl) (zrg_b (Or.inl (by decide)) (r_bit hf rw1 hs))).onM hI (Or.inl rfl), rfl, hW, rfl⟩
  · have x1' : ¬ x = 1 := fun q => x1 (ex.symm.trans q)
    refine zp2_ifl (fun q => absurd q x1) (fun _ => zp2_ifr (fun q => absurd q x1') (fun _ => ?_))
    rw [ex, ey]
    unfold fX12_turn_191
    refine t_tk hI h hF hx x1 rv (g := fun t w => fX12_turn_193 t z w) (fun s t w h1 f1 qc qm rw1 => ?_)
    unfold fX12_turn_193 fX12_turn_219 fX5_turns_88
    refine zp2_buu (t_putOne hI h1 (hp.of (qc.1 7 5 rfl) (qc.1 36 6 rfl) (qc.1 36 7 rfl) (qm.1 3 20 rfl) (qm.1 0 32 rfl)) hz (z_m255 rw1) rw1) (fun s2 t2 q => zp2_bvr (fun t3 g3 => ?_))
    obtain ⟨h2, qc2, qm2⟩ := q
    subst g3
    have h3 : zTT I s2 (zsi t2 0 33 w) := h2.m33 hI
    have f3 : zF s2 (zsi t2 0 33 w) := f1.of (qc2.1 36 1 rfl) (qm2.1 3 1 rfl)
    have w3 : zWzz s2 (zsi t2 0 33 w) := hW.of ((qc2.1 36 20 rfl).trans (qc.1 36 20 rfl)) ((qm2.1 3 20 rfl).trans (qm.1 3 20 rfl))
    exact zp2_if (fun _ => zp2_some ⟨h3, f3, w3, rfl⟩) (fun _ => zp2_some ⟨h3, f3, w3, rfl⟩)
end ZCB
