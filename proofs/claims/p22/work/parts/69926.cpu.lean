section ZJN0
/-! INC AND DEC -/
/-- the end of an instruction, with its beats -/
def zEnq (I : zSt → zSt → Prop) (r r' : zSt × Int32) : Prop := zTT I r.1 r'.1 ∧ zF r.1 r'.1 ∧ zWzz r.1 r'.1 ∧ r'.2 = r.2
section ZID
variable {μ σ : zSt} {v w y f : Int32}
def cinc (f w : Int32) : Int32 := (((f &&& 1) ||| cby w) ||| (if w &&& 15 = 0 then 16 else 0)) ||| (if w = 128 then 4 else 0)
def minc (f w : Int32) : Int32 := pt (pt (pt (gby f w) 4 (if w &&& 15 = 0 then 1 else 0)) 2 (if w = 128 then 1 else 0)) 1 0
theorem p_incC : zpc (fX5_oneMore σ v) (fun r => r = (zsi σ 36 1 (cinc (σ.1 36 1) ((v + 1) &&& 255)), (v + 1) &&& 255)) := by
  unfold fX5_oneMore fX5_oneMore_39 fX5_oneMore_52 cinc
  refine zpc_bv (fun u eu => zpc_ck (zpc_bi p_byC (fun t x et => ?_)))
  cases et
  subst eu
  refine zpc_if (fun q => zpc_if (fun q2 => zpc_ck (zpc_bv (fun t et => zpc_some ?_))) (fun q2 => zpc_ck (zpc_bv (fun t et => zpc_some ?_)))) (fun q => zpc_if (fun q2 => zpc_ck (zpc_bv (fun t et => zpc_some ?_))) (fun q2 => zpc_ck (zpc_bv (fun t et => zpc_some ?_))))
  · rw [et, if_pos q, if_pos q2]; rfl
  · rw [et, if_pos q, if_neg q2]; rfl
  · rw [et, if_neg q, if_pos q2]; rfl
  · rw [et, if_neg q, if_neg q2]; rfl
theorem p_incM : zpc (fX12_singles_84 (zsi μ 3 1 f) y 4 w 0 (w &&& 15) 4) (fun r => r = (zsi μ 3 1 (pt (pt (pt f 4 (if w &&& 15 = 0 then 1 else 0)) 2 (if w = 128 then 1 else 0)) 1 0), if y = 6 then 11 else 4)) := by
  unfold fX12_singles_84
  refine zpc_j (K := fun h => fX12_singles_92 (zsi μ 3 1 f) y 4 w h 4) (a := 1) (b := 0) (fun h eh => ?_)
  unfold fX12_singles_92
  refine zpc_bu p_put (fun t et => ?_)
  subst et
  refine zpc_if (fun _ => ?_) (fun q => absurd rfl q)
  unfold fX12_singles_111
  refine zpc_j (K := fun g => fX12_singles_119 (zsi μ 3 1 (pt f 4 h)) y 4 g 2) (a := 1) (b := 0) (fun g eg => ?_)
  unfold fX12_singles_119
  refine zpc_bu p_put (fun t et => ?_)
  subst et
  refine zpc_if (fun q => absurd q (by decide)) (fun _ => ?_)
  unfold fX12_singles_134 fX12_singles_149
  refine zpc_bu p_put (fun t et => ?_)
  subst et
  refine zpc_if (fun q => zpc_some ?_) (fun q => zpc_some ?_)
  · rw [if_pos q, eh, eg]
  · rw [if_neg q, eh, eg]
theorem v_incf : ∀ i : Fin 256, ∀ c : Fin 2, zfl (d7 (Int32.ofNat i.val)) (d6 (Int32.ofNat i.val)) (d5 (Int32.ofNat i.val)) (bc (if (Int32.ofNat i.val) &&& 15 = 0 then 1 else 0)) (d3 (Int32.ofNat i.val)) (bc (if Int32.ofNat i.val = 128 then 1 else 0)) false (bc (Int32.ofNat c.val)) = (((Int32.ofNat c.val) ||| cby (Int32.ofNat i.val)) ||| (if (Int32.ofNat i.val) &&& 15 = 0 then 16 else 0)) ||| (if Int32.ofNat i.val = 128 then 4 else 0) := by decide +kernel
theorem v_inc (hf : zr 0 255 f) (hw : zr 0 255 w) : minc f w = cinc f w := by
  have e : minc f w = zfl (d7 w) (d6 w) (d5 w) (bc (if w &&& 15 = 0 then 1 else 0)) (d3 w) (bc (if w = 128 then 1 else 0)) false (bc (f &&& 1)) := by
    unfold minc
    rw [fl_of hf, fl_by, pt_4, pt_2, pt_1, ← fl_of hf]
    rfl
  rw [e]
  unfold cinc
  obtain ⟨c, ec⟩ := z_bit1 (z_r1 f)
  obtain ⟨i, ei⟩ := z_byteF hw
  rw [ec]
  subst ei
  exact v_incf i c
theorem r_inc (hf : zr 0 255 f) (hw : zr 0 255 w) : zr 0 255 (cinc f w) := by
  rw [← v_inc hf hw]
  unfold minc
  rw [fl_of hf, fl_by, pt_4, pt_2, pt_1]
  exact zfl_r _ _ _ _ _ _ _ _
def cdec (f w : Int32) : Int32 := ((((f &&& 1) ||| cby w) ||| (if w &&& 15 = 15 then 16 else 0)) ||| (if w = 127 then 4 else 0)) ||| 2
def mdec (f w : Int32) : Int32 := pt (pt (pt (gby f w) 4 (if w &&& 15 = 15 then 1 else 0)) 2 (if w = 127 then 1 else 0)) 1 1
theorem p_decC : zpc (fX5_oneLess σ v) (fun r => r = (zsi σ 36 1 (cdec (σ.1 36 1) ((v - 1) &&& 255)), (v - 1) &&& 255)) := by
  unfold fX5_oneLess fX5_oneLess_41 fX5_oneLess_53 cdec
  refine zpc_bv (fun u eu => zpc_ck (zpc_bi p_byC (fun t x et => ?_)))
  cases et
  subst eu
  refine zpc_if (fun q => zpc_if (fun q2 => zpc_ck (zpc_bv (fun t et => zpc_some ?_))) (fun q2 => zpc_ck (zpc_bv (fun t et => zpc_some ?_)))) (fun q => zpc_if (fun q2 => zpc_ck (zpc_bv (fun t et => zpc_some ?_))) (fun q2 => zpc_ck (zpc_bv (fun t et => zpc_some ?_))))
  · rw [et, if_pos q, if_pos q2]; rfl
  · rw [et, if_pos q, if_neg q2]; rfl
  · rw [et, if_neg q, if_pos q2]; rfl
  · rw [et, if_neg q, if_neg q2]; rfl
theorem p_decM : zpc (fX12_singles_84 (zsi μ 3 1 f) y 5 w 15 (w &&& 15) 4) (fun r => r = (zsi μ 3 1 (pt (pt (pt f 4 (if w &&& 15 = 15 then 1 else 0)) 2 (if w = 127 then 1 else 0)) 1 1), if y = 6 then 11 else 4)) := by
  unfold fX12_singles_84
  refine zpc_j (K := fun h => fX12_singles_92 (zsi μ 3 1 f) y 5 w h 4) (a := 1) (b := 0) (fun h eh => ?_)
  unfold fX12_singles_92
  refine zpc_bu p_put (fun t et => ?_)
  subst et
  refine zpc_if (fun q => absurd q (by decide)) (fun _ => ?_)
  unfold fX12_singles_111
  refine zpc_j (K := fun g => fX12_singles_119 (zsi μ 3 1 (pt f 4 h)) y 5 g 2) (a := 1) (b := 0) (fun g eg => ?_)
  unfold fX12_singles_119
  refine zpc_bu p_put (fun t et => ?_)
  subst et
  refine zpc_if (fun _ => ?_) (fun q => absurd rfl q)
  unfold fX12_singles_134 fX12_singles_149
  refine zpc_bu p_put (fun t et => ?_)
  subst et
  refine zpc_if (fun q => zpc_some ?_) (fun q => zpc_some ?_)
  · rw [if_pos q, eh, eg]
  · rw [if_neg q, eh, eg]
theorem v_decf : ∀ i : Fin 256, ∀ c : Fin 2, zfl (d7 (Int32.ofNat i.val)) (d6 (Int32.ofNat i.val)) (d5 (Int32.ofNat i.val)) (bc (if (Int32.ofNat i.val) &&& 15 = 15 then 1 else 0)) (d3 (Int32.ofNat i.val)) (bc (if Int32.ofNat i.val = 127 then 1 else 0)) true (bc (Int32.ofNat c.val)) = ((((Int32.ofNat c.val) ||| cby (Int32.ofNat i.val)) ||| (if (Int32.ofNat i.val) &&& 15 = 15 then 16 else 0)) ||| (if Int32.ofNat i.val = 127 then 4 else 0)) ||| 2 := by decide +kernel
theorem v_dec (hf : zr 0 255 f) (hw : zr 0 255 w) : mdec f w = cdec f w := by
  have e : mdec f w = zfl (d7 w) (d6 w) (d5 w) (bc (if w &&& 15 = 15 then 1 else 0)) (d3 w) (bc (if w = 127 then 1 else 0)) true (bc (f &&& 1)) := by
    unfold mdec
    rw [fl_of hf, fl_by, pt_4, pt_2, pt_1, ← fl_of hf]
    rfl
  rw [e]
  unfold cdec
  obtain ⟨c, ec⟩ := z_bit1 (z_r1 f)
  obtain ⟨i, ei⟩ := z_byteF hw
  rw [ec]
  subst ei
  exact v_decf i c
theorem r_dec (hf : zr 0 255 f) (hw : zr 0 255 w) : zr 0 255 (cdec f w) := by
  rw [← v_dec hf hw]
  unfold mdec
  rw [fl_of hf, fl_by, pt_4, pt_2, pt_1]
  exact zfl_r _ _ _ _ _ _ _ _
end ZID
section ZID2
variable {I : zSt → zSt → Prop} {σ μ : zSt}
theorem t_inc (hI : zIoK I) (h : zTT I σ μ) (hF : zF σ μ) (hW : zWzz σ μ) (hp : zPlc σ μ) {y : Int32} (hy : zr 0 7 y) : zp2 (zbi (fX5_one σ y) (fun s v => zbi (fX5_oneMore s v) (fun s2 w => zbu (fX5_putOne s2 y w) (fun s3 => if y = 6 then fX5_firstQuarter_143 s3 11 else fX5_firstQuarter_143 s3 4)))) (fX12_singles μ y 4) (zEnq I) := by
  have hf : zr 0 255 (σ.1 36 1) := h.b (by decide)
  unfold fX12_singles
  refine zp2_ifr (fun q => absurd q (by decide)) (fun _ => zp2_ifr (fun q => absurd q (by decide)) (fun _ => zp2_bii (t_one h hp hy) (fun s v t v' q => ?_)))
  obtain ⟨q1, q2, q3, q4⟩ := q
  have q1 : s = σ := q1
  have q2 : t = μ := q2
  have q3 : v' = v := q3
  subst q1
  subst q2
  subst q3
  refine zp2_ifr (fun _ => ?_) (fun q => absurd rfl q)
  unfold fX12_singles_50
  refine zp2_bil p_incC (fun s2 w2 e2 => zp2_bvr (fun u eu => ?_))
  cases e2
  have eu : u = (v' + 1) &&& 255 := eu
  subst eu
  have hu : zr 0 255 ((v' + 1) &&& 255) := z_r8 _
  generalize (v' + 1) &&& 255 = u at hu
  refine zp2_buu (t_putOne hI (h.onC hI (Or.inl rfl) (zrg_b (Or.inl (by decide)) (r_inc hf hu))) (hp.of rfl rfl rfl rfl rfl) hy (z_m255 hu) hu) (fun s3 t3 q => ?_)
  obtain ⟨a1, a2, a3⟩ := q
  refine zp2_bur p_by' (fun t4 e4 => ?_)
  subst e4
  refine zp2_ifr (fun _ => ?_) (fun q => absurd rfl q)
  unfold fX5_firstQuarter_143
  have fin : ∀ bts : Int32, zEnq I (s3, bts) (zsi t3 3 1 (minc (t3.1 3 1) u), bts) := fun bts => by
    refine ⟨a1.onM hI (Or.inl rfl), ?_, ?_, rfl⟩
    · show minc (t3.1 3 1) u = s3.1 36 1
      rw [a3.1 3 1 rfl, a2.1 36 1 rfl, show t.1 3 1 = s.1 36 1 from hF, v_inc hf hu]
      rfl
    · show t3.1 3 20 = s3.1 36 20
      rw [a3.1 3 20 rfl, a2.1 36 20 rfl]
      exact hW
  intro r r' er er'
  have em := p_incM (μ := t3) (f := gby (t3.1 3 1) u) (y := y) (w := u) _ er'
  by_cases y6 : y = 6
  · rw [if_pos y6] at er em
    cases er
    rw [em]
    exact fin 11
  · rw [if_neg y6] at er em
    cases er
    rw [em]
    exact fin 4
theorem t_dec (hI : zIoK I) (h : zTT I σ μ) (hF : zF σ μ) (hW : zWzz σ μ) (hp : zPlc σ μ) {y : Int32} (hy : zr 0 7 y) : zp2 (zbi (fX5_one σ y) (fun s v => zbi (fX5_oneLess s v) (fun s2 w => zbu (fX5_putOne s2 y w) (fun s3 => if y = 6 then fX5_firstQuarter_170 s3 11 else fX5_firstQuarter_170 s3 4)))) (fX12_singles μ y 5) (zEnq I) := by
  have hf : zr 0 255 (σ.1 36 1) := h.b (by decide)
  unfold fX12_singles
  refine zp2_ifr (fun q => absurd q (by decide)) (fun _ => zp2_ifr (fun q => absurd q (by decide)) (fun _ => zp2_bii (t_one h hp hy) (fun s v t v' q => ?_)))
  obtain ⟨q1, q2, q3, q4⟩ := q
  have q1 : s = σ := q1
  have q2 : t = μ := q2
  have q3 : v' = v := q3
  subst q1
  subst q2
  subst q3
  refine zp2_ifr (fun q => absurd q (by decide)) (fun _ => ?_)
  unfold fX12_singles_50
  refine zp2_bil p_decC (fun s2 w2 e2 => zp2_bvr (fun u eu => ?_))
  cases e2
  have eu : u = (v' - 1) &&& 255 := by rw [eu, Int32.sub_eq_add_neg]
  subst eu
  have hu : zr 0 255 ((v' - 1) &&& 255) := z_r8 _
  generalize (v' - 1) &&& 255 = u at hu
  refine zp2_buu (t_putOne hI (h.onC hI (Or.inl rfl) (zrg_b (Or.inl (by decide)) (r_dec hf hu))) (hp.of rfl rfl rfl rfl rfl) hy (z_m255 hu) hu) (fun s3 t3 q => ?_)
  obtain ⟨a1, a2, a3⟩ := q
  refine zp2_bur p_by' (fun t4 e4 => ?_)
  subst e4
  refine zp2_ifr (fun q => absurd q (by decide)) (fun _ => ?_)
  unfold fX5_firstQuarter_170
  have fin : ∀ bts : Int32, zEnq I (s3, bts) (zsi t3 3 1 (mdec (t3.1 3 1) u), bts) := fun bts => by
    refine ⟨a1.onM hI (Or.inl rfl), ?_, ?_, rfl⟩
    · show mdec (t3.1 3 1) u = s3.1 36 1
      rw [a3.1 3 1 rfl, a2.1 36 1 rfl, show t.1 3 1 = s.1 36 1 from hF, v_dec hf hu]
      rfl
    · show t3.1 3 20 = s3.1 36 20
      rw [a3.1 3 20 rfl, a2.1 36 20 rfl]
      exact hW
  intro r r' er er'
  have em := p_decM (μ := t3) (f := gby (t3.1 3 1) u) (y := y) (w := u) _ er'
  by_cases y6 : y = 6
  · rw [if_pos y6] at er em
    cases er
    rw [em]
    exact fin 11
  · rw [if_neg y6] at er em
    cases er
    rw [em]
    exact fin 4
end ZID2
/-! TURNING -/
def crot (w o : Int32) : Int32 := (cby w ||| cpar w) ||| o
section ZRT
variable {μ σ : zSt} {v : Int32}
theorem p_rotC0 : zpc (fX5_turn σ 0 v) (fun r => r = (zsi σ 36 1 (crot (((v <<< ((1 : Int32) &&& 31)) &&& 255) ||| (v >>> ((7 : Int32) &&& 31))) (v >>> ((7 : Int32) &&& 31))), ((v <<< ((1 : Int32) &&& 31)) &&& 255) ||| (v >>> ((7 : Int32) &&& 31)))) := by
  have f136 : ∀ (g w : Int32), zpc (fX5_turn_136 σ g w) (fun r => r = (zsi σ 36 1 (crot w g), w)) := fun g w => by
    unfold fX5_turn_136 crot
    refine zpc_bi p_byC (fun t x et => ?_)
    cases et
    refine zpc_bi p_parC (fun t x et => ?_)
    cases et
    exact zpc_ck (zpc_bv (fun t et => zpc_some (by rw [et]; rfl)))
  unfold fX5_turn fX5_turn_11 fX5_turn_26 fX5_turn_72 fX5_turn_79 fX5_turn_107 fX5_turn_110
  refine zpc_if (fun _ => zpc_if (fun q => absurd q (by decide)) (fun _ => ?_)) (fun q => absurd (by decide) q)
  exact zpc_if (fun _ => zpc_if (fun q => absurd q (by decide)) (fun _ => f136 _ _)) (fun q => absurd rfl q)
theorem p_rotM0 : zpc (fX12_turned μ 0 v) (fun r => r = (zsi μ 3 1 (pt (μ.1 3 1) 0 (if v >>> ((7 : Int32) &&& 31) = 1 then 1 else 0)), ((v <<< ((1 : Int32) &&& 31)) &&& 255) ||| (v >>> ((7 : Int32) &&& 31)))) := by
  have f74 : ∀ (g c : Int32), zpc (fX12_turned_74 μ v 1 g c) (fun r => r = (zsi μ 3 1 (pt (μ.1 3 1) 0 (if g = 1 then 1 else 0)), ((v <<< ((1 : Int32) &&& 31)) &&& 255) ||| c)) := fun g c => by
    unfold fX12_turned_74
    refine zpc_j (K := fun u => fX12_turned_89 μ v 1 c u 0) (a := 1) (b := 0) (fun u eu => ?_)
    unfold fX12_turned_89 fX12_turned_118
    refine zpc_bu p_put' (fun t et => ?_)
    rw [et, eu]
    exact zpc_if (fun q => absurd q (by decide)) (fun _ => zpc_some rfl)
  unfold fX12_turned fX12_turned_11 fX12_turned_26
  refine zpc_ck (zpc_if (fun _ => zpc_if (fun q => absurd q (by decide)) (fun _ => ?_)) (fun q => absurd (by decide) q))
  exact zpc_if (fun q => absurd q (by decide)) (fun _ => f74 _ _)
theorem p_rotC1 : zpc (fX5_turn σ 1 v) (fun r => r = (zsi σ 36 1 (crot ((v >>> ((1 : Int32) &&& 31)) ||| ((v &&& 1) <<< ((7 : Int32) &&& 31))) (v &&& 1)), (v >>> ((1 : Int32) &&& 31)) ||| ((v &&& 1) <<< ((7 : Int32) &&& 31)))) := by
  have f136 : ∀ (g w : Int32), zpc (fX5_turn_136 σ g w) (fun r => r = (zsi σ 36 1 (crot w g), w)) := fun g w => by
    unfold fX5_turn_136 crot
    refine zpc_bi p_byC (fun t x et => ?_)
    cases et
    refine zpc_bi p_parC (fun t x et => ?_)
    cases et
    exact zpc_ck (zpc_bv (fun t et => zpc_some (by rw [et]; rfl)))
  unfold fX5_turn fX5_turn_11 fX5_turn_26 fX5_turn_72 fX5_turn_79 fX5_turn_107 fX5_turn_110
  refine zpc_if (fun q => absurd q (by decide)) (fun _ => zpc_if (fun _ => ?_) (fun q => absurd rfl q))
  exact zpc_if (fun q => absurd q (by decide)) (fun _ => zpc_if (fun _ => zpc_if (fun _ => f136 _ _) (fun q => absurd rfl q)) (fun q => absurd rfl q))
theorem p_rotM1 : zpc (fX12_turned μ 1 v) (fun r => r = (zsi μ 3 1 (pt (μ.1 3 1) 0 (if v &&& 1 = 1 then 1 else 0)), (v >>> ((1 : Int32) &&& 31)) ||| ((v &&& 1) <<< ((7 : Int32) &&& 31)))) := by
  have f74 : ∀ (g c : Int32), zpc (fX12_turned_74 μ v 0 g c) (fun r => r = (zsi μ 3 1 (pt (μ.1 3 1) 0 (if g = 1 then 1 else 0)), (v >>> ((1 : Int32) &&& 31)) ||| (c <<< ((7 : Int32) &&& 31)))) := fun g c => by
    unfold fX12_turned_74
    refine zpc_j (K := fun u => fX12_turned_89 μ v 0 c u 0) (a := 1) (b := 0) (fun u eu => ?_)
    unfold fX12_turned_89 fX12_turned_118
    refine zpc_bu p_put' (fun t et => ?_)
    rw [et, eu]
    exact zpc_if (fun _ => zpc_some rfl) (fun q => absurd rfl q)
  unfold fX12_turned fX12_turned_11 fX12_turned_26
  refine zpc_ck (zpc_if (fun q => absurd q (by decide)) (fun _ => zpc_if (fun _ => ?_) (fun q => absurd rfl q)))
  exact zpc_if (fun q => absurd q (by decide)) (fun _ => f74 _ _)
theorem p_rotC2 : zpc (fX5_turn σ 2 v) (fun r => r = (zsi σ 36 1 (crot (((v <<< ((1 : Int32) &&& 31)) &&& 255) ||| (σ.1 36 1 &&& 1)) (v >>> ((7 : Int32) &&& 31))), ((v <<< ((1 : Int32) &&& 31)) &&& 255) ||| (σ.1 36 1 &&& 1))) := by
  have f136 : ∀ (g w : Int32), zpc (fX5_turn_136 σ g w) (fun r => r = (zsi σ 36 1 (crot w g), w)) := fun g w => by
    unfold fX5_turn_136 crot
    refine zpc_bi p_byC (fun t x et => ?_)
    cases et
    refine zpc_bi p_parC (fun t x et => ?_)
    cases et
    exact zpc_ck (zpc_bv (fun t et => zpc_some (by rw [et]; rfl)))
  unfold fX5_turn fX5_turn_11 fX5_turn_26 fX5_turn_72 fX5_turn_79 fX5_turn_107 fX5_turn_110
  refine zpc_if (fun _ => zpc_if (fun q => absurd q (by decide)) (fun _ => ?_)) (fun q => absurd (by decide) q)
  exact zpc_if (fun q => absurd q (by decide)) (fun _ => zpc_if (fun q => absurd q (by decide)) (fun _ => zpc_if (fun _ => zpc_ck (zpc_bv (fun u eu => by subst eu; exact zpc_if (fun q => absurd q (by decide)) (fun _ => f136 _ _)))) (fun q => absurd rfl q)))
theorem p_rotM2 : zpc (fX12_turned μ 2 v) (fun r => r = (zsi μ 3 1 (pt (μ.1 3 1) 0 (if v >>> ((7 : Int32) &&& 31) = 1 then 1 else 0)), ((v <<< ((1 : Int32) &&& 31)) &&& 255) ||| ((μ.1 3 1 >>> ((0 : Int32) &&& 31)) &&& 1))) := by
  have f74 : ∀ (g c : Int32), zpc (fX12_turned_74 μ v 1 g c) (fun r => r = (zsi μ 3 1 (pt (μ.1 3 1) 0 (if g = 1 then 1 else 0)), ((v <<< ((1 : Int32) &&& 31)) &&& 255) ||| c)) := fun g c => by
    unfold fX12_turned_74
    refine zpc_j (K := fun u => fX12_turned_89 μ v 1 c u 0) (a := 1) (b := 0) (fun u eu => ?_)
    unfold fX12_turned_89 fX12_turned_118
    refine zpc_bu p_put' (fun t et => ?_)
    rw [et, eu]
    exact zpc_if (fun q => absurd q (by decide)) (fun _ => zpc_some rfl)
  unfold fX12_turned fX12_turned_11 fX12_turned_26
  refine zpc_ck (zpc_if (fun _ => zpc_if (fun q => absurd q (by decide)) (fun _ => ?_)) (fun q => absurd (by decide) q))
  refine zpc_if (fun _ => zpc_if (fun q => absurd q (by decide)) (fun _ => zpc_bi p_flag (fun t u et => ?_))) (fun q => absurd (by decide) q)
  cases et
  exact f74 _ _
theorem p_rotC3 : zpc (fX5_turn σ 3 v) (fun r => r = (zsi σ 36 1 (crot ((v >>> ((1 : Int32) &&& 31)) ||| ((σ.1 36 1 &&& 1) <<< ((7 : Int32) &&& 31))) (v &&& 1)), (v >>> ((1 : Int32) &&& 31)) ||| ((σ.1 36 1 &&& 1) <<< ((7 : Int32) &&& 31)))) := by
  have f136 : ∀ (g w : Int32), zpc (fX5_turn_136 σ g w) (fun r => r = (zsi σ 36 1 (crot w g), w)) := fun g w => by
    unfold fX5_turn_136 crot
    refine zpc_bi p_byC (fun t x et => ?_)
    cases et
    refine zpc_bi p_parC (fun t x et => ?_)
    cases et
    exact zpc_ck (zpc_bv (fun t et => zpc_some (by rw [et]; rfl)))
  unfold fX5_turn fX5_turn_11 fX5_turn_26 fX5_turn_72 fX5_turn_79 fX5_turn_107 fX5_turn_110
  refine zpc_if (fun q => absurd q (by decide)) (fun _ => zpc_if (fun _ => ?_) (fun q => absurd rfl q))
  exact zpc_if (fun q => absurd q (by decide)) (fun _ => zpc_if (fun q => absurd q (by decide)) (fun _ => zpc_if (fun q => absurd q (by decide)) (fun _ => zpc_if (fun _ => zpc_ck (zpc_bv (fun u eu => by subst eu; exact zpc_if (fun _ => f136 _ _) (fun q => absurd rfl q)))) (fun q => absurd rfl q))))
theorem p_rotM3 : zpc (fX12_turned μ 3 v) (fun r => r = (zsi μ 3 1 (pt (μ.1 3 1) 0 (if v &&& 1 = 1 then 1 else 0)), (v >>> ((1 : Int32) &&& 31)) ||| (((μ.1 3 1 >>> ((0 : Int32) &&& 31)) &&& 1) <<< ((7 : Int32) &&& 31)))) := by
  have f74 : ∀ (g c : Int32), zpc (fX12_turned_74 μ v 0 g c) (fun r => r = (zsi μ 3 1 (pt (μ.1 3 1) 0 (if g = 1 then 1 else 0)), (v >>> ((1 : Int32) &&& 31)) ||| (c <<< ((7 : Int32) &&& 31)))) := fun g c => by
    unfold fX12_turned_74
    refine zpc_j (K := fun u => fX12_turned_89 μ v 0 c u 0) (a := 1) (b := 0) (fun u eu => ?_)
    unfold fX12_turned_89 fX12_turned_118
    refine zpc_bu p_put' (fun t et => ?_)
    rw [et, eu]
    exact zpc_if (fun _ => zpc_some rfl) (fun q => absurd rfl q)
  unfold fX12_turned fX12_turned_11 fX12_turned_26
  refine zpc_ck (zpc_if (fun q => absurd q (by decide)) (fun _ => zpc_if (fun _ => ?_) (fun q => absurd rfl q)))
  refine zpc_if (fun _ => zpc_if (fun q => absurd q (by decide)) (fun _ => zpc_bi p_flag (fun t u et => ?_))) (fun q => absurd (by decide) q)
  cases et
  exact f74 _ _
theorem p_rotC4 : zpc (fX5_turn σ 4 v) (fun r => r = (zsi σ 36 1 (crot (((v <<< ((1 : Int32) &&& 31)) &&& 255) ||| 0) (v >>> ((7 : Int32) &&& 31))), ((v <<< ((1 : Int32) &&& 31)) &&& 255) ||| 0)) := by
  have f136 : ∀ (g w : Int32), zpc (fX5_turn_136 σ g w) (fun r => r = (zsi σ 36 1 (crot w g), w)) := fun g w => by
    unfold fX5_turn_136 crot
    refine zpc_bi p_byC (fun t x et => ?_)
    cases et
    refine zpc_bi p_parC (fun t x et => ?_)
    cases et
    exact zpc_ck (zpc_bv (fun t et => zpc_some (by rw [et]; rfl)))
  unfold fX5_turn fX5_turn_11 fX5_turn_26 fX5_turn_72 fX5_turn_79 fX5_turn_107 fX5_turn_110
  refine zpc_if (fun _ => zpc_if (fun q => absurd q (by decide)) (fun _ => ?_)) (fun q => absurd (by decide) q)
  exact zpc_if (fun q => absurd q (by decide)) (fun _ => zpc_if (fun q => absurd q (by decide)) (fun _ => zpc_if (fun q => absurd q (by decide)) (fun _ => zpc_if (fun q => absurd q (by decide)) (fun _ => zpc_if (fun _ => zpc_if (fun q => absurd q (by decide)) (fun _ => f136 _ _)) (fun q => absurd rfl q)))))
theorem p_rotM4 : zpc (fX12_turned μ 4 v) (fun r => r = (zsi μ 3 1 (pt (μ.1 3 1) 0 (if v >>> ((7 : Int32) &&& 31) = 1 then 1 else 0)), ((v <<< ((1 : Int32) &&& 31)) &&& 255) ||| 0)) := by
  have f74 : ∀ (g c : Int32), zpc (fX12_turned_74 μ v 1 g c) (fun r => r = (zsi μ 3 1 (pt (μ.1 3 1) 0 (if g = 1 then 1 else 0)), ((v <<< ((1 : Int32) &&& 31)) &&& 255) ||| c)) := fun g c => by
    unfold fX12_turned_74
    refine zpc_j (K := fun u => fX12_turned_89 μ v 1 c u 0) (a := 1) (b := 0) (fun u eu => ?_)
    unfold fX12_turned_89 fX12_turned_118
    refine zpc_bu p_put' (fun t et => ?_)
    rw [et, eu]
    exact zpc_if (fun q => absurd q (by decide)) (fun _ => zpc_some rfl)
  unfold fX12_turned fX12_turned_11 fX12_turned_26
  refine zpc_ck (zpc_if (fun _ => zpc_if (fun q => absurd q (by decide)) (fun _ => ?_)) (fun q => absurd (by decide) q))
  exact zpc_if (fun _ => zpc_if (fun _ => zpc_if (fun q => absurd q (by decide)) (fun _ => zpc_if (fun q => absurd q (by decide)) (fun _ => f74 _ _))) (fun q => absurd (by decide) q)) (fun q => absurd (by decide) q)
theorem p_rotC5 : zpc (fX5_turn σ 5 v) (fun r => r = (zsi σ 36 1 (crot ((v >>> ((1 : Int32) &&& 31)) ||| ((v >>> ((7 : Int32) &&& 31)) <<< ((7 : Int32) &&& 31))) (v &&& 1)), (v >>> ((1 : Int32) &&& 31)) ||| ((v >>> ((7 : Int32) &&& 31)) <<< ((7 : Int32) &&& 31)))) := by
  have f136 : ∀ (g w : Int32), zpc (fX5_turn_136 σ g w) (fun r => r = (zsi σ 36 1 (crot w g), w)) := fun g w => by
    unfold fX5_turn_136 crot
    refine zpc_bi p_byC (fun t x et => ?_)
    cases et
    refine zpc_bi p_parC (fun t x et => ?_)
    cases et
    exact zpc_ck (zpc_bv (fun t et => zpc_some (by rw [et]; rfl)))
  unfold fX5_turn fX5_turn_11 fX5_turn_26 fX5_turn_72 fX5_turn_79 fX5_turn_107 fX5_turn_110
  refine zpc_if (fun q => absurd q (by decide)) (fun _ => zpc_if (fun _ => ?_) (fun q => absurd rfl q))
  exact zpc_if (fun q => absurd q (by decide)) (fun _ => zpc_if (fun q => absurd q (by decide)) (fun _ => zpc_if (fun q => absurd q (by decide)) (fun _ => zpc_if (fun q => absurd q (by decide)) (fun _ => zpc_if (fun q => absurd q (by decide)) (fun _ => zpc_if (fun _ => zpc_bv (fun u eu => by subst eu; exact zpc_if (fun _ => f136 _ _) (fun q => absurd rfl q))) (fun q => absurd rfl q))))))
theorem p_rotM5 : zpc (fX12_turned μ 5 v) (fun r => r = (zsi μ 3 1 (pt (μ.1 3 1) 0 (if v &&& 1 = 1 then 1 else 0)), (v >>> ((1 : Int32) &&& 31)) ||| ((v >>> ((7 : Int32) &&& 31)) <<< ((7 : Int32) &&& 31)))) := by
  have f74 : ∀ (g c : Int32), zpc (fX12_turned_74 μ v 0 g c) (fun r => r = (zsi μ 3 1 (pt (μ.1 3 1) 0 (if g = 1 then 1 else 0)), (v >>> ((1 : Int32) &&& 31)) ||| (c <<< ((7 : Int32) &&& 31)))) := fun g c => by
    unfold fX12_turned_74
    refine zpc_j (K := fun u => fX12_turned_89 μ v 0 c u 0) (a := 1) (b := 0) (fun u eu => ?_)
    unfold fX12_turned_89 fX12_turned_118
    refine zpc_bu p_put' (fun t et => ?_)
    rw [et, eu]
    exact zpc_if (fun _ => zpc_some rfl) (fun q => absurd rfl q)
  unfold fX12_turned fX12_turned_11 fX12_turned_26
  refine zpc_ck (zpc_if (fun q => absurd q (by decide)) (fun _ => zpc_if (fun _ => ?_) (fun q => absurd rfl q)))
  exact zpc_if (fun _ => zpc_if (fun _ => zpc_if (fun _ => f74 _ _) (fun q => absurd rfl q)) (fun q => absurd (by decide) q)) (fun q => absurd (by decide) q)
theorem p_rotC6 : zpc (fX5_turn σ 6 v) (fun r => r = (zsi σ 36 1 (crot (((v <<< ((1 : Int32) &&& 31)) &&& 255) ||| 1) (v >>> ((7 : Int32) &&& 31))), ((v <<< ((1 : Int32) &&& 31)) &&& 255) ||| 1)) := by
  have f136 : ∀ (g w : Int32), zpc (fX5_turn_136 σ g w) (fun r => r = (zsi σ 36 1 (crot w g), w)) := fun g w => by
    unfold fX5_turn_136 crot
    refine zpc_bi p_byC (fun t x et => ?_)
    cases et
    refine zpc_bi p_parC (fun t x et => ?_)
    cases et
    exact zpc_ck (zpc_bv (fun t et => zpc_some (by rw [et]; rfl)))
  unfold fX5_turn fX5_turn_11 fX5_turn_26 fX5_turn_72 fX5_turn_79 fX5_turn_107 fX5_turn_110
  refine zpc_if (fun _ => zpc_if (fun q => absurd q (by decide)) (fun _ => ?_)) (fun q => absurd (by decide) q)
  exact zpc_if (fun q => absurd q (by decide)) (fun _ => zpc_if (fun q => absurd q (by decide)) (fun _ => zpc_if (fun q => absurd q (by decide)) (fun _ => zpc_if (fun q => absurd q (by decide)) (fun _ => zpc_if (fun q => absurd q (by decide)) (fun _ => zpc_if (fun q => absurd q (by decide)) (fun _ => zpc_if (fun _ => zpc_if (fun q => absurd q (by decide)) (fun _ => f136 _ _)) (fun q => absurd rfl q)))))))
theorem p_rotM6 : zpc (fX12_turned μ 6 v) (fun r => r = (zsi μ 3 1 (pt (μ.1 3 1) 0 (if v >>> ((7 : Int32) &&& 31) = 1 then 1 else 0)), ((v <<< ((1 : Int32) &&& 31)) &&& 255) ||| 1)) := by
  have f74 : ∀ (g c : Int32), zpc (fX12_turned_74 μ v 1 g c) (fun r => r = (zsi μ 3 1 (pt (μ.1 3 1) 0 (if g = 1 then 1 else 0)), ((v <<< ((1 : Int32) &&& 31)) &&& 255) ||| c)) := fun g c => by
    unfold fX12_turned_74
    refine zpc_j (K := fun u => fX12_turned_89 μ v 1 c u 0) (a := 1) (b := 0) (fun u eu => ?_)
    unfold fX12_turned_89 fX12_turned_118
    refine zpc_bu p_put' (fun t et => ?_)
    rw [et, eu]
    exact zpc_if (fun q => absurd q (by decide)) (fun _ => zpc_some rfl)
  unfold fX12_turned fX12_turned_11 fX12_turned_26
  refine zpc_ck (zpc_if (fun _ => zpc_if (fun q => absurd q (by decide)) (fun _ => ?_)) (fun q => absurd (by decide) q))
  exact zpc_if (fun _ => zpc_if (fun _ => zpc_if (fun q => absurd q (by decide)) (fun _ => zpc_if (fun _ => f74 _ _) (fun q => absurd rfl q))) (fun q => absurd (by decide) q)) (fun q => absurd (by decide) q)
theorem p_rotC7 : zpc (fX5_turn σ 7 v) (fun r => r = (zsi σ 36 1 (crot ((v >>> ((1 : Int32) &&& 31)) ||| (0 <<< ((7 : Int32) &&& 31))) (v &&& 1)), (v >>> ((1 : Int32) &&& 31)) ||| (0 <<< ((7 : Int32) &&& 31)))) := by
  have f136 : ∀ (g w : Int32), zpc (fX5_turn_136 σ g w) (fun r => r = (zsi σ 36 1 (crot w g), w)) := fun g w => by
    unfold fX5_turn_136 crot
    refine zpc_bi p_byC (fun t x et => ?_)
    cases et
    refine zpc_bi p_parC (fun t x et => ?_)
    cases et
    exact zpc_ck (zpc_bv (fun t et => zpc_some (by rw [et]; rfl)))
  unfold fX5_turn fX5_turn_11 fX5_turn_26 fX5_turn_72 fX5_turn_79 fX5_turn_107 fX5_turn_110
  refine zpc_if (fun q => absurd q (by decide)) (fun _ => zpc_if (fun _ => ?_) (fun q => absurd rfl q))
  exact zpc_if (fun q => absurd q (by decide)) (fun _ => zpc_if (fun q => absurd q (by decide)) (fun _ => zpc_if (fun q => absurd q (by decide)) (fun _ => zpc_if (fun q => absurd q (by decide)) (fun _ => zpc_if (fun q => absurd q (by decide)) (fun _ => zpc_if (fun q => absurd q (by decide)) (fun _ => zpc_if (fun q => absurd q (by decide)) (fun _ => zpc_if (fun _ => f136 _ _) (fun q => absurd rfl q))))))))
theorem p_rotM7 : zpc (fX12_turned μ 7 v) (fun r => r = (zsi μ 3 1 (pt (μ.1 3 1) 0 (if v &&& 1 = 1 then 1 else 0)), (v >>> ((1 : Int32) &&& 31)) ||| (0 <<< ((7 : Int32) &&& 31)))) := by
  have f74 : ∀ (g c : Int32), zpc (fX12_turned_74 μ v 0 g c) (fun r => r = (zsi μ 3 1 (pt (μ.1 3 1) 0 (if g = 1 then 1 else 0)), (v >>> ((1 : Int32) &&& 31)) ||| (c <<< ((7 : Int32) &&& 31)))) := fun g c => by
    unfold fX12_turned_74
    refine zpc_j (K := fun u => fX12_turned_89 μ v 0 c u 0) (a := 1) (b := 0) (fun u eu => ?_)
    unfold fX12_turned_89 fX12_turned_118
    refine zpc_bu p_put' (fun t et => ?_)
    rw [et, eu]
    exact zpc_if (fun _ => zpc_some rfl) (fun q => absurd rfl q)
  unfold fX12_turned fX12_turned_11 fX12_turned_26
  refine zpc_ck (zpc_if (fun q => absurd q (by decide)) (fun _ => zpc_if (fun _ => ?_) (fun q => absurd rfl q)))
  exact zpc_if (fun _ => zpc_if (fun _ => zpc_if (fun q => absurd q (by decide)) (fun _ => zpc_if (fun q => absurd q (by decide)) (fun _ => f74 _ _))) (fun q => absurd (by decide) q)) (fun q => absurd (by decide) q)
end ZRT
theorem v_rotf0 : ∀ i : Fin 256, ∀ c : Fin 2, (0 ≤ ((((Int32.ofNat i.val) <<< ((1 : Int32) &&& 31)) &&& 255) ||| ((Int32.ofNat i.val) >>> ((7 : Int32) &&& 31))).toInt ∧ ((((Int32.ofNat i.val) <<< ((1 : Int32) &&& 31)) &&& 255) ||| ((Int32.ofNat i.val) >>> ((7 : Int32) &&& 31))).toInt ≤ 255) ∧ (0 ≤ ((Int32.ofNat i.val) >>> ((7 : Int32) &&& 31)).toInt ∧ ((Int32.ofNat i.val) >>> ((7 : Int32) &&& 31)).toInt ≤ 1) := by decide +kernel
theorem v_rotf1 : ∀ i : Fin 256, ∀ c : Fin 2, (0 ≤ (((Int32.ofNat i.val) >>> ((1 : Int32) &&& 31)) ||| (((Int32.ofNat i.val) &&& 1) <<< ((7 : Int32) &&& 31))).toInt ∧ (((Int32.ofNat i.val) >>> ((1 : Int32) &&& 31)) ||| (((Int32.ofNat i.val) &&& 1) <<< ((7 : Int32) &&& 31))).toInt ≤ 255) ∧ (0 ≤ ((Int32.ofNat i.val) &&& 1).toInt ∧ ((Int32.ofNat i.val) &&& 1).toInt ≤ 1) := by decide +kernel
theorem v_rotf2 : ∀ i : Fin 256, ∀ c : Fin 2, (0 ≤ ((((Int32.ofNat i.val) <<< ((1 : Int32) &&& 31)) &&& 255) ||| (Int32.ofNat c.val)).toInt ∧ ((((Int32.ofNat i.val) <<< ((1 : Int32) &&& 31)) &&& 255) ||| (Int32.ofNat c.val)).toInt ≤ 255) ∧ (0 ≤ ((Int32.ofNat i.val) >>> ((7 : Int32) &&& 31)).toInt ∧ ((Int32.ofNat i.val) >>> ((7 : Int32) &&& 31)).toInt ≤ 1) := by decide +kernel
theorem v_rotf3 : ∀ i : Fin 256, ∀ c : Fin 2, (0 ≤ (((Int32.ofNat i.val) >>> ((1 : Int32) &&& 31)) ||| ((Int32.ofNat c.val) <<< ((7 : Int32) &&& 31))).toInt ∧ (((Int32.ofNat i.val) >>> ((1 : Int32) &&& 31)) ||| ((Int32.ofNat c.val) <<< ((7 : Int32) &&& 31))).toInt ≤ 255) ∧ (0 ≤ ((Int32.ofNat i.val) &&& 1).toInt ∧ ((Int32.ofNat i.val) &&& 1).toInt ≤ 1) := by decide +kernel
theorem v_rotf4 : ∀ i : Fin 256, ∀ c : Fin 2, (0 ≤ ((((Int32.ofNat i.val) <<< ((1 : Int32) &&& 31)) &&& 255) ||| 0).toInt ∧ ((((Int32.ofNat i.val) <<< ((1 : Int32) &&& 31)) &&& 255) ||| 0).toInt ≤ 255) ∧ (0 ≤ ((Int32.ofNat i.val) >>> ((7 : Int32) &&& 31)).toInt ∧ ((Int32.ofNat i.val) >>> ((7 : Int32) &&& 31)).toInt ≤ 1) := by decide +kernel
theorem v_rotf5 : ∀ i : Fin 256, ∀ c : Fin 2, (0 ≤ (((Int32.ofNat i.val) >>> ((1 : Int32) &&& 31)) ||| (((Int32.ofNat i.val) >>> ((7 : Int32) &&& 31)) <<< ((7 : Int32) &&& 31))).toInt ∧ (((Int32.ofNat i.val) >>> ((1 : Int32) &&& 31)) ||| (((Int32.ofNat i.val) >>> ((7 : Int32) &&& 31)) <<< ((7 : Int32) &&& 31))).toInt ≤ 255) ∧ (0 ≤ ((Int32.ofNat i.val) &&& 1).toInt ∧ ((Int32.ofNat i.val) &&& 1).toInt ≤ 1) := by decide +kernel
theorem v_rotf6 : ∀ i : Fin 256, ∀ c : Fin 2, (0 ≤ ((((Int32.ofNat i.val) <<< ((1 : Int32) &&& 31)) &&& 255) ||| 1).toInt ∧ ((((Int32.ofNat i.val) <<< ((1 : Int32) &&& 31)) &&& 255) ||| 1).toInt ≤ 255) ∧ (0 ≤ ((Int32.ofNat i.val) >>> ((7 : Int32) &&& 31)).toInt ∧ ((Int32.ofNat i.val) >>> ((7 : Int32) &&& 31)).toInt ≤ 1) := by decide +kernel
theorem v_rotf7 : ∀ i : Fin 256, ∀ c : Fin 2, (0 ≤ (((Int32.ofNat i.val) >>> ((1 : Int32) &&& 31)) ||| (0 <<< ((7 : Int32) &&& 31))).toInt ∧ (((Int32.ofNat i.val) >>> ((1 : Int32) &&& 31)) ||| (0 <<< ((7 : Int32) &&& 31))).toInt ≤ 255) ∧ (0 ≤ ((Int32.ofNat i.val) &&& 1).toInt ∧ ((Int32.ofNat i.val) &&& 1).toInt ≤ 1) := by decide +kernel
theorem v_rtf : ∀ i : Fin 256, ∀ k : Fin 2, zfl (d7 (Int32.ofNat i.val)) (d6 (Int32.ofNat i.val)) (d5 (Int32.ofNat i.val)) false (d3 (Int32.ofNat i.val)) (bc (gev (Int32.ofNat i.val))) false (bc (if Int32.ofNat k.val = 1 then 1 else 0)) = crot (Int32.ofNat i.val) (Int32.ofNat k.val) := by decide +kernel
theorem v_rt {w g : Int32} (hw : zr 0 255 w) (hg : zr 0 1 g) : zfl (d7 w) (d6 w) (d5 w) false (d3 w) (bc (gev w)) false (bc (if g = 1 then 1 else 0)) = crot w g := by
  obtain ⟨i, ei⟩ := z_byteF hw
  obtain ⟨k, ek⟩ := z_bit1 hg
  subst ei
  subst ek
  exact v_rtf i k
theorem v_r41 : ∀ i : Fin 256, ∀ k : Fin 2, crot (Int32.ofNat i.val) (Int32.ofNat k.val) &&& 41 = ((bif d5 (Int32.ofNat i.val) then 32 else 0) ||| (bif d3 (Int32.ofNat i.val) then 8 else 0)) ||| (bif bc (if Int32.ofNat k.val = 1 then 1 else 0) then 1 else 0) := by decide +kernel
theorem v_196 : ∀ i : Fin 256, Int32.ofNat i.val &&& 196 = ((bif decide (¬ Int32.ofNat i.val &&& 128 = 0) then 128 else 0) ||| (bif decide (¬ Int32.ofNat i.val &&& 64 = 0) then 64 else 0)) ||| (bif decide (¬ Int32.ofNat i.val &&& 4 = 0) then 4 else 0) := by decide +kernel
theorem v_acB : ∀ b7 b6 b5 b3 b2 b0 : Bool, zfl b7 b6 b5 false b3 b2 false b0 = (((bif b7 then 128 else 0) ||| (bif b6 then 64 else 0)) ||| (bif b2 then 4 else 0)) ||| (((bif b5 then 32 else 0) ||| (bif b3 then 8 else 0)) ||| (bif b0 then 1 else 0)) := by decide
/-- the flags behind RLCA and its like -/
theorem v_ac {f w g : Int32} (hf : zr 0 255 f) (hw : zr 0 255 w) (hg : zr 0 1 g) : pt (pt (gxy (pt f 0 (if g = 1 then 1 else 0)) w) 4 0) 1 0 = (f &&& 196) ||| (crot w g &&& 41) := by
  have e : pt (pt (gxy (pt f 0 (if g = 1 then 1 else 0)) w) 4 0) 1 0 = zfl (decide (¬ f &&& 128 = 0)) (decide (¬ f &&& 64 = 0)) (d5 w) false (d3 w) (decide (¬ f &&& 4 = 0)) false (bc (if g = 1 then 1 else 0)) := by
    rw [fl_of hf, pt_0, fl_xy, pt_4, pt_1, ← fl_of hf]
    rfl
  rw [e, v_acB]
  obtain ⟨i, ei⟩ := z_byteF hw
  obtain ⟨k, ek⟩ := z_bit1 hg
  obtain ⟨l, el⟩ := z_byteF hf
  subst ei
  subst ek
  subst el
  rw [v_r41 i k, v_196 l]
end ZJN0
section ZJN1
/-! CONDITIONS -/
theorem v_b0 : ∀ i : Fin 256, ((Int32.ofNat i.val) >>> ((0 : Int32) &&& 31)) &&& 1 = if Int32.ofNat i.val &&& 1 = 0 then 0 else 1 := by decide +kernel
theorem z_bt0 {f : Int32} (h : zr 0 255 f) : (f >>> ((0 : Int32) &&& 31)) &&& 1 = if f &&& 1 = 0 then 0 else 1 := by
  obtain ⟨i, ei⟩ := z_byteF h
  subst ei
  exact v_b0 i
theorem v_b1 : ∀ i : Fin 256, ((Int32.ofNat i.val) >>> ((1 : Int32) &&& 31)) &&& 1 = if Int32.ofNat i.val &&& 2 = 0 then 0 else 1 := by decide +kernel
theorem z_bt1 {f : Int32} (h : zr 0 255 f) : (f >>> ((1 : Int32) &&& 31)) &&& 1 = if f &&& 2 = 0 then 0 else 1 := by
  obtain ⟨i, ei⟩ := z_byteF h
  subst ei
  exact v_b1 i
theorem v_b2 : ∀ i : Fin 256, ((Int32.ofNat i.val) >>> ((2 : Int32) &&& 31)) &&& 1 = if Int32.ofNat i.val &&& 4 = 0 then 0 else 1 := by decide +kernel
theorem z_bt2 {f : Int32} (h : zr 0 255 f) : (f >>> ((2 : Int32) &&& 31)) &&& 1 = if f &&& 4 = 0 then 0 else 1 := by
  obtain ⟨i, ei⟩ := z_byteF h
  subst ei
  exact v_b2 i
theorem v_b3 : ∀ i : Fin 256, ((Int32.ofNat i.val) >>> ((3 : Int32) &&& 31)) &&& 1 = if Int32.ofNat i.val &&& 8 = 0 then 0 else 1 := by decide +kernel
theorem z_bt3 {f : Int32} (h : zr 0 255 f) : (f >>> ((3 : Int32) &&& 31)) &&& 1 = if f &&& 8 = 0 then 0 else 1 := by
  obtain ⟨i, ei⟩ := z_byteF h
  subst ei
  exact v_b3 i
theorem v_b4 : ∀ i : Fin 256, ((Int32.ofNat i.val) >>> ((4 : Int32) &&& 31)) &&& 1 = if Int32.ofNat i.val &&& 16 = 0 then 0 else 1 := by decide +kernel
theorem z_bt4 {f : Int32} (h : zr 0 255 f) : (f >>> ((4 : Int32) &&& 31)) &&& 1 = if f &&& 16 = 0 then 0 else 1 := by
  obtain ⟨i, ei⟩ := z_byteF h
  subst ei
  exact v_b4 i
theorem v_b5 : ∀ i : Fin 256, ((Int32.ofNat i.val) >>> ((5 : Int32) &&& 31)) &&& 1 = if Int32.ofNat i.val &&& 32 = 0 then 0 else 1 := by decide +kernel
theorem z_bt5 {f : Int32} (h : zr 0 255 f) : (f >>> ((5 : Int32) &&& 31)) &&& 1 = if f &&& 32 = 0 then 0 else 1 := by
  obtain ⟨i, ei⟩ := z_byteF h
  subst ei
  exact v_b5 i
theorem v_b6 : ∀ i : Fin 256, ((Int32.ofNat i.val) >>> ((6 : Int32) &&& 31)) &&& 1 = if Int32.ofNat i.val &&& 64 = 0 then 0 else 1 := by decide +kernel
theorem z_bt6 {f : Int32} (h : zr 0 255 f) : (f >>> ((6 : Int32) &&& 31)) &&& 1 = if f &&& 64 = 0 then 0 else 1 := by
  obtain ⟨i, ei⟩ := z_byteF h
  subst ei
  exact v_b6 i
theorem v_b7 : ∀ i : Fin 256, ((Int32.ofNat i.val) >>> ((7 : Int32) &&& 31)) &&& 1 = if Int32.ofNat i.val &&& 128 = 0 then 0 else 1 := by decide +kernel
theorem z_bt7 {f : Int32} (h : zr 0 255 f) : (f >>> ((7 : Int32) &&& 31)) &&& 1 = if f &&& 128 = 0 then 0 else 1 := by
  obtain ⟨i, ei⟩ := z_byteF h
  subst ei
  exact v_b7 i
section ZCC
variable {I : zSt → zSt → Prop} {σ μ : zSt}
theorem t_cc (hF : zF σ μ) (hf : zr 0 255 (σ.1 36 1)) {y : Int32} (hy : zr 0 7 y) : zp2 (fX5_holds σ y) (fX12_cc μ y) (fun r r' => r.1 = σ ∧ r'.1 = μ ∧ r'.2 = r.2 ∧ zr 0 1 r.2) := by
  have ef : μ.1 3 1 = σ.1 36 1 := hF
  have r0 : zr 0 1 (0 : Int32) := zr_c (by decide)
  have r1 : zr 0 1 (1 : Int32) := zr_c (by decide)
  unfold fX5_holds fX12_cc fX5_holds_24 fX5_holds_36 fX5_holds_44 fX12_cc_32
  rcases zr_hd (c := 0) hy rfl with e | hy
  · subst e
    refine zp2_ckl (zp2_ckl ?_)
    refine zp2_ifr (fun q => absurd q (by decide)) (fun _ => ?_)
    refine zp2_bir p_flag (fun t u et => ?_)
    cases et
    rw [ef, z_bt6 hf]
    unfold fX12_cc_44 fX12_cc_56 fX12_cc_64
    by_cases q : σ.1 36 1 &&& 64 = 0
    · refine zp2_ifl (fun _ => ?_) (fun r => absurd (show σ.1 36 1 &&& 64 = 0 from q) r)
      refine zp2_ifl (fun q => absurd q (by decide)) (fun _ => ?_)
      refine zp2_ifl (fun _ => zp2_ckl ?_) (fun r => absurd rfl r)
      rw [if_pos q]
      refine zp2_ifr (fun q => absurd q (by decide)) (fun _ => zp2_ckr ?_)
      refine zp2_ifr (fun q => absurd q (by decide)) (fun _ => ?_)
      exact zp2_ifr (fun _ => zp2_ckr (zp2_some ⟨rfl, rfl, rfl, r1⟩)) (fun r => absurd rfl r)
    · refine zp2_ifl (fun r => absurd (show σ.1 36 1 &&& 64 = 0 from r) q) (fun _ => ?_)
      refine zp2_ifl (fun q => absurd q (by decide)) (fun _ => ?_)
      refine zp2_ifl (fun q => absurd q (by decide)) (fun _ => zp2_ckl ?_)
      rw [if_neg q]
      refine zp2_ifr (fun _ => zp2_ckr ?_) (fun r => absurd rfl r)
      refine zp2_ifr (fun q => absurd q (by decide)) (fun _ => ?_)
      exact zp2_ifr (fun q => absurd q (by decide)) (fun _ => zp2_ckr (zp2_some ⟨rfl, rfl, rfl, r0⟩))
  rcases zr_hd (c := 1) hy rfl with e | hy
  · subst e
    refine zp2_ckl (zp2_ckl ?_)
    refine zp2_ifr (fun q => absurd q (by decide)) (fun _ => ?_)
    refine zp2_bir p_flag (fun t u et => ?_)
    cases et
    rw [ef, z_bt6 hf]
    unfold fX12_cc_44 fX12_cc_56 fX12_cc_64
    by_cases q : σ.1 36 1 &&& 64 = 0
    · refine zp2_ifl (fun _ => ?_) (fun r => absurd (show σ.1 36 1 &&& 64 = 0 from q) r)
      refine zp2_ifl (fun _ => ?_) (fun r => absurd (by decide) r)
      refine zp2_ifl (fun q => absurd q (by decide)) (fun _ => zp2_ckl ?_)
      rw [if_pos q]
      refine zp2_ifr (fun q => absurd q (by decide)) (fun _ => zp2_ckr ?_)
      refine zp2_ifr (fun _ => ?_) (fun r => absurd (by decide) r)
      exact zp2_ifr (fun q => absurd q (by decide)) (fun _ => zp2_ckr (zp2_some ⟨rfl, rfl, rfl, r0⟩))
    · refine zp2_ifl (fun r => absurd (show σ.1 36 1 &&& 64 = 0 from r) q) (fun _ => ?_)
      refine zp2_ifl (fun _ => ?_) (fun r => absurd (by decide) r)
      refine zp2_ifl (fun _ => zp2_ckl ?_) (fun r => absurd rfl r)
      rw [if_neg q]
      refine zp2_ifr (fun _ => zp2_ckr ?_) (fun r => absurd rfl r)
      refine zp2_ifr (fun _ => ?_) (fun r => absurd (by decide) r)
      exact zp2_ifr (fun _ => zp2_ckr (zp2_some ⟨rfl, rfl, rfl, r1⟩)) (fun r => absurd rfl r)
  rcases zr_hd (c := 2) hy rfl with e | hy
  · subst e
    refine zp2_ckl (zp2_ckl ?_)
    refine zp2_ifr (fun _ => zp2_ifr (fun q => absurd q (by decide)) (fun _ => ?_)) (fun q => absurd (by decide) q)
    refine zp2_bir p_flag (fun t u et => ?_)
    cases et
    rw [ef, z_bt0 hf]
    unfold fX12_cc_44 fX12_cc_56 fX12_cc_64
    by_cases q : σ.1 36 1 &&& 1 = 0
    · refine zp2_ifl (fun _ => ?_) (fun r => absurd (show σ.1 36 1 &&& 1 = 0 from q) r)
      refine zp2_ifl (fun q => absurd q (by decide)) (fun _ => ?_)
      refine zp2_ifl (fun _ => zp2_ckl ?_) (fun r => absurd rfl r)
      rw [if_pos q]
      refine zp2_ifr (fun q => absurd q (by decide)) (fun _ => zp2_ckr ?_)
      refine zp2_ifr (fun q => absurd q (by decide)) (fun _ => ?_)
      exact zp2_ifr (fun _ => zp2_ckr (zp2_some ⟨rfl, rfl, rfl, r1⟩)) (fun r => absurd rfl r)
    · refine zp2_ifl (fun r => absurd (show σ.1 36 1 &&& 1 = 0 from r) q) (fun _ => ?_)
      refine zp2_ifl (fun q => absurd q (by decide)) (fun _ => ?_)
      refine zp2_ifl (fun q => absurd q (by decide)) (fun _ => zp2_ckl ?_)
      rw [if_neg q]
      refine zp2_ifr (fun _ => zp2_ckr ?_) (fun r => absurd rfl r)
      refine zp2_ifr (fun q => absurd q (by decide)) (fun _ => ?_)
      exact zp2_ifr (fun q => absurd q (by decide)) (fun _ => zp2_ckr (zp2_some ⟨rfl, rfl, rfl, r0⟩))
  rcases zr_hd (c := 3) hy rfl with e | hy
  · subst e
    refine zp2_ckl (zp2_ckl ?_)
    refine zp2_ifr (fun _ => zp2_ifr (fun q => absurd q (by decide)) (fun _ => ?_)) (fun q => absurd (by decide) q)
    refine zp2_bir p_flag (fun t u et => ?_)
    cases et
    rw [ef, z_bt0 hf]
    unfold fX12_cc_44 fX12_cc_56 fX12_cc_64
    by_cases q : σ.1 36 1 &&& 1 = 0
    · refine zp2_ifl (fun _ => ?_) (fun r => absurd (show σ.1 36 1 &&& 1 = 0 from q) r)
      refine zp2_ifl (fun _ => ?_) (fun r => absurd (by decide) r)
      refine zp2_ifl (fun q => absurd q (by decide)) (fun _ => zp2_ckl ?_)
      rw [if_pos q]
      refine zp2_ifr (fun q => absurd q (by decide)) (fun _ => zp2_ckr ?_)
      refine zp2_ifr (fun _ => ?_) (fun r => absurd (by decide) r)
      exact zp2_ifr (fun q => absurd q (by decide)) (fun _ => zp2_ckr (zp2_some ⟨rfl, rfl, rfl, r0⟩))
    · refine zp2_ifl (fun r => absurd (show σ.1 36 1 &&& 1 = 0 from r) q) (fun _ => ?_)
      refine zp2_ifl (fun _ => ?_) (fun r => absurd (by decide) r)
      refine zp2_ifl (fun _ => zp2_ckl ?_) (fun r => absurd rfl r)
      rw [if_neg q]
      refine zp2_ifr (fun _ => zp2_ckr ?_) (fun r => absurd rfl r)
      refine zp2_ifr (fun _ => ?_) (fun r => absurd (by decide) r)
      exact zp2_ifr (fun _ => zp2_ckr (zp2_some ⟨rfl, rfl, rfl, r1⟩)) (fun r => absurd rfl r)
  rcases zr_hd (c := 4) hy rfl with e | hy
  · subst e
    refine zp2_ckl (zp2_ckl ?_)
    refine zp2_ifr (fun _ => zp2_ifr (fun _ => zp2_ifr (fun q => absurd q (by decide)) (fun _ => ?_)) (fun q => absurd (by decide) q)) (fun q => absurd (by decide) q)
    refine zp2_bir p_flag (fun t u et => ?_)
    cases et
    rw [ef, z_bt2 hf]
    unfold fX12_cc_44 fX12_cc_56 fX12_cc_64
    by_cases q : σ.1 36 1 &&& 4 = 0
    · refine zp2_ifl (fun _ => ?_) (fun r => absurd (show σ.1 36 1 &&& 4 = 0 from q) r)
      refine zp2_ifl (fun q => absurd q (by decide)) (fun _ => ?_)
      refine zp2_ifl (fun _ => zp2_ckl ?_) (fun r => absurd rfl r)
      rw [if_pos q]
      refine zp2_ifr (fun q => absurd q (by decide)) (fun _ => zp2_ckr ?_)
      refine zp2_ifr (fun q => absurd q (by decide)) (fun _ => ?_)
      exact zp2_ifr (fun _ => zp2_ckr (zp2_some ⟨rfl, rfl, rfl, r1⟩)) (fun r => absurd rfl r)
    · refine zp2_ifl (fun r => absurd (show σ.1 36 1 &&& 4 = 0 from r) q) (fun _ => ?_)
      refine zp2_ifl (fun q => absurd q (by decide)) (fun _ => ?_)
      refine zp2_ifl (fun q => absurd q (by decide)) (fun _ => zp2_ckl ?_)
      rw [if_neg q]
      refine zp2_ifr (fun _ => zp2_ckr ?_) (fun r => absurd rfl r)
      refine zp2_ifr (fun q => absurd q (by decide)) (fun _ => ?_)
      exact zp2_ifr (fun q => absurd q (by decide)) (fun _ => zp2_ckr (zp2_some ⟨rfl, rfl, rfl, r0⟩))
  rcases zr_hd (c := 5) hy rfl with e | hy
  · subst e
    refine zp2_ckl (zp2_ckl ?_)
    refine zp2_ifr (fun _ => zp2_ifr (fun _ => zp2_ifr (fun q => absurd q (by decide)) (fun _ => ?_)) (fun q => absurd (by decide) q)) (fun q => absurd (by decide) q)
    refine zp2_bir p_flag (fun t u et => ?_)
    cases et
    rw [ef, z_bt2 hf]
    unfold fX12_cc_44 fX12_cc_56 fX12_cc_64
    by_cases q : σ.1 36 1 &&& 4 = 0
    · refine zp2_ifl (fun _ => ?_) (fun r => absurd (show σ.1 36 1 &&& 4 = 0 from q) r)
      refine zp2_ifl (fun _ => ?_) (fun r => absurd (by decide) r)
      refine zp2_ifl (fun q => absurd q (by decide)) (fun _ => zp2_ckl ?_)
      rw [if_pos q]
      refine zp2_ifr (fun q => absurd q (by decide)) (fun _ => zp2_ckr ?_)
      refine zp2_ifr (fun _ => ?_) (fun r => absurd (by decide) r)
      exact zp2_ifr (fun q => absurd q (by decide)) (fun _ => zp2_ckr (zp2_some ⟨rfl, rfl, rfl, r0⟩))
    · refine zp2_ifl (fun r => absurd (show σ.1 36 1 &&& 4 = 0 from r) q) (fun _ => ?_)
      refine zp2_ifl (fun _ => ?_) (fun r => absurd (by decide) r)
      refine zp2_ifl (fun _ => zp2_ckl ?_) (fun r => absurd rfl r)
      rw [if_neg q]
      refine zp2_ifr (fun _ => zp2_ckr ?_) (fun r => absurd rfl r)
      refine zp2_ifr (fun _ => ?_) (fun r => absurd (by decide) r)
      exact zp2_ifr (fun _ => zp2_ckr (zp2_some ⟨rfl, rfl, rfl, r1⟩)) (fun r => absurd rfl r)
  rcases zr_hd (c := 6) hy rfl with e | hy
  · subst e
    refine zp2_ckl (zp2_ckl ?_)
    refine zp2_ifr (fun _ => zp2_ifr (fun _ => zp2_ifr (fun _ => ?_) (fun q => absurd (by decide) q)) (fun q => absurd (by decide) q)) (fun q => absurd (by decide) q)
    refine zp2_bir p_flag (fun t u et => ?_)
    cases et
    rw [ef, z_bt7 hf]
    unfold fX12_cc_44 fX12_cc_56 fX12_cc_64
    by_cases q : σ.1 36 1 &&& 128 = 0
    · refine zp2_ifl (fun _ => ?_) (fun r => absurd (show σ.1 36 1 &&& 128 = 0 from q) r)
      refine zp2_ifl (fun q => absurd q (by decide)) (fun _ => ?_)
      refine zp2_ifl (fun _ => zp2_ckl ?_) (fun r => absurd rfl r)
      rw [if_pos q]
      refine zp2_ifr (fun q => absurd q (by decide)) (fun _ => zp2_ckr ?_)
      refine zp2_ifr (fun q => absurd q (by decide)) (fun _ => ?_)
      exact zp2_ifr (fun _ => zp2_ckr (zp2_some ⟨rfl, rfl, rfl, r1⟩)) (fun r => absurd rfl r)
    · refine zp2_ifl (fun r => absurd (show σ.1 36 1 &&& 128 = 0 from r) q) (fun _ => ?_)
      refine zp2_ifl (fun q => absurd q (by decide)) (fun _ => ?_)
      refine zp2_ifl (fun q => absurd q (by decide)) (fun _ => zp2_ckl ?_)
      rw [if_neg q]
      refine zp2_ifr (fun _ => zp2_ckr ?_) (fun r => absurd rfl r)
      refine zp2_ifr (fun q => absurd q (by decide)) (fun _ => ?_)
      exact zp2_ifr (fun q => absurd q (by decide)) (fun _ => zp2_ckr (zp2_some ⟨rfl, rfl, rfl, r0⟩))
  rcases zr_hd (c := 7) hy rfl with e | hy
  · subst e
    refine zp2_ckl (zp2_ckl ?_)
    refine zp2_ifr (fun _ => zp2_ifr (fun _ => zp2_ifr (fun _ => ?_) (fun q => absurd (by decide) q)) (fun q => absurd (by decide) q)) (fun q => absurd (by decide) q)
    refine zp2_bir p_flag (fun t u et => ?_)
    cases et
    rw [ef, z_bt7 hf]
    unfold fX12_cc_44 fX12_cc_56 fX12_cc_64
    by_cases q : σ.1 36 1 &&& 128 = 0
    · refine zp2_ifl (fun _ => ?_) (fun r => absurd (show σ.1 36 1 &&& 128 = 0 from q) r)
      refine zp2_ifl (fun _ => ?_) (fun r => absurd (by decide) r)
      refine zp2_ifl (fun q => absurd q (by decide)) (fun _ => zp2_ckl ?_)
      rw [if_pos q]
      refine zp2_ifr (fun q => absurd q (by decide)) (fun _ => zp2_ckr ?_)
      refine zp2_ifr (fun _ => ?_) (fun r => absurd (by decide) r)
      exact zp2_ifr (fun q => absurd q (by decide)) (fun _ => zp2_ckr (zp2_some ⟨rfl, rfl, rfl, r0⟩))
    · refine zp2_ifl (fun r => absurd (show σ.1 36 1 &&& 128 = 0 from r) q) (fun _ => ?_)
      refine zp2_ifl (fun _ => ?_) (fun r => absurd (by decide) r)
      refine zp2_ifl (fun _ => zp2_ckl ?_) (fun r => absurd rfl r)
      rw [if_neg q]
      refine zp2_ifr (fun _ => zp2_ckr ?_) (fun r => absurd rfl r)
      refine zp2_ifr (fun _ => ?_) (fun r => absurd (by decide) r)
      exact zp2_ifr (fun _ => zp2_ckr (zp2_some ⟨rfl, rfl, rfl, r1⟩)) (fun r => absurd rfl r)
  exact zr_no9 hy (by decide)
end ZCC
end ZJN1
section ZJN2
/-! A ALONE -/
theorem v_p4a : ∀ i : Fin 256, ((Int32.ofNat i.val &&& ((1 <<< ((4 : Int32) &&& 31)) ^^^ (-1))) >>> ((0 : Int32) &&& 31)) &&& 1 = Int32.ofNat i.val &&& 1 := by decide +kernel
theorem v_p4b : ∀ i : Fin 256, ((Int32.ofNat i.val ||| (1 <<< ((4 : Int32) &&& 31))) >>> ((0 : Int32) &&& 31)) &&& 1 = Int32.ofNat i.val &&& 1 := by decide +kernel
section ZAA
variable {I : zSt → zSt → Prop} {σ μ : zSt}
/-- both states given by A and F -/
theorem zEnq_af (hI : zIoK I) (h : zTT I σ μ) (hW : zWzz σ μ) {A F A' F' bts : Int32} {s t : zSt} (qc : zQ [] [(36, 0, 0), (36, 1, 1)] [] [] σ s) (qm : zQ [] [(3, 0, 0), (3, 1, 1)] [] [] μ t) (c0 : s.1 36 0 = A) (c1 : s.1 36 1 = F) (m0 : t.1 3 0 = A') (m1 : t.1 3 1 = F') (e1 : A' = A) (e2 : F' = F) (r1 : zr 0 255 A) (r2 : zr 0 255 F) : zEnq I (s, bts) (t, bts) := by
  refine ⟨h.upd hI [0, 1] qc qm rfl (zAl2 ⟨by rw [m0, c0, e1], by rw [c0]; exact zrg_b (Or.inl (by decide)) r1⟩ ⟨by rw [m1, c1, e2], by rw [c1]; exact zrg_b (Or.inl (by decide)) r2⟩), ?_, ?_, rfl⟩
  · show t.1 3 1 = s.1 36 1
    rw [m1, c1, e2]
  · exact hW.of (qc.1 36 20 rfl) (qm.1 3 20 rfl)

theorem t_acc0 (hI : zIoK I) (h : zTT I σ μ) (hF : zF σ μ) (hW : zWzz σ μ) : zp2 (zbu (fX5_changeA σ 0) (fun s => some (s, (4 : Int32)))) (fX12_singles μ 0 7) (zEnq I) := by
  have ea : μ.1 3 0 = σ.1 36 0 := h.eq (by decide)
  have ef : μ.1 3 1 = σ.1 36 1 := hF
  have ha : zr 0 255 (σ.1 36 0) := h.b (by decide)
  have hf : zr 0 255 (σ.1 36 1) := h.b (by decide)
  have hwo : zr 0 255 (((σ.1 36 0 <<< ((1 : Int32) &&& 31)) &&& 255) ||| (σ.1 36 0 >>> ((7 : Int32) &&& 31))) ∧ zr 0 1 (σ.1 36 0 >>> ((7 : Int32) &&& 31)) := by
    obtain ⟨i, ei⟩ := z_byteF ha
    obtain ⟨k, ek⟩ := z_bit1 (z_r1 (σ.1 36 1))
    rw [ei]
    exact ⟨(v_rotf0 i k).1, (v_rotf0 i k).2⟩
  have cC : zpc (fX5_changeA σ 0) (fun r => r = zsi (zsi (zsi σ 36 1 (crot (((σ.1 36 0 <<< ((1 : Int32) &&& 31)) &&& 255) ||| (σ.1 36 0 >>> ((7 : Int32) &&& 31))) (σ.1 36 0 >>> ((7 : Int32) &&& 31)))) 36 0 (((σ.1 36 0 <<< ((1 : Int32) &&& 31)) &&& 255) ||| (σ.1 36 0 >>> ((7 : Int32) &&& 31)))) 36 1 ((σ.1 36 1 &&& 196) ||| (crot (((σ.1 36 0 <<< ((1 : Int32) &&& 31)) &&& 255) ||| (σ.1 36 0 >>> ((7 : Int32) &&& 31))) (σ.1 36 0 >>> ((7 : Int32) &&& 31)) &&& 41))) := by
    unfold fX5_changeA
    refine zpc_ck (zpc_bv (fun u eu => zpc_ck (zpc_bv (fun u2 eu2 => zpc_if (fun q => absurd q (by decide)) (fun _ => zpc_if (fun q => absurd q (by decide)) (fun _ => zpc_if (fun q => absurd q (by decide)) (fun _ => zpc_if (fun q => absurd q (by decide)) (fun _ => zpc_ck (zpc_bi p_rotC0 (fun t x et => ?_))))))))))
    cases et
    refine zpc_ck (zpc_bv (fun s1 f1 => zpc_ck (zpc_ck (zpc_bv (fun s2 f2 => zpc_some ?_)))))
    subst eu
    rw [f2, f1]
    rfl
  have cM : zpc (fX12_singles μ 0 7) (fun r => r = (zsi (zsi (zsi μ 3 1 (pt (σ.1 36 1) 0 (if σ.1 36 0 >>> ((7 : Int32) &&& 31) = 1 then 1 else 0))) 3 0 (((σ.1 36 0 <<< ((1 : Int32) &&& 31)) &&& 255) ||| (σ.1 36 0 >>> ((7 : Int32) &&& 31)))) 3 1 (pt (pt (gxy (pt (σ.1 36 1) 0 (if σ.1 36 0 >>> ((7 : Int32) &&& 31) = 1 then 1 else 0)) (((σ.1 36 0 <<< ((1 : Int32) &&& 31)) &&& 255) ||| (σ.1 36 0 >>> ((7 : Int32) &&& 31)))) 4 0) 1 0), 4)) := by
    unfold fX12_singles fX12_singles_316
    refine zpc_if (fun q => absurd q (by decide)) (fun _ => zpc_if (fun _ => zpc_if (fun q => absurd q (by decide)) (fun _ => zpc_ck (zpc_bi p_rotM0 (fun t x et => ?_)))) (fun q => absurd (by decide) q))
    cases et
    rw [show zgi μ 3 (0 : Int32).toNatClampNeg = σ.1 36 0 from ea, ef]
    refine zpc_ck (zpc_bv (fun s1 f1 => zpc_ck (zpc_bu p_xy' (fun s2 f2 => ?_))))
    subst f2
    refine zpc_bu p_put (fun s3 f3 => ?_)
    subst f3
    refine zpc_bu p_put (fun s4 f4 => zpc_some ?_)
    rw [f4, f1]
    rfl
  refine zp2_bul cC (fun s es => ?_)
  intro r r' er er'
  cases er
  rw [cM r' er']
  refine zEnq_af hI h hW (by rw [es]; exact zQ.wi (zQ.wi (zQ.wi zQ.rf rfl) rfl) rfl) (zQ.wi (zQ.wi (zQ.wi zQ.rf rfl) rfl) rfl) (by rw [es]; rfl) (by rw [es]; rfl) rfl rfl rfl (v_ac hf hwo.1 hwo.2) hwo.1 ?_
  rw [← v_ac hf hwo.1 hwo.2, fl_of hf, pt_0, fl_xy, pt_4, pt_1]
  exact zfl_r _ _ _ _ _ _ _ _
theorem t_acc1 (hI : zIoK I) (h : zTT I σ μ) (hF : zF σ μ) (hW : zWzz σ μ) : zp2 (zbu (fX5_changeA σ 1) (fun s => some (s, (4 : Int32)))) (fX12_singles μ 1 7) (zEnq I) := by
  have ea : μ.1 3 0 = σ.1 36 0 := h.eq (by decide)
  have ef : μ.1 3 1 = σ.1 36 1 := hF
  have ha : zr 0 255 (σ.1 36 0) := h.b (by decide)
  have hf : zr 0 255 (σ.1 36 1) := h.b (by decide)
  have hwo : zr 0 255 ((σ.1 36 0 >>> ((1 : Int32) &&& 31)) ||| ((σ.1 36 0 &&& 1) <<< ((7 : Int32) &&& 31))) ∧ zr 0 1 (σ.1 36 0 &&& 1) := by
    obtain ⟨i, ei⟩ := z_byteF ha
    obtain ⟨k, ek⟩ := z_bit1 (z_r1 (σ.1 36 1))
    rw [ei]
    exact ⟨(v_rotf1 i k).1, (v_rotf1 i k).2⟩
  have cC : zpc (fX5_changeA σ 1) (fun r => r = zsi (zsi (zsi σ 36 1 (crot ((σ.1 36 0 >>> ((1 : Int32) &&& 31)) ||| ((σ.1 36 0 &&& 1) <<< ((7 : Int32) &&& 31))) (σ.1 36 0 &&& 1))) 36 0 ((σ.1 36 0 >>> ((1 : Int32) &&& 31)) ||| ((σ.1 36 0 &&& 1) <<< ((7 : Int32) &&& 31)))) 36 1 ((σ.1 36 1 &&& 196) ||| (crot ((σ.1 36 0 >>> ((1 : Int32) &&& 31)) ||| ((σ.1 36 0 &&& 1) <<< ((7 : Int32) &&& 31))) (σ.1 36 0 &&& 1) &&& 41))) := by
    unfold fX5_changeA
    refine zpc_ck (zpc_bv (fun u eu => zpc_ck (zpc_bv (fun u2 eu2 => zpc_if (fun q => absurd q (by decide)) (fun _ => zpc_if (fun q => absurd q (by decide)) (fun _ => zpc_if (fun q => absurd q (by decide)) (fun _ => zpc_if (fun q => absurd q (by decide)) (fun _ => zpc_ck (zpc_bi p_rotC1 (fun t x et => ?_))))))))))
    cases et
    refine zpc_ck (zpc_bv (fun s1 f1 => zpc_ck (zpc_ck (zpc_bv (fun s2 f2 => zpc_some ?_)))))
    subst eu
    rw [f2, f1]
    rfl
  have cM : zpc (fX12_singles μ 1 7) (fun r => r = (zsi (zsi (zsi μ 3 1 (pt (σ.1 36 1) 0 (if σ.1 36 0 &&& 1 = 1 then 1 else 0))) 3 0 ((σ.1 36 0 >>> ((1 : Int32) &&& 31)) ||| ((σ.1 36 0 &&& 1) <<< ((7 : Int32) &&& 31)))) 3 1 (pt (pt (gxy (pt (σ.1 36 1) 0 (if σ.1 36 0 &&& 1 = 1 then 1 else 0)) ((σ.1 36 0 >>> ((1 : Int32) &&& 31)) ||| ((σ.1 36 0 &&& 1) <<< ((7 : Int32) &&& 31)))) 4 0) 1 0), 4)) := by
    unfold fX12_singles fX12_singles_316
    refine zpc_if (fun q => absurd q (by decide)) (fun _ => zpc_if (fun _ => zpc_if (fun q => absurd q (by decide)) (fun _ => zpc_ck (zpc_bi p_rotM1 (fun t x et => ?_)))) (fun q => absurd (by decide) q))
    cases et
    rw [show zgi μ 3 (0 : Int32).toNatClampNeg = σ.1 36 0 from ea, ef]
    refine zpc_ck (zpc_bv (fun s1 f1 => zpc_ck (zpc_bu p_xy' (fun s2 f2 => ?_))))
    subst f2
    refine zpc_bu p_put (fun s3 f3 => ?_)
    subst f3
    refine zpc_bu p_put (fun s4 f4 => zpc_some ?_)
    rw [f4, f1]
    rfl
  refine zp2_bul cC (fun s es => ?_)
  intro r r' er er'
  cases er
  rw [cM r' er']
  refine zEnq_af hI h hW (by rw [es]; exact zQ.wi (zQ.wi (zQ.wi zQ.rf rfl) rfl) rfl) (zQ.wi (zQ.wi (zQ.wi zQ.rf rfl) rfl) rfl) (by rw [es]; rfl) (by rw [es]; rfl) rfl rfl rfl (v_ac hf hwo.1 hwo.2) hwo.1 ?_
  rw [← v_ac hf hwo.1 hwo.2, fl_of hf, pt_0, fl_xy, pt_4, pt_1]
  exact zfl_r _ _ _ _ _ _ _ _
theorem t_acc2 (hI : zIoK I) (h : zTT I σ μ) (hF : zF σ μ) (hW : zWzz σ μ) : zp2 (zbu (fX5_changeA σ 2) (fun s => some (s, (4 : Int32)))) (fX12_singles μ 2 7) (zEnq I) := by
  have ea : μ.1 3 0 = σ.1 36 0 := h.eq (by decide)
  have ef : μ.1 3 1 = σ.1 36 1 := hF
  have ha : zr 0 255 (σ.1 36 0) := h.b (by decide)
  have hf : zr 0 255 (σ.1 36 1) := h.b (by decide)
  have hwo : zr 0 255 (((σ.1 36 0 <<< ((1 : Int32) &&& 31)) &&& 255) ||| (σ.1 36 1 &&& 1)) ∧ zr 0 1 (σ.1 36 0 >>> ((7 : Int32) &&& 31)) := by
    obtain ⟨i, ei⟩ := z_byteF ha
    obtain ⟨k, ek⟩ := z_bit1 (z_r1 (σ.1 36 1))
    rw [ek, ei]
    exact ⟨(v_rotf2 i k).1, (v_rotf2 i k).2⟩
  have cC : zpc (fX5_changeA σ 2) (fun r => r = zsi (zsi (zsi σ 36 1 (crot (((σ.1 36 0 <<< ((1 : Int32) &&& 31)) &&& 255) ||| (σ.1 36 1 &&& 1)) (σ.1 36 0 >>> ((7 : Int32) &&& 31)))) 36 0 (((σ.1 36 0 <<< ((1 : Int32) &&& 31)) &&& 255) ||| (σ.1 36 1 &&& 1))) 36 1 ((σ.1 36 1 &&& 196) ||| (crot (((σ.1 36 0 <<< ((1 : Int32) &&& 31)) &&& 255) ||| (σ.1 36 1 &&& 1)) (σ.1 36 0 >>> ((7 : Int32) &&& 31)) &&& 41))) := by
    unfold fX5_changeA
    refine zpc_ck (zpc_bv (fun u eu => zpc_ck (zpc_bv (fun u2 eu2 => zpc_if (fun q => absurd q (by decide)) (fun _ => zpc_if (fun q => absurd q (by decide)) (fun _ => zpc_if (fun q => absurd q (by decide)) (fun _ => zpc_if (fun q => absurd q (by decide)) (fun _ => zpc_ck (zpc_bi p_rotC2 (fun t x et => ?_))))))))))
    cases et
    refine zpc_ck (zpc_bv (fun s1 f1 => zpc_ck (zpc_ck (zpc_bv (fun s2 f2 => zpc_some ?_)))))
    subst eu
    rw [f2, f1]
    rfl
  have cM : zpc (fX12_singles μ 2 7) (fun r => r = (zsi (zsi (zsi μ 3 1 (pt (σ.1 36 1) 0 (if σ.1 36 0 >>> ((7 : Int32) &&& 31) = 1 then 1 else 0))) 3 0 (((σ.1 36 0 <<< ((1 : Int32) &&& 31)) &&& 255) ||| (σ.1 36 1 &&& 1))) 3 1 (pt (pt (gxy (pt (σ.1 36 1) 0 (if σ.1 36 0 >>> ((7 : Int32) &&& 31) = 1 then 1 else 0)) (((σ.1 36 0 <<< ((1 : Int32) &&& 31)) &&& 255) ||| (σ.1 36 1 &&& 1))) 4 0) 1 0), 4)) := by
    unfold fX12_singles fX12_singles_316
    refine zpc_if (fun q => absurd q (by decide)) (fun _ => zpc_if (fun _ => zpc_if (fun q => absurd q (by decide)) (fun _ => zpc_ck (zpc_bi p_rotM2 (fun t x et => ?_)))) (fun q => absurd (by decide) q))
    cases et
    rw [show zgi μ 3 (0 : Int32).toNatClampNeg = σ.1 36 0 from ea, ef, z_c0 hf]
    refine zpc_ck (zpc_bv (fun s1 f1 => zpc_ck (zpc_bu p_xy' (fun s2 f2 => ?_))))
    subst f2
    refine zpc_bu p_put (fun s3 f3 => ?_)
    subst f3
    refine zpc_bu p_put (fun s4 f4 => zpc_some ?_)
    rw [f4, f1]
    rfl
  refine zp2_bul cC (fun s es => ?_)
  intro r r' er er'
  cases er
  rw [cM r' er']
  refine zEnq_af hI h hW (by rw [es]; exact zQ.wi (zQ.wi (zQ.wi zQ.rf rfl) rfl) rfl) (zQ.wi (zQ.wi (zQ.wi zQ.rf rfl) rfl) rfl) (by rw [es]; rfl) (by rw [es]; rfl) rfl rfl rfl (v_ac hf hwo.1 hwo.2) hwo.1 ?_
  rw [← v_ac hf hwo.1 hwo.2, fl_of hf, pt_0, fl_xy, pt_4, pt_1]
  exact zfl_r _ _ _ _ _ _ _ _
theorem t_acc3 (hI : zIoK I) (h : zTT I σ μ) (hF : zF σ μ) (hW : zWzz σ μ) : zp2 (zbu (fX5_changeA σ 3) (fun s => some (s, (4 : Int32)))) (fX12_singles μ 3 7) (zEnq I) := by
  have ea : μ.1 3 0 = σ.1 36 0 := h.eq (by decide)
  have ef : μ.1 3 1 = σ.1 36 1 := hF
  have ha : zr 0 255 (σ.1 36 0) := h.b (by decide)
  have hf : zr 0 255 (σ.1 36 1) := h.b (by decide)
  have hwo : zr 0 255 ((σ.1 36 0 >>> ((1 : Int32) &&& 31)) ||| ((σ.1 36 1 &&& 1) <<< ((7 : Int32) &&& 31))) ∧ zr 0 1 (σ.1 36 0 &&& 1) := by
    obtain ⟨i, ei⟩ := z_byteF ha
    obtain ⟨k, ek⟩ := z_bit1 (z_r1 (σ.1 36 1))
    rw [ek, ei]
    exact ⟨(v_rotf3 i k).1, (v_rotf3 i k).2⟩
  have cC : zpc (fX5_changeA σ 3) (fun r => r = zsi (zsi (zsi σ 36 1 (crot ((σ.1 36 0 >>> ((1 : Int32) &&& 31)) ||| ((σ.1 36 1 &&& 1) <<< ((7 : Int32) &&& 31))) (σ.1 36 0 &&& 1))) 36 0 ((σ.1 36 0 >>> ((1 : Int32) &&& 31)) ||| ((σ.1 36 1 &&& 1) <<< ((7 : Int32) &&& 31)))) 36 1 ((σ.1 36 1 &&& 196) ||| (crot ((σ.1 36 0 >>> ((1 : Int32) &&& 31)) ||| ((σ.1 36 1 &&& 1) <<< ((7 : Int32) &&& 31))) (σ.1 36 0 &&& 1) &&& 41))) := by
    unfold fX5_changeA
    refine zpc_ck (zpc_bv (fun u eu => zpc_ck (zpc_bv (fun u2 eu2 => zpc_if (fun q => absurd q (by decide)) (fun _ => zpc_if (fun q => absurd q (by decide)) (fun _ => zpc_if (fun q => absurd q (by decide)) (fun _ => zpc_if (fun q => absurd q (by decide)) (fun _ => zpc_ck (zpc_bi p_rotC3 (fun t x et => ?_))))))))))
    cases et
    refine zpc_ck (zpc_bv (fun s1 f1 => zpc_ck (zpc_ck (zpc_bv (fun s2 f2 => zpc_some ?_)))))
    subst eu
    rw [f2, f1]
    rfl
  have cM : zpc (fX12_singles μ 3 7) (fun r => r = (zsi (zsi (zsi μ 3 1 (pt (σ.1 36 1) 0 (if σ.1 36 0 &&& 1 = 1 then 1 else 0))) 3 0 ((σ.1 36 0 >>> ((1 : Int32) &&& 31)) ||| ((σ.1 36 1 &&& 1) <<< ((7 : Int32) &&& 31)))) 3 1 (pt (pt (gxy (pt (σ.1 36 1) 0 (if σ.1 36 0 &&& 1 = 1 then 1 else 0)) ((σ.1 36 0 >>> ((1 : Int32) &&& 31)) ||| ((σ.1 36 1 &&& 1) <<< ((7 : Int32) &&& 31)))) 4 0) 1 0), 4)) := by
    unfold fX12_singles fX12_singles_316
    refine zpc_if (fun q => absurd q (by decide)) (fun _ => zpc_if (fun _ => zpc_if (fun q => absurd q (by decide)) (fun _ => zpc_ck (zpc_bi p_rotM3 (fun t x et => ?_)))) (fun q => absurd (by decide) q))
    cases et
    rw [show zgi μ 3 (0 : Int32).toNatClampNeg = σ.1 36 0 from ea, ef, z_c0 hf]
    refine zpc_ck (zpc_bv (fun s1 f1 => zpc_ck (zpc_bu p_xy' (fun s2 f2 => ?_))))
    subst f2
    refine zpc_bu p_put (fun s3 f3 => ?_)
    subst f3
    refine zpc_bu p_put (fun s4 f4 => zpc_some ?_)
    rw [f4, f1]
    rfl
  refine zp2_bul cC (fun s es => ?_)
  intro r r' er er'
  cases er
  rw [cM r' er']
  refine zEnq_af hI h hW (by rw [es]; exact zQ.wi (zQ.wi (zQ.wi zQ.rf rfl) rfl) rfl) (zQ.wi (zQ.wi (zQ.wi zQ.rf rfl) rfl) rfl) (by rw [es]; rfl) (by rw [es]; rfl) rfl rfl rfl (v_ac hf hwo.1 hwo.2) hwo.1 ?_
  rw [← v_ac hf hwo.1 hwo.2, fl_of hf, pt_0, fl_xy, pt_4, pt_1]
  exact zfl_r _ _ _ _ _ _ _ _
theorem v_cplB : ∀ b7 b6 b5 b3 b2 b0 : Bool, zfl b7 b6 b5 true b3 b2 true b0 = (((((((bif b7 then 128 else 0) ||| (bif b6 then 64 else 0)) ||| (bif b2 then 4 else 0)) ||| (bif b0 then 1 else 0)) ||| 16) ||| 2) ||| ((bif b5 then 32 else 0) ||| (bif b3 then 8 else 0)) : Int32) := by decide
theorem v_scfB : ∀ b7 b6 b5 b3 b2 : Bool, zfl b7 b6 b5 false b3 b2 false true = (((((bif b7 then 128 else 0) ||| (bif b6 then 64 else 0)) ||| (bif b2 then 4 else 0)) ||| 1) ||| ((bif b5 then 32 else 0) ||| (bif b3 then 8 else 0)) : Int32) := by decide
theorem v_ccfB : ∀ b7 b6 b5 b3 b2 : Bool, zfl b7 b6 b5 true b3 b2 false false = (((((bif b7 then 128 else 0) ||| (bif b6 then 64 else 0)) ||| (bif b2 then 4 else 0)) ||| 16) ||| ((bif b5 then 32 else 0) ||| (bif b3 then 8 else 0)) : Int32) := by decide
theorem v_f1 : ∀ i : Fin 256, Int32.ofNat i.val &&& 1 = bif decide (¬ Int32.ofNat i.val &&& 1 = 0) then 1 else 0 := by decide +kernel
theorem z_40 {b : Int32} (h : zr 0 255 b) : b &&& 40 = (bif d5 b then 32 else 0) ||| (bif d3 b then 8 else 0) := by
  obtain ⟨i, e⟩ := z_byteF h
  rw [e]
  exact v_40 i
theorem z_196 {f : Int32} (h : zr 0 255 f) : f &&& 196 = ((bif decide (¬ f &&& 128 = 0) then 128 else 0) ||| (bif decide (¬ f &&& 64 = 0) then 64 else 0)) ||| (bif decide (¬ f &&& 4 = 0) then 4 else 0) := by
  obtain ⟨i, e⟩ := z_byteF h
  rw [e]
  exact v_196 i
theorem z_f1 {f : Int32} (h : zr 0 255 f) : f &&& 1 = bif decide (¬ f &&& 1 = 0) then 1 else 0 := by
  obtain ⟨i, e⟩ := z_byteF h
  rw [e]
  exact v_f1 i
theorem t_acc5 (hI : zIoK I) (h : zTT I σ μ) (hF : zF σ μ) (hW : zWzz σ μ) : zp2 (zbu (fX5_changeA σ 5) (fun s => some (s, (4 : Int32)))) (fX12_singles μ 5 7) (zEnq I) := by
  have ea : μ.1 3 0 = σ.1 36 0 := h.eq (by decide)
  have ef : μ.1 3 1 = σ.1 36 1 := hF
  have ha : zr 0 255 (σ.1 36 0) := h.b (by decide)
  have hf : zr 0 255 (σ.1 36 1) := h.b (by decide)
  have hw : zr 0 255 (σ.1 36 0 ^^^ 255) := z_xb ha (zr_c (by decide))
  have cC : zpc (fX5_changeA σ 5) (fun r => r = zsi (zsi σ 36 0 (σ.1 36 0 ^^^ 255)) 36 1 (((((σ.1 36 1 &&& 196) ||| (σ.1 36 1 &&& 1)) ||| 16) ||| 2) ||| ((σ.1 36 0 ^^^ 255) &&& 40))) := by
    unfold fX5_changeA
    refine zpc_ck (zpc_bv (fun u eu => zpc_ck (zpc_bv (fun u2 eu2 => zpc_if (fun q => absurd q (by decide)) (fun _ => zpc_if (fun _ => zpc_ck (zpc_ck (zpc_bv (fun s1 f1 => zpc_ck (zpc_ck (zpc_bv (fun s2 f2 => zpc_some ?_))))))) (fun q => absurd rfl q))))))
    subst eu
    subst eu2
    rw [f2, f1]
    rfl
  have cM : zpc (fX12_singles μ 5 7) (fun r => r = (zsi (zsi μ 3 0 (σ.1 36 0 ^^^ 255)) 3 1 (gxy (pt (pt (σ.1 36 1) 4 1) 1 1) (σ.1 36 0 ^^^ 255)), 4)) := by
    unfold fX12_singles fX12_singles_316
    refine zpc_if (fun q => absurd q (by decide)) (fun _ => zpc_if (fun _ => zpc_if (fun _ => zpc_if (fun q => absurd q (by decide)) (fun _ => zpc_if (fun _ => zpc_ck (zpc_ck (zpc_bv (fun s1 f1 => zpc_bu p_put' (fun s2 f2 => ?_))))) (fun q => absurd rfl q))) (fun q => absurd (by decide) q)) (fun q => absurd (by decide) q))
    subst f2
    refine zpc_bu p_put (fun s3 f3 => ?_)
    subst f3
    refine zpc_ck (zpc_bu p_xy (fun s4 f4 => zpc_some ?_))
    rw [f4, f1]
    show (zsi (zsi μ 3 0 (μ.1 3 0 ^^^ 255)) 3 1 (gxy (pt (pt (μ.1 3 1) 4 1) 1 1) (μ.1 3 0 ^^^ 255)), (4 : Int32)) = _
    rw [ea, ef]
  have e : gxy (pt (pt (σ.1 36 1) 4 1) 1 1) (σ.1 36 0 ^^^ 255) = ((((σ.1 36 1 &&& 196) ||| (σ.1 36 1 &&& 1)) ||| 16) ||| 2) ||| ((σ.1 36 0 ^^^ 255) &&& 40) := by
    rw [z_196 hf, z_f1 hf, z_40 hw, ← v_cplB]
    conv => lhs; rw [fl_of hf, pt_4, pt_1, fl_xy]
    rfl
  refine zp2_bul cC (fun s es => ?_)
  intro r r' er er'
  cases er
  rw [cM r' er']
  refine zEnq_af hI h hW (by rw [es]; exact zQ.wi (zQ.wi zQ.rf rfl) rfl) (zQ.wi (zQ.wi zQ.rf rfl) rfl) (by rw [es]; rfl) (by rw [es]; rfl) rfl rfl rfl e hw ?_
  rw [← e, fl_of hf, pt_4, pt_1, fl_xy]
  exact zfl_r _ _ _ _ _ _ _ _
theorem p_scfM {y : Int32} {g : Int32} (hy : y = 6 ∨ (¬ y = 6 ∧ (σ.1 36 1 &&& 1 = 0 ∨ ¬ σ.1 36 1 &&& 1 = 0))) (hf : zr 0 255 (σ.1 36 1)) (ef : μ.1 3 1 = σ.1 36 1) : zpc (fX12_singles_273 μ y g 4) (fun r => r = (zsi μ 3 1 (gxy (pt (pt (pt (σ.1 36 1) 4 g) 0 (if y = 6 then 1 else if σ.1 36 1 &&& 1 = 0 then 1 else 0)) 1 0) (μ.1 3 0)), 4)) := by
  have f297 : ∀ w, zpc (fX12_singles_297 (zsi μ 3 1 (pt (σ.1 36 1) 4 g)) w 0) (fun r => r = (zsi μ 3 1 (gxy (pt (pt (pt (σ.1 36 1) 4 g) 0 w) 1 0) (μ.1 3 0)), 4)) := fun w => by
    unfold fX12_singles_297 fX12_singles_316
    refine zpc_bu p_put (fun s f => ?_)
    subst f
    refine zpc_bu p_put (fun s f => ?_)
    subst f
    refine zpc_ck (zpc_bu p_xy (fun s f => zpc_some ?_))
    rw [f]
    rfl
  unfold fX12_singles_273
  refine zpc_bu p_put' (fun s f => ?_)
  rw [ef] at f
  subst f
  unfold fX12_singles_292
  refine zpc_if (fun q => ?_) (fun q => zpc_bi p_flag (fun t u et => ?_))
  · rw [if_pos q]; exact f297 1
  · cases et
    rw [if_neg q]
    have e : ((zsi μ 3 1 (pt (σ.1 36 1) 4 g)).1 3 1 >>> ((0 : Int32) &&& 31)) &&& 1 = σ.1 36 1 &&& 1 := by
      show (pt (σ.1 36 1) 4 g >>> ((0 : Int32) &&& 31)) &&& 1 = _
      obtain ⟨i, ei⟩ := z_byteF hf
      rw [ei]
      unfold pt
      by_cases q : g = 0
      · rw [if_pos q]
        exact v_p4a i
      · rw [if_neg q]
        exact v_p4b i
    rw [e]
    refine zpc_if (fun q2 => ?_) (fun q2 => ?_)
    · rw [if_pos q2]; exact f297 1
    · rw [if_neg q2]; exact f297 0
theorem t_acc6 (hI : zIoK I) (h : zTT I σ μ) (hF : zF σ μ) (hW : zWzz σ μ) : zp2 (zbu (fX5_changeA σ 6) (fun s => some (s, (4 : Int32)))) (fX12_singles μ 6 7) (zEnq I) := by
  have ea : μ.1 3 0 = σ.1 36 0 := h.eq (by decide)
  have ef : μ.1 3 1 = σ.1 36 1 := hF
  have ha : zr 0 255 (σ.1 36 0) := h.b (by decide)
  have hf : zr 0 255 (σ.1 36 1) := h.b (by decide)
  have cC : zpc (fX5_changeA σ 6) (fun r => r = zsi σ 36 1 (((σ.1 36 1 &&& 196) ||| 1) ||| (σ.1 36 0 &&& 40))) := by
    unfold fX5_changeA
    refine zpc_ck (zpc_bv (fun u eu => zpc_ck (zpc_bv (fun u2 eu2 => zpc_if (fun q => absurd q (by decide)) (fun _ => zpc_if (fun q => absurd q (by decide)) (fun _ => zpc_if (fun _ => zpc_ck (zpc_ck (zpc_bv (fun s1 f1 => zpc_some ?_)))) (fun q => absurd rfl q)))))))
    subst eu
    rw [f1]
    rfl
  have cM : zpc (fX12_singles μ 6 7) (fun r => r = (zsi μ 3 1 (gxy (pt (pt (pt (σ.1 36 1) 4 0) 0 1) 1 0) (σ.1 36 0)), 4)) := by
    unfold fX12_singles fX12_singles_272
    refine zpc_if (fun q => absurd q (by decide)) (fun _ => zpc_if (fun _ => zpc_if (fun _ => zpc_if (fun q => absurd q (by decide)) (fun _ => zpc_if (fun q => absurd q (by decide)) (fun _ => zpc_if (fun q => absurd q (by decide)) (fun _ => ?_)))) (fun q => absurd (by decide) q)) (fun q => absurd (by decide) q))
    have m := p_scfM (σ := σ) (μ := μ) (y := 6) (g := 0) (Or.inl rfl) hf ef
    rw [ea] at m
    exact m
  have e : gxy (pt (pt (pt (σ.1 36 1) 4 0) 0 1) 1 0) (σ.1 36 0) = ((σ.1 36 1 &&& 196) ||| 1) ||| (σ.1 36 0 &&& 40) := by
    rw [z_196 hf, z_40 ha, ← v_scfB]
    conv => lhs; rw [fl_of hf, pt_4, pt_0, pt_1, fl_xy]
    rfl
  refine zp2_bul cC (fun s es => ?_)
  intro r r' er er'
  cases er
  rw [cM r' er']
  refine zEnq_af hI h hW (by rw [es]; exact zQ.wi zQ.rf rfl) (zQ.wi zQ.rf rfl) (by rw [es]; rfl) (by rw [es]; rfl) (show (zsi μ 3 1 _).1 3 0 = σ.1 36 0 from ea) rfl rfl e ha ?_
  rw [← e, fl_of hf, pt_4, pt_0, pt_1, fl_xy]
  exact zfl_r _ _ _ _ _ _ _ _
theorem t_acc7 (hI : zIoK I) (h : zTT I σ μ) (hF : zF σ μ) (hW : zWzz σ μ) : zp2 (zbu (fX5_changeA σ 7) (fun s => some (s, (4 : Int32)))) (fX12_singles μ 7 7) (zEnq I) := by
  have ea : μ.1 3 0 = σ.1 36 0 := h.eq (by decide)
  have ef : μ.1 3 1 = σ.1 36 1 := hF
  have ha : zr 0 255 (σ.1 36 0) := h.b (by decide)
  have hf : zr 0 255 (σ.1 36 1) := h.b (by decide)
  have cC : zpc (fX5_changeA σ 7) (fun r => r = zsi σ 36 1 (((σ.1 36 1 &&& 196) ||| (if σ.1 36 1 &&& 1 = 0 then 1 else 16)) ||| (σ.1 36 0 &&& 40))) := by
    unfold fX5_changeA fX5_changeA_130
    refine zpc_ck (zpc_bv (fun u eu => zpc_ck (zpc_bv (fun u2 eu2 => zpc_if (fun q => absurd q (by decide)) (fun _ => zpc_if (fun q => absurd q (by decide)) (fun _ => zpc_if (fun q => absurd q (by decide)) (fun _ => zpc_if (fun _ => ?_) (fun q => absurd rfl q))))))))
    subst eu
    subst eu2
    refine zpc_if (fun q => zpc_ck (zpc_ck (zpc_bv (fun s1 f1 => zpc_some ?_)))) (fun q => zpc_ck (zpc_ck (zpc_bv (fun s1 f1 => zpc_some ?_))))
    · rw [f1, if_pos (show σ.1 36 1 &&& 1 = 0 from q)]; rfl
    · rw [f1, if_neg (show ¬ σ.1 36 1 &&& 1 = 0 from q)]; rfl
  have cM : zpc (fX12_singles μ 7 7) (fun r => r = (zsi μ 3 1 (gxy (pt (pt (pt (σ.1 36 1) 4 (if σ.1 36 1 &&& 1 = 0 then 0 else 1)) 0 (if σ.1 36 1 &&& 1 = 0 then 1 else 0)) 1 0) (σ.1 36 0)), 4)) := by
    unfold fX12_singles fX12_singles_272
    refine zpc_if (fun q => absurd q (by decide)) (fun _ => zpc_if (fun _ => zpc_if (fun _ => zpc_if (fun q => absurd q (by decide)) (fun _ => zpc_if (fun q => absurd q (by decide)) (fun _ => zpc_if (fun _ => zpc_bi p_flag (fun t u et => ?_)) (fun q => absurd rfl q)))) (fun q => absurd (by decide) q)) (fun q => absurd (by decide) q))
    cases et
    rw [ef, z_bt0 hf]
    by_cases q : σ.1 36 1 &&& 1 = 0
    · rw [if_pos q]
      refine zpc_if (fun q => absurd q (by decide)) (fun _ => ?_)
      have m := p_scfM (σ := σ) (μ := μ) (y := 7) (g := 0) (Or.inr ⟨by decide, Or.inl q⟩) hf ef
      rw [ea, if_neg (show ¬ (7 : Int32) = 6 by decide), if_pos q] at m
      rw [if_pos q]
      exact m
    · rw [if_neg q]
      refine zpc_if (fun _ => ?_) (fun q => absurd rfl q)
      have m := p_scfM (σ := σ) (μ := μ) (y := 7) (g := 1) (Or.inr ⟨by decide, Or.inr q⟩) hf ef
      rw [ea, if_neg (show ¬ (7 : Int32) = 6 by decide), if_neg q] at m
      rw [if_neg q]
      exact m
  have e : gxy (pt (pt (pt (σ.1 36 1) 4 (if σ.1 36 1 &&& 1 = 0 then 0 else 1)) 0 (if σ.1 36 1 &&& 1 = 0 then 1 else 0)) 1 0) (σ.1 36 0) = ((σ.1 36 1 &&& 196) ||| (if σ.1 36 1 &&& 1 = 0 then 1 else 16)) ||| (σ.1 36 0 &&& 40) := by
    by_cases q : σ.1 36 1 &&& 1 = 0
    · rw [if_pos q, if_pos q, if_pos q, z_196 hf, z_40 ha, ← v_scfB]
      conv => lhs; rw [fl_of hf, pt_4, pt_0, pt_1, fl_xy]
      rfl
    · rw [if_neg q, if_neg q, if_neg q, z_196 hf, z_40 ha, ← v_ccfB]
      conv => lhs; rw [fl_of hf, pt_4, pt_0, pt_1, fl_xy]
      rfl
  refine zp2_bul cC (fun s es => ?_)
  intro r r' er er'
  cases er
  rw [cM r' er']
  refine zEnq_af hI h hW (by rw [es]; exact zQ.wi zQ.rf rfl) (zQ.wi zQ.rf rfl) (by rw [es]; rfl) (by rw [es]; rfl) (show (zsi μ 3 1 _).1 3 0 = σ.1 36 0 from ea) rfl rfl e ha ?_
  rw [← e, fl_of hf, pt_4, pt_0, pt_1, fl_xy]
  exact zfl_r _ _ _ _ _ _ _ _
end ZAA
end ZJN2
section ZJN3
/-! DAA -/
theorem z_jx {α : Type} {c : Prop} {d : Decidable c} {K : Int32 → Option α} {X Y : Option α} {a b : Int32} (ex : X = K a) (ey : Y = K b) : @ite _ c d X Y = K (@ite _ c d a b) := by
  by_cases q : c
  · rw [if_pos q, if_pos q]; exact ex
  · rw [if_neg q, if_neg q]; exact ey
theorem zpc_jx {α : Type} {c : Prop} {d : Decidable c} {K : Int32 → Option α} {X Y : Option α} {a b : Int32} {Q : α → Prop} (ex : X = K a) (ey : Y = K b) (h : ∀ v, v = @ite _ c d a b → zpc (K v) Q) : zpc (@ite _ c d X Y) Q := by
  rw [z_jx (K := K) ex ey]
  exact h _ rfl
theorem fl_a16 : ∀ b7 b6 b5 b4 b3 b2 b1 b0 : Bool, zfl b7 b6 b5 b4 b3 b2 b1 b0 &&& 16 = bif b4 then 16 else 0 := by decide
theorem fl_a2 : ∀ b7 b6 b5 b4 b3 b2 b1 b0 : Bool, zfl b7 b6 b5 b4 b3 b2 b1 b0 &&& 2 = bif b1 then 2 else 0 := by decide
theorem fl_a1 : ∀ b7 b6 b5 b4 b3 b2 b1 b0 : Bool, zfl b7 b6 b5 b4 b3 b2 b1 b0 &&& 1 = bif b0 then 1 else 0 := by decide
theorem fl_g0 : ∀ b7 b6 b5 b4 b3 b2 b1 b0 : Bool, (zfl b7 b6 b5 b4 b3 b2 b1 b0 >>> ((0 : Int32) &&& 31)) &&& 1 = bif b0 then 1 else 0 := by decide
theorem fl_g1 : ∀ b7 b6 b5 b4 b3 b2 b1 b0 : Bool, (zfl b7 b6 b5 b4 b3 b2 b1 b0 >>> ((1 : Int32) &&& 31)) &&& 1 = bif b1 then 1 else 0 := by decide
theorem fl_g2 : ∀ b7 b6 b5 b4 b3 b2 b1 b0 : Bool, (zfl b7 b6 b5 b4 b3 b2 b1 b0 >>> ((2 : Int32) &&& 31)) &&& 1 = bif b2 then 1 else 0 := by decide
theorem fl_g3 : ∀ b7 b6 b5 b4 b3 b2 b1 b0 : Bool, (zfl b7 b6 b5 b4 b3 b2 b1 b0 >>> ((3 : Int32) &&& 31)) &&& 1 = bif b3 then 1 else 0 := by decide
theorem fl_g4 : ∀ b7 b6 b5 b4 b3 b2 b1 b0 : Bool, (zfl b7 b6 b5 b4 b3 b2 b1 b0 >>> ((4 : Int32) &&& 31)) &&& 1 = bif b4 then 1 else 0 := by decide
theorem fl_g5 : ∀ b7 b6 b5 b4 b3 b2 b1 b0 : Bool, (zfl b7 b6 b5 b4 b3 b2 b1 b0 >>> ((5 : Int32) &&& 31)) &&& 1 = bif b5 then 1 else 0 := by decide
theorem fl_g6 : ∀ b7 b6 b5 b4 b3 b2 b1 b0 : Bool, (zfl b7 b6 b5 b4 b3 b2 b1 b0 >>> ((6 : Int32) &&& 31)) &&& 1 = bif b6 then 1 else 0 := by decide
theorem fl_g7 : ∀ b7 b6 b5 b4 b3 b2 b1 b0 : Bool, (zfl b7 b6 b5 b4 b3 b2 b1 b0 >>> ((7 : Int32) &&& 31)) &&& 1 = bif b7 then 1 else 0 := by decide
def dH (h : Bool) : Int32 := if (bif h then (16 : Int32) else 0) = 0 then 0 else 1
def dN (n : Bool) : Int32 := if (bif n then (2 : Int32) else 0) = 0 then 0 else 1
def dC (a : Int32) (c : Bool) : Int32 := if a ≤ 153 then (bif c then 1 else 0) else 1
def dL (l : Int32) (h : Bool) : Int32 := if 9 < l then 6 else if dH h = 0 then 0 else 6
def dG (l : Int32) (h n : Bool) : Int32 := if dN n = 0 then (if l ≤ 9 then 0 else 1) else if dH h = 0 then 0 else if 6 ≤ l then 0 else 1
def dD (l : Int32) (h : Bool) (c : Int32) : Int32 := dL l h + (if c = 0 then 0 else 96)
def dW (a l : Int32) (h n : Bool) (c : Int32) : Int32 := (if dN n = 0 then a + dD l h c else a - dD l h c) &&& 255
def dF (w g c : Int32) (n : Bool) : Int32 := (((cby w ||| cpar w) ||| (if g = 0 then 0 else 16)) ||| (bif n then 2 else 0)) ||| c
section ZDA
variable {σ μ : zSt} {b7 b6 b5 b4 b3 b2 b1 b0 : Bool} {a d : Int32}
theorem p_daC (hf : σ.1 36 1 = zfl b7 b6 b5 b4 b3 b2 b1 b0) (ha : σ.1 36 0 = a) : zpc (fX5_adjustA σ ) (fun r => r = zsi (zsi σ 36 0 (dW a (a &&& 15) b4 b1 (dC a b0))) 36 1 (dF (dW a (a &&& 15) b4 b1 (dC a b0)) (dG (a &&& 15) b4 b1) (dC a b0) b1)) := by
  have g1 : zgi σ 36 (1 : Int32).toNatClampNeg = zfl b7 b6 b5 b4 b3 b2 b1 b0 := hf
  have g0 : zgi σ 36 (0 : Int32).toNatClampNeg = a := ha
  unfold fX5_adjustA
  refine zpc_ck (zpc_bv (fun l el => zpc_ck ?_))
  have el : l = a &&& 15 := by rw [el, g0]
  rw [← el, g1, fl_a16]
  refine zpc_jx (K := fun v => fX5_adjustA_27 σ l v) (a := 0) (b := 1) rfl rfl (fun h eh => ?_)
  have eh : h = dH b4 := eh
  unfold fX5_adjustA_27
  refine zpc_ck ?_
  rw [g1, fl_a2]
  refine zpc_jx (K := fun v => fX5_adjustA_44 σ l h v) (a := 0) (b := 1) rfl rfl (fun n en => ?_)
  have en : n = dN b1 := en
  have nx : ∀ c, zpc (fX5_adjustA_69 σ l h n c) (fun r => r = zsi (zsi σ 36 0 (dW a l b4 b1 c)) 36 1 (dF (dW a l b4 b1 c) (dG l b4 b1) c b1)) := fun c => by
    unfold fX5_adjustA_69
    refine zpc_jx (K := fun v => fX5_adjustA_87 σ l h n c v) (a := 6) rfl (z_jx (a := 0) (b := 6) rfl rfl) (fun m em => ?_)
    unfold fX5_adjustA_87
    refine zpc_jx (K := fun v => fX5_adjustA_98 σ l h n c v m) (a := 0) (b := 96) rfl rfl (fun t et => ?_)
    unfold fX5_adjustA_98
    refine zpc_bv (fun d ed => ?_)
    have ed : d = dD l b4 c := by rw [ed, em, et, eh]; rfl
    refine zpc_jx (K := fun v => fX5_adjustA_134 σ n c d v) (z_jx (a := 0) (b := 1) rfl rfl) (z_jx (a := 0) rfl (z_jx (a := 0) (b := 1) rfl rfl)) (fun g eg => ?_)
    have eg : g = dG l b4 b1 := by rw [eg, en, eh]; rfl
    have n2 : ∀ x, zpc (fX5_adjustA_161 σ c g x) (fun r => r = zsi (zsi σ 36 0 (x &&& 255)) 36 1 (dF (x &&& 255) g c b1)) := fun x => by
      unfold fX5_adjustA_161
      refine zpc_bv (fun w ew => zpc_ck (zpc_bv (fun s es => zpc_bi p_byC (fun s1 v1 e1 => ?_))))
      cases e1
      refine zpc_bi p_parC (fun s1 v1 e1 => ?_)
      cases e1
      refine zpc_jx (K := fun v => fX5_adjustA_202 s c v (cby w ||| cpar w) 1) (a := 0) (b := 16) rfl rfl (fun u eu => ?_)
      unfold fX5_adjustA_202
      refine zpc_ck (zpc_ck (zpc_bv (fun s2 e2 => zpc_some ?_)))
      have gs : zgi s 36 (1 : Int32).toNatClampNeg = zfl b7 b6 b5 b4 b3 b2 b1 b0 := by rw [es]; exact hf
      rw [e2, gs, fl_a2, es, eu, ew]
      rfl
    unfold fX5_adjustA_134
    rw [g0]
    unfold dW
    refine zpc_if (fun q => zpc_ck ?_) (fun q => zpc_ck ?_)
    · rw [if_pos (en ▸ q), ← ed, ← eg]; exact n2 _
    · rw [if_neg (en ▸ q), ← ed, ← eg]; exact n2 _
  unfold fX5_adjustA_44
  rw [g0, g1, fl_a1]
  unfold dC
  refine zpc_ck (zpc_if (fun q => zpc_ck ?_) (fun q => ?_))
  · rw [if_pos q]; exact nx _
  · rw [if_neg q]; exact nx _
/-! the reference -/
def eG (l : Int32) (h n : Bool) : Int32 := bif n then (bif h then (if 6 ≤ l then 0 else 1) else 0) else (if l ≤ 9 then 0 else 1)
def eW (a d : Int32) (n : Bool) : Int32 := (bif n then a - d else a + d) &&& 255
theorem p_da130 {x : Int32} : zpc (fX12_adjusts_130 (zsi μ 3 1 (zfl b7 b6 b5 b4 b3 b2 b1 b0)) x 0) (fun r => r = zsi (zsi μ 3 0 (x &&& 255)) 3 1 (zfl (d7 (x &&& 255)) (d6 (x &&& 255)) (d5 (x &&& 255)) b4 (d3 (x &&& 255)) (bc (gev (x &&& 255))) b1 b0)) := by
  unfold fX12_adjusts_130
  refine zpc_ck (zpc_bv (fun s es => zpc_ck ?_))
  have g0 : zgi s 3 (0 : Int32).toNatClampNeg = x &&& 255 := by rw [es]; rfl
  have g1 : s.1 3 1 = zfl b7 b6 b5 b4 b3 b2 b1 b0 := by rw [es]; rfl
  rw [g0]
  refine zpc_bu p_by' (fun s1 e1 => zpc_ck ?_)
  rw [g1, fl_by] at e1
  subst e1
  rw [show zgi (zsi s 3 1 (zfl (d7 (x &&& 255)) (d6 (x &&& 255)) (d5 (x &&& 255)) b4 (d3 (x &&& 255)) b2 b1 b0)) 3 (0 : Int32).toNatClampNeg = x &&& 255 from g0]
  refine zpc_bi p_even (fun s2 v2 e2 => ?_)
  cases e2
  refine zpc_bu p_put (fun s3 e3 => zpc_some ?_)
  rw [pt_2] at e3
  rw [e3, es, show zsi (zsi (zsi μ 3 1 (zfl b7 b6 b5 b4 b3 b2 b1 b0)) 3 (0 : Int32).toNatClampNeg (x &&& 255)) 3 1 = zsi (zsi (zsi μ 3 0 (x &&& 255)) 3 1 (zfl b7 b6 b5 b4 b3 b2 b1 b0)) 3 1 from by rw [show (0 : Int32).toNatClampNeg = 0 from rfl, zsi_comm (by decide)], zsi_ow]
  rfl
theorem p_da55 : zpc (fX12_adjusts_55 (zsi μ 3 1 (zfl b7 b6 b5 b4 b3 b2 b1 b0)) a d) (fun r => r = zsi (zsi μ 3 0 (eW a d b1)) 3 1 (zfl (d7 (eW a d b1)) (d6 (eW a d b1)) (d5 (eW a d b1)) (bc (eG (a &&& 15) b4 b1)) (d3 (eW a d b1)) (bc (gev (eW a d b1))) b1 b0)) := by
  have nx : ∀ g, zpc (fX12_adjusts_105 (zsi μ 3 1 (zfl b7 b6 b5 b4 b3 b2 b1 b0)) a d g 4) (fun r => r = zsi (zsi μ 3 0 (eW a d b1)) 3 1 (zfl (d7 (eW a d b1)) (d6 (eW a d b1)) (d5 (eW a d b1)) (bc g) (d3 (eW a d b1)) (bc (gev (eW a d b1))) b1 b0)) := fun g => by
    unfold fX12_adjusts_105
    refine zpc_bu p_put (fun s es => ?_)
    rw [pt_4] at es
    subst es
    refine zpc_bi p_flag (fun s1 v1 e1 => ?_)
    cases e1
    rw [show (zsi μ 3 1 (zfl b7 b6 b5 (decide (¬ g = 0)) b3 b2 b1 b0)).1 3 1 = zfl b7 b6 b5 (decide (¬ g = 0)) b3 b2 b1 b0 from rfl, fl_g1]
    cases b1
    · exact zpc_if (fun _ => p_da130) (fun q => absurd rfl q)
    · exact zpc_if (fun q => absurd q (by decide)) (fun _ => p_da130)
  unfold fX12_adjusts_55 fX12_adjusts_104
  refine zpc_bi p_flag (fun s1 v1 e1 => ?_)
  cases e1
  rw [show (zsi μ 3 1 (zfl b7 b6 b5 b4 b3 b2 b1 b0)).1 3 1 = zfl b7 b6 b5 b4 b3 b2 b1 b0 from rfl, fl_g1]
  cases b1
  · refine zpc_if (fun _ => ?_) (fun q => absurd rfl q)
    refine zpc_jx (K := fun g => fX12_adjusts_105 (zsi μ 3 1 (zfl b7 b6 b5 b4 b3 b2 false b0)) a d g 4) (a := 0) (b := 1) rfl rfl (fun g eg => ?_)
    have n1 := nx g
    rw [eg] at n1 ⊢
    exact n1
  · refine zpc_if (fun q => absurd q (by decide)) (fun _ => zpc_bi p_flag (fun s1 v1 e1 => ?_))
    cases e1
    rw [show (zsi μ 3 1 (zfl b7 b6 b5 b4 b3 b2 true b0)).1 3 1 = zfl b7 b6 b5 b4 b3 b2 true b0 from rfl, fl_g4]
    cases b4
    · exact zpc_if (fun q => absurd q (by decide)) (fun _ => nx 0)
    · refine zpc_if (fun _ => ?_) (fun q => absurd rfl q)
      refine zpc_jx (K := fun g => fX12_adjusts_105 (zsi μ 3 1 (zfl b7 b6 b5 true b3 b2 true b0)) a d g 4) (a := 0) (b := 1) rfl rfl (fun g eg => ?_)
      have n1 := nx g
      rw [eg] at n1 ⊢
      exact n1
def eC (a : Int32) (c : Bool) : Bool := bif c then true else decide (153 < a)
def eD (a d : Int32) (c : Bool) : Int32 := bif eC a c then d + 96 else d
theorem p_da30 : zpc (fX12_adjusts_30 (zsi μ 3 1 (zfl b7 b6 b5 b4 b3 b2 b1 b0)) a d) (fun r => r = zsi (zsi μ 3 0 (eW a (eD a d b0) b1)) 3 1 (zfl (d7 (eW a (eD a d b0) b1)) (d6 (eW a (eD a d b0) b1)) (d5 (eW a (eD a d b0) b1)) (bc (eG (a &&& 15) b4 b1)) (d3 (eW a (eD a d b0) b1)) (bc (gev (eW a (eD a d b0) b1))) b1 (eC a b0))) := by
  have n46 : zpc (fX12_adjusts_46 (zsi μ 3 1 (zfl b7 b6 b5 b4 b3 b2 b1 b0)) a d) (fun r => r = zsi (zsi μ 3 0 (eW a (d + 96) b1)) 3 1 (zfl (d7 (eW a (d + 96) b1)) (d6 (eW a (d + 96) b1)) (d5 (eW a (d + 96) b1)) (bc (eG (a &&& 15) b4 b1)) (d3 (eW a (d + 96) b1)) (bc (gev (eW a (d + 96) b1))) b1 true)) := by
    unfold fX12_adjusts_46
    refine zpc_bv (fun v ev => zpc_bu p_put (fun s es => ?_))
    rw [pt_0] at es
    subst es
    subst ev
    exact p_da55
  unfold fX12_adjusts_30
  refine zpc_if (fun q => ?_) (fun q => zpc_bi p_flag (fun s1 v1 e1 => ?_))
  · have e : eC a b0 = true := by unfold eC; rw [decide_eq_true q]; cases b0 <;> rfl
    unfold eD
    rw [e]
    exact n46
  · cases e1
    rw [show (zsi μ 3 1 (zfl b7 b6 b5 b4 b3 b2 b1 b0)).1 3 1 = zfl b7 b6 b5 b4 b3 b2 b1 b0 from rfl, fl_g0]
    cases b0
    · have e : eC a false = false := decide_eq_false q
      unfold eD
      rw [e]
      exact zpc_if (fun q => absurd q (by decide)) (fun _ => p_da55)
    · exact zpc_if (fun _ => n46) (fun q => absurd rfl q)
def eL (l : Int32) (h : Bool) : Int32 := if 9 < l then 6 else bif h then 6 else 0
theorem p_da (hf : μ.1 3 1 = zfl b7 b6 b5 b4 b3 b2 b1 b0) (ha : μ.1 3 0 = a) : zpc (fX12_adjusts μ ) (fun r => r = zsi (zsi μ 3 0 (eW a (eD a (eL (a &&& 15) b4) b0) b1)) 3 1 (zfl (d7 (eW a (eD a (eL (a &&& 15) b4) b0) b1)) (d6 (eW a (eD a (eL (a &&& 15) b4) b0) b1)) (d5 (eW a (eD a (eL (a &&& 15) b4) b0) b1)) (bc (eG (a &&& 15) b4 b1)) (d3 (eW a (eD a (eL (a &&& 15) b4) b0) b1)) (bc (gev (eW a (eD a (eL (a &&& 15) b4) b0) b1))) b1 (eC a b0))) := by
  have e27 : ∀ v, fX12_adjusts_27 μ a v = fX12_adjusts_30 (zsi μ 3 1 (zfl b7 b6 b5 b4 b3 b2 b1 b0)) a (v + 6) := fun v => by
    rw [← hf, zsi_own]
    rfl
  have e30 : ∀ v, fX12_adjusts_30 μ a v = fX12_adjusts_30 (zsi μ 3 1 (zfl b7 b6 b5 b4 b3 b2 b1 b0)) a v := fun v => by
    rw [← hf, zsi_own]
  unfold fX12_adjusts
  refine zpc_ck (zpc_bv (fun v ev => ?_))
  have ev : v = a := ev.trans ha
  subst ev
  unfold eL
  refine zpc_if (fun q => ?_) (fun q => zpc_bi p_flag (fun s1 v1 e1 => ?_))
  · rw [if_pos q, e27]; exact p_da30
  · cases e1
    rw [hf, fl_g4, if_neg q]
    cases b4
    · refine zpc_if (fun q => absurd q (by decide)) (fun _ => ?_)
      rw [e30]; exact p_da30
    · refine zpc_if (fun _ => ?_) (fun q => absurd rfl q)
      rw [e27]; exact p_da30
end ZDA
theorem v_daf : ∀ i : Fin 256, ∀ h n c : Bool, eW (Int32.ofNat i.val) (eD (Int32.ofNat i.val) (eL (Int32.ofNat i.val &&& 15) h) c) n = dW (Int32.ofNat i.val) (Int32.ofNat i.val &&& 15) h n (dC (Int32.ofNat i.val) c) ∧ bc (eG (Int32.ofNat i.val &&& 15) h n) = bc (dG (Int32.ofNat i.val &&& 15) h n) ∧ dC (Int32.ofNat i.val) c = (bif eC (Int32.ofNat i.val) c then 1 else 0) ∧ (if dG (Int32.ofNat i.val &&& 15) h n = 0 then (0 : Int32) else 16) = bif bc (dG (Int32.ofNat i.val &&& 15) h n) then 16 else 0 := by decide +kernel
theorem v_da {a : Int32} (ha : zr 0 255 a) (h n c : Bool) : eW a (eD a (eL (a &&& 15) h) c) n = dW a (a &&& 15) h n (dC a c) ∧ bc (eG (a &&& 15) h n) = bc (dG (a &&& 15) h n) ∧ dC a c = (bif eC a c then 1 else 0) ∧ (if dG (a &&& 15) h n = 0 then (0 : Int32) else 16) = bif bc (dG (a &&& 15) h n) then 16 else 0 := by
  obtain ⟨i, e⟩ := z_byteF ha
  subst e
  exact v_daf i h n c
theorem v_daB : ∀ b7 b6 b5 h b3 b2 n c : Bool, zfl b7 b6 b5 h b3 b2 n c = ((zfl b7 b6 b5 h b3 b2 false false) ||| (bif n then 2 else 0)) ||| (bif c then 1 else 0) := by decide
section ZDB
variable {I : zSt → zSt → Prop} {σ μ : zSt}
theorem t_acc4 (hI : zIoK I) (h : zTT I σ μ) (hF : zF σ μ) (hW : zWzz σ μ) : zp2 (zbu (fX5_changeA σ 4) (fun s => some (s, (4 : Int32)))) (fX12_singles μ 4 7) (zEnq I) := by
  have ea : μ.1 3 0 = σ.1 36 0 := h.eq (by decide)
  have ef : μ.1 3 1 = σ.1 36 1 := hF
  have ha : zr 0 255 (σ.1 36 0) := h.b (by decide)
  have hf : zr 0 255 (σ.1 36 1) := h.b (by decide)
  have cC := p_daC (σ := σ) (fl_of hf) rfl
  have cM := p_da (μ := μ) (ef.trans (fl_of hf)) ea
  unfold fX5_changeA fX12_singles fX12_singles_316
  refine zp2_ifr (fun q => absurd q (by decide)) (fun _ => zp2_ifr (fun _ => zp2_ifr (fun _ => zp2_ifr (fun _ => zp2_bur cM (fun t et => ?_)) (fun q => absurd rfl q)) (fun q => absurd (by decide) q)) (fun q => absurd (by decide) q))
  refine zp2_bul (zpc_ck (zpc_bv (fun u1 _ => zpc_ck (zpc_bv (fun u2 _ => zpc_if (fun _ => zpc_bu cC (fun s es => zpc_some es)) (fun q => absurd rfl q)))))) (fun s es => zp2_some ?_)
  obtain ⟨v1, v2, v3, v4⟩ := v_da ha (decide (¬ σ.1 36 1 &&& 16 = 0)) (decide (¬ σ.1 36 1 &&& 2 = 0)) (decide (¬ σ.1 36 1 &&& 1 = 0))
  rw [v1, v2] at et
  have rW : zr 0 255 (dW (σ.1 36 0) (σ.1 36 0 &&& 15) (decide (¬ σ.1 36 1 &&& 16 = 0)) (decide (¬ σ.1 36 1 &&& 2 = 0)) (dC (σ.1 36 0) (decide (¬ σ.1 36 1 &&& 1 = 0)))) := z_r8 _
  rw [v_daB, v_lg rW, ← v4, ← v3] at et
  have rF : zr 0 255 (dF (dW (σ.1 36 0) (σ.1 36 0 &&& 15) (decide (¬ σ.1 36 1 &&& 16 = 0)) (decide (¬ σ.1 36 1 &&& 2 = 0)) (dC (σ.1 36 0) (decide (¬ σ.1 36 1 &&& 1 = 0)))) (dG (σ.1 36 0 &&& 15) (decide (¬ σ.1 36 1 &&& 16 = 0)) (decide (¬ σ.1 36 1 &&& 2 = 0))) (dC (σ.1 36 0) (decide (¬ σ.1 36 1 &&& 1 = 0))) (decide (¬ σ.1 36 1 &&& 2 = 0))) := by
    unfold dF
    rw [v4, ← v_lg rW, v3, ← v_daB]
    exact zfl_r _ _ _ _ _ _ _ _
  exact zEnq_af hI h hW (by rw [es]; exact zQ.wi (zQ.wi zQ.rf rfl) rfl) (by rw [et]; exact zQ.wi (zQ.wi zQ.rf rfl) rfl) (by rw [es]; rfl) (by rw [es]; rfl) (by rw [et]; rfl) (by rw [et]; rfl) rfl rfl rW rF
end ZDB
end ZJN3
section ZJN4
/-! THE FIRST QUARTER -/
theorem zp2_sm {α β : Type} {σ μ : zSt} {o p : Option (zSt × Int32)} {f : zSt → Int32 → Option α} {g : zSt → Int32 → Option β} {Q : α → β → Prop} {lo hi : Int} (h : zp2 o p (fun r r' => r.1 = σ ∧ r'.1 = μ ∧ r'.2 = r.2 ∧ zr lo hi r.2)) (k : ∀ v, zr lo hi v → zp2 (f σ v) (g μ v) Q) : zp2 (zbi o f) (zbi p g) Q := by
  refine zp2_bii h (fun s v t w q => ?_)
  obtain ⟨q1, q2, q3, q4⟩ := q
  have q1 : s = σ := q1
  have q2 : t = μ := q2
  have q3 : w = v := q3
  subst q1
  subst q2
  subst q3
  exact k w q4
theorem z_tc (x : Int32) : (0 ≤ x.toInt ∧ (x.toBitVec.toNat : Int) = x.toInt) ∨ (x.toInt < 0 ∧ (x.toBitVec.toNat : Int) = x.toInt + 4294967296) := by
  by_cases h : 0 ≤ x.toInt
  · exact Or.inl ⟨h, by rw [z_tN h]⟩
  · refine Or.inr ⟨by omega, ?_⟩
    have e : x.toInt = x.toBitVec.toInt := rfl
    have c := BitVec.toInt_eq_toNat_cond x.toBitVec
    rw [e] at h ⊢
    rw [c] at h ⊢
    by_cases q : 2 * x.toBitVec.toNat < 2 ^ 32
    · rw [if_pos q] at h; omega
    · rw [if_neg q]; omega
def zbt (k : Nat) (x : Int32) : Bool := x.toBitVec.getLsbD k
theorem zbt_n {k : Nat} {x : Int32} : zbt k x = decide (x.toBitVec.toNat / 2 ^ k % 2 = 1) := by
  unfold zbt
  rw [← BitVec.testBit_toNat, Nat.testBit_eq_decide_div_mod_eq]
theorem zbt_xor {k : Nat} {x y : Int32} : zbt k (x ^^^ y) = (zbt k x ^^ zbt k y) := by
  unfold zbt
  rw [Int32.toBitVec_xor, BitVec.getLsbD_xor]
theorem zbt_and {k : Nat} {x y : Int32} : zbt k (x &&& y) = (zbt k x && zbt k y) := by
  unfold zbt
  rw [Int32.toBitVec_and, BitVec.getLsbD_and]
theorem zbt_sar {k n : Nat} {x s : Int32} (hs : (s.toBitVec.smod 32).toNat = n) (h : n + k < 32) : zbt k (x >>> s) = zbt (n + k) x := by
  unfold zbt
  have e : (x >>> s).toBitVec = x.toBitVec.sshiftRight (s.toBitVec.smod 32).toNat := rfl
  rw [e, hs, BitVec.getLsbD_sshiftRight, if_pos h, show decide (32 ≤ k) = false from decide_eq_false (by omega)]
  rfl
theorem zbt_l4 : ∀ i, i < 32 → ((16 : Int32).toBitVec.getLsbD i = decide (i = 4)) := by decide
theorem zbt_m4 {x : Int32} : x &&& 16 = bif zbt 4 x then 16 else 0 := by
  refine Int32.toBitVec_inj.1 (BitVec.eq_of_getLsbD_eq (fun i hi => ?_))
  rw [Int32.toBitVec_and, BitVec.getLsbD_and, zbt_l4 i hi]
  unfold zbt
  by_cases q : i = 4
  · subst q
    cases h : x.toBitVec.getLsbD 4 <;> rfl
  · rw [decide_eq_false q, Bool.and_false]
    cases h : x.toBitVec.getLsbD 4
    · exact (BitVec.getLsbD_zero (w := 32)).symm
    · exact ((zbt_l4 i hi).trans (decide_eq_false q)).symm
theorem zbt_l0 : ∀ i, i < 32 → ((1 : Int32).toBitVec.getLsbD i = decide (i = 0)) := by decide
theorem zbt_m0 {x : Int32} : x &&& 1 = bif zbt 0 x then 1 else 0 := by
  refine Int32.toBitVec_inj.1 (BitVec.eq_of_getLsbD_eq (fun i hi => ?_))
  rw [Int32.toBitVec_and, BitVec.getLsbD_and, zbt_l0 i hi]
  unfold zbt
  by_cases q : i = 0
  · subst q
    cases h : x.toBitVec.getLsbD 0 <;> rfl
  · rw [decide_eq_false q, Bool.and_false]
    cases h : x.toBitVec.getLsbD 0
    · exact (BitVec.getLsbD_zero (w := 32)).symm
    · exact ((zbt_l0 i hi).trans (decide_eq_false q)).symm
theorem zbt_l7 : ∀ i, i < 32 → ((128 : Int32).toBitVec.getLsbD i = decide (i = 7)) := by decide
theorem zbt_m7 {x : Int32} : x &&& 128 = bif zbt 7 x then 128 else 0 := by
  refine Int32.toBitVec_inj.1 (BitVec.eq_of_getLsbD_eq (fun i hi => ?_))
  rw [Int32.toBitVec_and, BitVec.getLsbD_and, zbt_l7 i hi]
  unfold zbt
  by_cases q : i = 7
  · subst q
    cases h : x.toBitVec.getLsbD 7 <;> rfl
  · rw [decide_eq_false q, Bool.and_false]
    cases h : x.toBitVec.getLsbD 7
    · exact (BitVec.getLsbD_zero (w := 32)).symm
    · exact ((zbt_l7 i hi).trans (decide_eq_false q)).symm
theorem zbt_l15 : ∀ i, i < 32 → ((32768 : Int32).toBitVec.getLsbD i = decide (i = 15)) := by decide
theorem zbt_m15 {x : Int32} : x &&& 32768 = bif zbt 15 x then 32768 else 0 := by
  refine Int32.toBitVec_inj.1 (BitVec.eq_of_getLsbD_eq (fun i hi => ?_))
  rw [Int32.toBitVec_and, BitVec.getLsbD_and, zbt_l15 i hi]
  unfold zbt
  by_cases q : i = 15
  · subst q
    cases h : x.toBitVec.getLsbD 15 <;> rfl
  · rw [decide_eq_false q, Bool.and_false]
    cases h : x.toBitVec.getLsbD 15
    · exact (BitVec.getLsbD_zero (w := 32)).symm
    · exact ((zbt_l15 i hi).trans (decide_eq_false q)).symm
theorem v_h12 {a b v X : Int32} {c : Int} (ha : zr 0 65535 a) (hb : zr 0 65535 b) (hv : v.toInt = a.toInt + b.toInt + c) (hc : 0 ≤ c ∧ c ≤ 1) (hX : X = (a ^^^ b) ^^^ v) {K : Prop} {d : Decidable K} (hK : K ↔ a.toInt % 4096 + b.toInt % 4096 + c ≤ 4095) : (X >>> ((8 : Int32) &&& 31)) &&& 16 = bif bc (@ite _ K d 0 1) then 16 else 0 := by
  rw [zbt_m4, zbt_sar (n := 8) rfl (by decide), hX, zbt_xor, zbt_xor, zbt_n, zbt_n, zbt_n]
  have a0 := ha.1
  have a1 := ha.2
  have b0 := hb.1
  have b1 := hb.2
  have ta := z_tc a
  have tb := z_tc b
  have tv := z_tc v
  show (bif (decide (a.toBitVec.toNat / 4096 % 2 = 1) ^^ decide (b.toBitVec.toNat / 4096 % 2 = 1)) ^^ decide (v.toBitVec.toNat / 4096 % 2 = 1) then (16 : Int32) else 0) = _
  by_cases k : K
  · have k1 := hK.mp k
    rw [if_pos k]
    by_cases p : a.toBitVec.toNat / 4096 % 2 = 1 <;> by_cases q : b.toBitVec.toNat / 4096 % 2 = 1 <;> by_cases r : v.toBitVec.toNat / 4096 % 2 = 1 <;> first | (exfalso; omega) | (rw [decide_eq_true_eq.mpr p] <;> skip; skip) | skip
    all_goals (simp only [p, q, r, decide_true, decide_false]; rfl)
  · have k1 : ¬ a.toInt % 4096 + b.toInt % 4096 + c ≤ 4095 := fun q => k (hK.mpr q)
    rw [if_neg k]
    by_cases p : a.toBitVec.toNat / 4096 % 2 = 1 <;> by_cases q : b.toBitVec.toNat / 4096 % 2 = 1 <;> by_cases r : v.toBitVec.toNat / 4096 % 2 = 1 <;> first | (exfalso; omega) | skip
    all_goals (simp only [p, q, r, decide_true, decide_false]; rfl)
theorem v_405 : ∀ i : Fin 512, Int32.ofNat i.val &&& 40 = (bif d5 (Int32.ofNat i.val) then 32 else 0) ||| (bif d3 (Int32.ofNat i.val) then 8 else 0) := by decide +kernel
theorem v_ahB : ∀ b7 b6 b5 h b3 b2 c : Bool, zfl b7 b6 b5 h b3 b2 false c = (((((bif b7 then 128 else 0) ||| (bif b6 then 64 else 0)) ||| (bif b2 then 4 else 0)) ||| ((bif b5 then 32 else 0) ||| (bif b3 then 8 else 0))) ||| (bif h then 16 else 0)) ||| (bif c then 1 else 0) := by decide
theorem v_17 {v : Int32} (h : zr 0 131071 v) : v >>> ((16 : Int32) &&& 31) = bif bc (if v ≤ 65535 then 0 else 1) then 1 else 0 := by
  have e := z_quo (k := 16) (s := (16 : Int32) &&& 31) h.1 rfl
  have h0 := h.1
  have h1 := h.2
  have c : (65535 : Int32).toInt = 65535 := rfl
  have e : (v >>> ((16 : Int32) &&& 31)).toInt = v.toInt / 65536 := e
  refine Int32.toInt_inj.mp ?_
  rw [e]
  by_cases q : v ≤ 65535
  · have q1 := Int32.le_iff_toInt_le.mp q
    rw [if_pos q]
    show v.toInt / 65536 = 0
    omega
  · have q1 := Int32.lt_iff_toInt_lt.mp (z_nle q)
    rw [if_neg q]
    show v.toInt / 65536 = 1
    omega
theorem z_x512 {v : Int32} (h : zr 0 131071 v) : (v >>> ((8 : Int32) &&& 31)) &&& 40 = (bif d5 (v >>> ((8 : Int32) &&& 31)) then 32 else 0) ||| (bif d3 (v >>> ((8 : Int32) &&& 31)) then 8 else 0) := by
  have e : (v >>> ((8 : Int32) &&& 31)).toInt = v.toInt / 256 := z_quo (k := 8) (s := (8 : Int32) &&& 31) h.1 rfl
  have h0 := h.1
  have h1 := h.2
  generalize v >>> ((8 : Int32) &&& 31) = x at e
  obtain ⟨i, hi⟩ : ∃ i : Nat, x.toInt = i := ⟨x.toInt.toNat, by omega⟩
  rw [z_ofN hi]
  exact v_405 ⟨i, by omega⟩
theorem v_i8f : ∀ i : Fin 256, (Int32.ofNat i.val).toInt8.toInt32 = sg (Int32.ofNat i.val) := by decide +kernel
theorem z_i8s {v : Int32} (h : zr 0 255 v) : v.toInt8.toInt32 = sg v := by
  obtain ⟨i, e⟩ := z_byteF h
  subst e
  exact v_i8f i
theorem zAl4 {P : Nat → Prop} {a b c d : Nat} (p : P a) (q : P b) (r : P c) (s : P d) : zall [a, b, c, d] P := zAlc p (zAl3 q r s)
section ZQ1
variable {I : zSt → zSt → Prop} {σ μ : zSt}
theorem zTT.mem (hI : zIoK I) (h : zTT I σ μ) {s t : zSt} (hm : zM2 s t) (q1 : zQ [15, 17, 19] [] [] [] σ s) (q2 : zQ [5, 6] [(3, 29, 32)] [] [] μ t) : zTT I s t := h.fin hI [] hm (q1.mono rfl rfl) (q2.mono rfl rfl) rfl zAl0 (h.2.2.1.of (q1.1 7 4 rfl) (q2.1 0 31 rfl))
theorem t_go (hI : zIoK I) (h : zTT I σ μ) {d : Int32} : zp2 (fX5_goTo σ (((zgi σ 36 (19 : Int32).toNatClampNeg) + d) &&& 65535)) (fX12_jump μ d) (fun r r' => zTT I r r' ∧ zWzz r r' ∧ zQ [] [(36, 19, 20)] [] [] σ r ∧ zQ [] [(3, 19, 20)] [] [] μ r') := by
  unfold fX5_goTo fX12_jump
  refine zp2_ckl (zp2_bvl (fun s1 f1 => zp2_ckl (zp2_bvl (fun s2 f2 => zp2_ckr (zp2_ckr (zp2_bvr (fun t1 g1 => zp2_ckr (zp2_ckr (zp2_bvr (fun t2 g2 => zp2_some ?_))))))))))
  have e : μ.1 3 19 = σ.1 36 19 := h.eq (by decide)
  have g2 : t2 = zsi (zsi μ 3 19 ((σ.1 36 19 + d) &&& 65535)) 3 20 ((σ.1 36 19 + d) &&& 65535) := by
    rw [g2, g1, ← e]; rfl
  have f2 : s2 = zsi (zsi σ 36 19 ((σ.1 36 19 + d) &&& 65535)) 36 20 ((σ.1 36 19 + d) &&& 65535) := by
    rw [f2, f1]; rfl
  subst f2
  subst g2
  exact ⟨h.upd hI [19, 20] (zQ.wi (zQ.wi zQ.rf rfl) rfl) (zQ.wi (zQ.wi zQ.rf rfl) rfl) rfl (zAl2 ⟨rfl, zrg_w (by decide) (by decide) (z_r16 _)⟩ ⟨rfl, zrg_w (by decide) (by decide) (z_r16 _)⟩), rfl, zQ.wi (zQ.wi zQ.rf rfl) rfl, zQ.wi (zQ.wi zQ.rf rfl) rfl⟩
theorem t_nr0 (hI : zIoK I) (h : zTT I σ μ) (hF : zF σ μ) (hW : zWzz σ μ) {y d : Int32} : zp2 (fX5_near_92 σ y d 0) (fX12_zero_109 μ y d 0) (zEnq I) := by
  unfold fX5_near_92 fX12_zero_109
  refine zp2_ifl (fun _ => zp2_ifr (fun _ => ?_) (fun q => absurd rfl q)) (fun q => absurd rfl q)
  unfold fX5_near_112 fX12_zero_122
  refine zp2_ifl (fun _ => ?_) (fun q => absurd rfl q)
  unfold fX5_near_123
  by_cases y2 : y = 2
  · rw [if_pos y2, if_pos y2]
    exact zp2_ifr (fun _ => zp2_some ⟨h, hF, hW, rfl⟩) (fun q => absurd rfl q)
  · rw [if_neg y2, if_neg y2]
    exact zp2_ifr (fun _ => zp2_some ⟨h, hF, hW, rfl⟩) (fun q => absurd rfl q)
theorem t_nr1 (hI : zIoK I) (h : zTT I σ μ) (hF : zF σ μ) (hW : zWzz σ μ) {y d : Int32} : zp2 (fX5_near_92 σ y d 1) (fX12_zero_109 μ y d 1) (zEnq I) := by
  unfold fX5_near_92 fX12_zero_109
  refine zp2_ifl (fun q => absurd q (by decide)) (fun _ => zp2_ifr (fun q => absurd q (by decide)) (fun _ => zp2_ckl (zp2_buu (t_go hI h) (fun s t q => ?_))))
  obtain ⟨h1, w1, qc, qm⟩ := q
  have f1 : zF s t := hF.of (qc.1 36 1 rfl) (qm.1 3 1 rfl)
  unfold fX5_near_112 fX12_zero_122
  refine zp2_ifl (fun q => absurd q (by decide)) (fun _ => ?_)
  unfold fX5_near_123
  by_cases y2 : y = 2
  · rw [if_pos y2, if_pos y2]
    exact zp2_ifr (fun q => absurd q (by decide)) (fun _ => zp2_some ⟨h1, f1, w1, rfl⟩)
  · rw [if_neg y2, if_neg y2]
    exact zp2_ifr (fun q => absurd q (by decide)) (fun _ => zp2_some ⟨h1, f1, w1, rfl⟩)
theorem p_cwC0 : zpc (fX5_changeWithOther σ 0) (fun r => r = zsi (zsi σ 36 0 (σ.1 36 8)) 36 8 (σ.1 36 0)) := by
  unfold fX5_changeWithOther
  exact zpc_ck (zpc_bv (fun v ev => zpc_ck (zpc_ck (zpc_bv (fun s es => zpc_ck (zpc_bv (fun s2 e2 => zpc_some (by rw [e2, es, ev]; rfl))))))))
theorem p_cwM0 : zpc (fX12_change μ 0 8) (fun r => r = zsi (zsi μ 3 0 (μ.1 3 8)) 3 8 (μ.1 3 0)) := by
  unfold fX12_change
  exact zpc_ck (zpc_bv (fun v ev => zpc_ck (zpc_ck (zpc_bv (fun s es => zpc_ck (zpc_bv (fun s2 e2 => zpc_some (by rw [e2, es, ev]; rfl))))))))
theorem p_cwC1 : zpc (fX5_changeWithOther σ 1) (fun r => r = zsi (zsi σ 36 1 (σ.1 36 9)) 36 9 (σ.1 36 1)) := by
  unfold fX5_changeWithOther
  exact zpc_ck (zpc_bv (fun v ev => zpc_ck (zpc_ck (zpc_bv (fun s es => zpc_ck (zpc_bv (fun s2 e2 => zpc_some (by rw [e2, es, ev]; rfl))))))))
theorem p_cwM1 : zpc (fX12_change μ 1 9) (fun r => r = zsi (zsi μ 3 1 (μ.1 3 9)) 3 9 (μ.1 3 1)) := by
  unfold fX12_change
  exact zpc_ck (zpc_bv (fun v ev => zpc_ck (zpc_ck (zpc_bv (fun s es => zpc_ck (zpc_bv (fun s2 e2 => zpc_some (by rw [e2, es, ev]; rfl))))))))
theorem p_cwC2 : zpc (fX5_changeWithOther σ 2) (fun r => r = zsi (zsi σ 36 2 (σ.1 36 10)) 36 10 (σ.1 36 2)) := by
  unfold fX5_changeWithOther
  exact zpc_ck (zpc_bv (fun v ev => zpc_ck (zpc_ck (zpc_bv (fun s es => zpc_ck (zpc_bv (fun s2 e2 => zpc_some (by rw [e2, es, ev]; rfl))))))))
theorem p_cwM2 : zpc (fX12_change μ 2 10) (fun r => r = zsi (zsi μ 3 2 (μ.1 3 10)) 3 10 (μ.1 3 2)) := by
  unfold fX12_change
  exact zpc_ck (zpc_bv (fun v ev => zpc_ck (zpc_ck (zpc_bv (fun s es => zpc_ck (zpc_bv (fun s2 e2 => zpc_some (by rw [e2, es, ev]; rfl))))))))
theorem p_cwC3 : zpc (fX5_changeWithOther σ 3) (fun r => r = zsi (zsi σ 36 3 (σ.1 36 11)) 36 11 (σ.1 36 3)) := by
  unfold fX5_changeWithOther
  exact zpc_ck (zpc_bv (fun v ev => zpc_ck (zpc_ck (zpc_bv (fun s es => zpc_ck (zpc_bv (fun s2 e2 => zpc_some (by rw [e2, es, ev]; rfl))))))))
theorem p_cwM3 : zpc (fX12_change μ 3 11) (fun r => r = zsi (zsi μ 3 3 (μ.1 3 11)) 3 11 (μ.1 3 3)) := by
  unfold fX12_change
  exact zpc_ck (zpc_bv (fun v ev => zpc_ck (zpc_ck (zpc_bv (fun s es => zpc_ck (zpc_bv (fun s2 e2 => zpc_some (by rw [e2, es, ev]; rfl))))))))
theorem p_cwC4 : zpc (fX5_changeWithOther σ 4) (fun r => r = zsi (zsi σ 36 4 (σ.1 36 12)) 36 12 (σ.1 36 4)) := by
  unfold fX5_changeWithOther
  exact zpc_ck (zpc_bv (fun v ev => zpc_ck (zpc_ck (zpc_bv (fun s es => zpc_ck (zpc_bv (fun s2 e2 => zpc_some (by rw [e2, es, ev]; rfl))))))))
theorem p_cwM4 : zpc (fX12_change μ 4 12) (fun r => r = zsi (zsi μ 3 4 (μ.1 3 12)) 3 12 (μ.1 3 4)) := by
  unfold fX12_change
  exact zpc_ck (zpc_bv (fun v ev => zpc_ck (zpc_ck (zpc_bv (fun s es => zpc_ck (zpc_bv (fun s2 e2 => zpc_some (by rw [e2, es, ev]; rfl))))))))
theorem p_cwC5 : zpc (fX5_changeWithOther σ 5) (fun r => r = zsi (zsi σ 36 5 (σ.1 36 13)) 36 13 (σ.1 36 5)) := by
  unfold fX5_changeWithOther
  exact zpc_ck (zpc_bv (fun v ev => zpc_ck (zpc_ck (zpc_bv (fun s es => zpc_ck (zpc_bv (fun s2 e2 => zpc_some (by rw [e2, es, ev]; rfl))))))))
theorem p_cwM5 : zpc (fX12_change μ 5 13) (fun r => r = zsi (zsi μ 3 5 (μ.1 3 13)) 3 13 (μ.1 3 5)) := by
  unfold fX12_change
  exact zpc_ck (zpc_bv (fun v ev => zpc_ck (zpc_ck (zpc_bv (fun s es => zpc_ck (zpc_bv (fun s2 e2 => zpc_some (by rw [e2, es, ev]; rfl))))))))
theorem p_cwC6 : zpc (fX5_changeWithOther σ 6) (fun r => r = zsi (zsi σ 36 6 (σ.1 36 14)) 36 14 (σ.1 36 6)) := by
  unfold fX5_changeWithOther
  exact zpc_ck (zpc_bv (fun v ev => zpc_ck (zpc_ck (zpc_bv (fun s es => zpc_ck (zpc_bv (fun s2 e2 => zpc_some (by rw [e2, es, ev]; rfl))))))))
theorem p_cwM6 : zpc (fX12_change μ 6 14) (fun r => r = zsi (zsi μ 3 6 (μ.1 3 14)) 3 14 (μ.1 3 6)) := by
  unfold fX12_change
  exact zpc_ck (zpc_bv (fun v ev => zpc_ck (zpc_ck (zpc_bv (fun s es => zpc_ck (zpc_bv (fun s2 e2 => zpc_some (by rw [e2, es, ev]; rfl))))))))
theorem p_cwC7 : zpc (fX5_changeWithOther σ 7) (fun r => r = zsi (zsi σ 36 7 (σ.1 36 15)) 36 15 (σ.1 36 7)) := by
  unfold fX5_changeWithOther
  exact zpc_ck (zpc_bv (fun v ev => zpc_ck (zpc_ck (zpc_bv (fun s es => zpc_ck (zpc_bv (fun s2 e2 => zpc_some (by rw [e2, es, ev]; rfl))))))))
theorem p_cwM7 : zpc (fX12_change μ 7 15) (fun r => r = zsi (zsi μ 3 7 (μ.1 3 15)) 3 15 (μ.1 3 7)) := by
  unfold fX12_change
  exact zpc_ck (zpc_bv (fun v ev => zpc_ck (zpc_ck (zpc_bv (fun s es => zpc_ck (zpc_bv (fun s2 e2 => zpc_some (by rw [e2, es, ev]; rfl))))))))
theorem t_cw0 (hI : zIoK I) (h : zTT I σ μ) : zp2 (fX5_changeWithOther σ 0) (fX12_change μ 0 8) (fun r r' => zTT I r r' ∧ zQ [] [(36, 0, 0), (36, 8, 8)] [] [] σ r ∧ zQ [] [(3, 0, 0), (3, 8, 8)] [] [] μ r') := by
  intro r r' er er'
  rw [p_cwC0 r er, p_cwM0 r' er']
  exact ⟨h.upd hI [0, 8] (zQ.wi (zQ.wi zQ.rf rfl) rfl) (zQ.wi (zQ.wi zQ.rf rfl) rfl) rfl (zAl2 ⟨h.eq (j := 8) (by decide), zrg_b (Or.inl (by decide)) (h.b (j := 8) (by decide))⟩ ⟨h.eq (j := 0) (by decide), zrg_b (Or.inl (by decide)) (h.b (j := 0) (by decide))⟩), zQ.wi (zQ.wi zQ.rf rfl) rfl, zQ.wi (zQ.wi zQ.rf rfl) rfl⟩
theorem t_cw2 (hI : zIoK I) (h : zTT I σ μ) : zp2 (fX5_changeWithOther σ 2) (fX12_change μ 2 10) (fun r r' => zTT I r r' ∧ zQ [] [(36, 2, 2), (36, 10, 10)] [] [] σ r ∧ zQ [] [(3, 2, 2), (3, 10, 10)] [] [] μ r') := by
  intro r r' er er'
  rw [p_cwC2 r er, p_cwM2 r' er']
  exact ⟨h.upd hI [2, 10] (zQ.wi (zQ.wi zQ.rf rfl) rfl) (zQ.wi (zQ.wi zQ.rf rfl) rfl) rfl (zAl2 ⟨h.eq (j := 10) (by decide), zrg_b (Or.inl (by decide)) (h.b (j := 10) (by decide))⟩ ⟨h.eq (j := 2) (by decide), zrg_b (Or.inl (by decide)) (h.b (j := 2) (by decide))⟩), zQ.wi (zQ.wi zQ.rf rfl) rfl, zQ.wi (zQ.wi zQ.rf rfl) rfl⟩
theorem t_cw3 (hI : zIoK I) (h : zTT I σ μ) : zp2 (fX5_changeWithOther σ 3) (fX12_change μ 3 11) (fun r r' => zTT I r r' ∧ zQ [] [(36, 3, 3), (36, 11, 11)] [] [] σ r ∧ zQ [] [(3, 3, 3), (3, 11, 11)] [] [] μ r') := by
  intro r r' er er'
  rw [p_cwC3 r er, p_cwM3 r' er']
  exact ⟨h.upd hI [3, 11] (zQ.wi (zQ.wi zQ.rf rfl) rfl) (zQ.wi (zQ.wi zQ.rf rfl) rfl) rfl (zAl2 ⟨h.eq (j := 11) (by decide), zrg_b (Or.inl (by decide)) (h.b (j := 11) (by decide))⟩ ⟨h.eq (j := 3) (by decide), zrg_b (Or.inl (by decide)) (h.b (j := 3) (by decide))⟩), zQ.wi (zQ.wi zQ.rf rfl) rfl, zQ.wi (zQ.wi zQ.rf rfl) rfl⟩
theorem t_cw4 (hI : zIoK I) (h : zTT I σ μ) : zp2 (fX5_changeWithOther σ 4) (fX12_change μ 4 12) (fun r r' => zTT I r r' ∧ zQ [] [(36, 4, 4), (36, 12, 12)] [] [] σ r ∧ zQ [] [(3, 4, 4), (3, 12, 12)] [] [] μ r') := by
  intro r r' er er'
  rw [p_cwC4 r er, p_cwM4 r' er']
  exact ⟨h.upd hI [4, 12] (zQ.wi (zQ.wi zQ.rf rfl) rfl) (zQ.wi (zQ.wi zQ.rf rfl) rfl) rfl (zAl2 ⟨h.eq (j := 12) (by decide), zrg_b (Or.inl (by decide)) (h.b (j := 12) (by decide))⟩ ⟨h.eq (j := 4) (by decide), zrg_b (Or.inl (by decide)) (h.b (j := 4) (by decide))⟩), zQ.wi (zQ.wi zQ.rf rfl) rfl, zQ.wi (zQ.wi zQ.rf rfl) rfl⟩
theorem t_cw5 (hI : zIoK I) (h : zTT I σ μ) : zp2 (fX5_changeWithOther σ 5) (fX12_change μ 5 13) (fun r r' => zTT I r r' ∧ zQ [] [(36, 5, 5), (36, 13, 13)] [] [] σ r ∧ zQ [] [(3, 5, 5), (3, 13, 13)] [] [] μ r') := by
  intro r r' er er'
  rw [p_cwC5 r er, p_cwM5 r' er']
  exact ⟨h.upd hI [5, 13] (zQ.wi (zQ.wi zQ.rf rfl) rfl) (zQ.wi (zQ.wi zQ.rf rfl) rfl) rfl (zAl2 ⟨h.eq (j := 13) (by decide), zrg_b (Or.inl (by decide)) (h.b (j := 13) (by decide))⟩ ⟨h.eq (j := 5) (by decide), zrg_b (Or.inl (by decide)) (h.b (j := 5) (by decide))⟩), zQ.wi (zQ.wi zQ.rf rfl) rfl, zQ.wi (zQ.wi zQ.rf rfl) rfl⟩
theorem t_cw6 (hI : zIoK I) (h : zTT I σ μ) : zp2 (fX5_changeWithOther σ 6) (fX12_change μ 6 14) (fun r r' => zTT I r r' ∧ zQ [] [(36, 6, 6), (36, 14, 14)] [] [] σ r ∧ zQ [] [(3, 6, 6), (3, 14, 14)] [] [] μ r') := by
  intro r r' er er'
  rw [p_cwC6 r er, p_cwM6 r' er']
  exact ⟨h.upd hI [6, 14] (zQ.wi (zQ.wi zQ.rf rfl) rfl) (zQ.wi (zQ.wi zQ.rf rfl) rfl) rfl (zAl2 ⟨h.eq (j := 14) (by decide), zrg_b (Or.inl (by decide)) (h.b (j := 14) (by decide))⟩ ⟨h.eq (j := 6) (by decide), zrg_b (Or.inl (by decide)) (h.b (j := 6) (by decide))⟩), zQ.wi (zQ.wi zQ.rf rfl) rfl, zQ.wi (zQ.wi zQ.rf rfl) rfl⟩
theorem t_cw7 (hI : zIoK I) (h : zTT I σ μ) : zp2 (fX5_changeWithOther σ 7) (fX12_change μ 7 15) (fun r r' => zTT I r r' ∧ zQ [] [(36, 7, 7), (36, 15, 15)] [] [] σ r ∧ zQ [] [(3, 7, 7), (3, 15, 15)] [] [] μ r') := by
  intro r r' er er'
  rw [p_cwC7 r er, p_cwM7 r' er']
  exact ⟨h.upd hI [7, 15] (zQ.wi (zQ.wi zQ.rf rfl) rfl) (zQ.wi (zQ.wi zQ.rf rfl) rfl) rfl (zAl2 ⟨h.eq (j := 15) (by decide), zrg_b (Or.inl (by decide)) (h.b (j := 15) (by decide))⟩ ⟨h.eq (j := 7) (by decide), zrg_b (Or.inl (by decide)) (h.b (j := 7) (by decide))⟩), zQ.wi (zQ.wi zQ.rf rfl) rfl, zQ.wi (zQ.wi zQ.rf rfl) rfl⟩
theorem t_cw1 (hI : zIoK I) (h : zTT I σ μ) (hF : zF σ μ) : zp2 (fX5_changeWithOther σ 1) (fX12_change μ 1 9) (fun r r' => zTT I r r' ∧ zF r r' ∧ zQ [] [(36, 1, 1), (36, 9, 9)] [] [] σ r ∧ zQ [] [(3, 1, 1), (3, 9, 9)] [] [] μ r') := by
  intro r r' er er'
  rw [p_cwC1 r er, p_cwM1 r' er']
  exact ⟨h.upd hI [1, 9] (zQ.wi (zQ.wi zQ.rf rfl) rfl) (zQ.wi (zQ.wi zQ.rf rfl) rfl) rfl (zAl2 ⟨h.eq (j := 9) (by decide), zrg_b (Or.inl (by decide)) (h.b (j := 9) (by decide))⟩ ⟨hF, zrg_b (Or.inl (by decide)) (h.b (j := 1) (by decide))⟩), h.eq (j := 9) (by decide), zQ.wi (zQ.wi zQ.rf rfl) rfl, zQ.wi (zQ.wi zQ.rf rfl) rfl⟩
theorem t_near (hI : zIoK I) (h : zTT I σ μ) (hF : zF σ μ) (hW : zWzz σ μ) {y : Int32} (hy : zr 0 7 y) : zp2 (fX5_near σ y) (fX12_zero μ y 0) (zEnq I) := by
  unfold fX5_near fX12_zero
  refine zp2_bvr (fun p _ => zp2_ifr (fun _ => ?_) (fun q => absurd rfl q))
  rcases zr_hd (c := 0) hy rfl with e | hy
  · subst e
    exact zp2_ifl (fun q => absurd q (by decide)) (fun _ => zp2_ifl (fun q => absurd q (by decide)) (fun _ => zp2_ifr (fun _ => zp2_some ⟨h, hF, hW, rfl⟩) (fun q => absurd rfl q)))
  rcases zr_hd (c := 1) hy rfl with e | hy
  · subst e
    refine zp2_ifl (fun q => absurd q (by decide)) (fun _ => zp2_ifl (fun _ => zp2_ifr (fun q => absurd q (by decide)) (fun _ => zp2_ifr (fun _ => ?_) (fun q => absurd rfl q))) (fun q => absurd rfl q))
    refine zp2_buu (t_cw0 hI h) (fun s t q => ?_)
    obtain ⟨h1, qc, qm⟩ := q
    refine zp2_buu (t_cw1 hI h1 (hF.of (qc.1 36 1 rfl) (qm.1 3 1 rfl))) (fun s2 t2 q2 => zp2_some ?_)
    obtain ⟨h2, f2, qc2, qm2⟩ := q2
    exact ⟨h2, f2, hW.of ((qc2.1 36 20 rfl).trans (qc.1 36 20 rfl)) ((qm2.1 3 20 rfl).trans (qm.1 3 20 rfl)), rfl⟩
  have y2 : 2 ≤ y := Int32.le_iff_toInt_le.mpr (by have := hy.1; have c : (2 : Int32).toInt = 2 := rfl; omega)
  have n0 : ¬ y = 0 := fun e => by rw [e] at y2; exact absurd y2 (by decide)
  have n1 : ¬ y = 1 := fun e => by rw [e] at y2; exact absurd y2 (by decide)
  refine zp2_ifl (fun _ => zp2_ifr (fun q => absurd q n0) (fun _ => zp2_ifr (fun q => absurd q n1) (fun _ => ?_))) (fun q => absurd y2 q)
  refine zp2_bii (t_next hI h) (fun s v t v' q => ?_)
  obtain ⟨h1, e1, rv, qc, qm⟩ := q
  have e1 : v' = v := e1
  subst e1
  have f1 : zF s t := hF.of (qc.1 36 1 rfl) (qm.1 3 1 rfl)
  have w1 : zWzz s t := hW.of (qc.1 36 20 rfl) (qm.1 3 20 rfl)
  refine zp2_bir p_signed (fun t1 v1 et => ?_)
  cases et
  refine zp2_bvl (fun d ed => ?_)
  have ed : d = if 128 ≤ v' then v' - 256 else v' := ed.trans (z_i8s rv)
  rw [← ed]
  unfold fX5_near_48 fX5_near_52 fX5_near_53 fX5_near_91 fX12_zero_67 fX12_zero_104
  rcases zr_hd (c := 2) hy rfl with e | hy
  · subst e
    refine zp2_ifl (fun q => absurd q (by decide)) (fun _ => zp2_ifl (fun _ => zp2_ifl (fun _ => zp2_ifr (fun _ => ?_) (fun q => absurd rfl q)) (fun q => absurd rfl q)) (fun q => absurd (by decide) q))
    refine zp2_ckl (zp2_ckl (zp2_bvl (fun s2 f2 => zp2_ckl (zp2_ckr (zp2_ckr (zp2_bvr (fun t2 g2 => zp2_ifr (fun _ => zp2_ckr ?_) (fun q => absurd rfl q))))))))
    have eb : t2.1 3 2 = s2.1 36 2 := by
      rw [f2, g2]
      show (t.1 3 2 - 1) &&& 255 = (s.1 36 2 - 1) &&& 255
      rw [h1.eq (by decide)]
    have h2 : zTT I s2 t2 := h1.upd hI [2] (by rw [f2]; exact zQ.wi zQ.rf rfl) (by rw [g2]; exact zQ.wi zQ.rf rfl) rfl (zAl1 ⟨eb, by rw [f2]; exact zrg_b (Or.inl (by decide)) (z_r8 _)⟩)
    have f3 : zF s2 t2 := f1.of (by rw [f2]; rfl) (by rw [g2]; rfl)
    have w3 : zWzz s2 t2 := w1.of (by rw [f2]; rfl) (by rw [g2]; rfl)
    by_cases b0 : s2.1 36 2 = 0
    · exact zp2_ifl (fun _ => zp2_ifr (fun _ => t_nr0 hI h2 f3 w3) (fun q => absurd (eb.trans b0) q)) (fun q => absurd b0 q)
    · exact zp2_ifl (fun q => absurd q b0) (fun _ => zp2_ifr (fun q => absurd (eb.symm.trans q) b0) (fun _ => t_nr1 hI h2 f3 w3))
  rcases zr_hd (c := 3) hy rfl with e | hy
  · subst e
    exact zp2_ifl (fun _ => zp2_ifl (fun q => absurd q (by decide)) (fun _ => zp2_ifr (fun q => absurd q (by decide)) (fun _ => zp2_ifr (fun q => absurd q (by decide)) (fun _ => zp2_ifr (fun _ => t_nr1 hI h1 f1 w1) (fun q => absurd rfl q))))) (fun q => absurd rfl q)
  have y4 : ¬ y ≤ 3 := fun q => by have := Int32.le_iff_toInt_le.mp q; have := hy.1; have c : (3 : Int32).toInt = 3 := rfl; omega
  have n2 : ¬ y = 2 := fun e => y4 (by rw [e]; decide)
  have n3 : ¬ y = 3 := fun e => y4 (by rw [e]; decide)
  have r4 : zr 0 7 (y - 4) := zr_sub (lo := 0) (hi := 7) hy (zr_c (lo := 4) (hi := 4) (x := 4) (by decide)) (by decide)
  refine zp2_ifl (fun q => absurd q n3) (fun _ => zp2_ifl (fun q => absurd q y4) (fun _ => zp2_ifr (fun q => absurd q n2) (fun _ => zp2_ifr (fun q => absurd q n2) (fun _ => zp2_ifr (fun q => absurd q n3) (fun _ => ?_)))))
  refine zp2_bii (t_cc f1 (h1.b (j := 1) (by decide)) r4) (fun s2 v2 t2 v3 q => ?_)
  obtain ⟨q1, q2, q3, q4⟩ := q
  have q1 : s2 = s := q1
  have q2 : t2 = t := q2
  have q3 : v3 = v2 := q3
  subst q1
  subst q2
  subst q3
  exact zp2_if (fun _ => zp2_ifl (fun q => absurd q n2) (fun _ => t_nr0 hI h1 f1 w1)) (fun _ => zp2_ifl (fun q => absurd q n2) (fun _ => t_nr1 hI h1 f1 w1))
/-! ld rp, nn; add hl, rp; inc, dec rp -/
theorem t_ldrp (hI : zIoK I) (h : zTT I σ μ) (hF : zF σ μ) (hW : zWzz σ μ) {p : Int32} : zp2 (fX5_loadPair σ p) (zbi (fX12_nextWord μ ) (fun σ21 v22 => zbu (fX12_rpTo σ21 p v22) (fun σ23 => some (σ23, (10 : Int32))))) (zEnq I) := by
  unfold fX5_loadPair
  refine zp2_bii (t_word hI h) (fun s v t v' q => ?_)
  obtain ⟨h1, e1, rv, qc, qm⟩ := q
  refine zp2_buu (t_rpTo hI h1 e1) (fun s2 t2 q2 => zp2_some ?_)
  obtain ⟨h2, qc2, qm2⟩ := q2
  exact ⟨h2, hF.of ((qc2.1 36 1 rfl).trans (qc.1 36 1 rfl)) ((qm2.1 3 1 rfl).trans (qm.1 3 1 rfl)), hW.of ((qc2.1 36 20 rfl).trans (qc.1 36 20 rfl)) ((qm2.1 3 20 rfl).trans (qm.1 3 20 rfl)), rfl⟩
theorem p_ahM {t : zSt} {v : Int32} {K : Prop} {d : Decidable K} : zpc (@ite _ K d (fX12_zero_249 t v 0 4) (fX12_zero_249 t v 1 4)) (fun r => r = (zsi t 3 1 (gxy (pt (pt (pt (t.1 3 1) 4 (@ite _ K d 0 1)) 0 (if v ≤ 65535 then 0 else 1)) 1 0) (v >>> ((8 : Int32) &&& 31))), 11)) := by
  refine zpc_j (K := fun g => fX12_zero_249 t v g 4) (a := 0) (b := 1) (fun g eg => ?_)
  unfold fX12_zero_249
  refine zpc_bu p_put' (fun s es => ?_)
  subst es
  refine zpc_j (K := fun c => fX12_zero_266 (zsi t 3 1 (pt (t.1 3 1) 4 g)) v c 0) (a := 0) (b := 1) (fun c ec => ?_)
  unfold fX12_zero_266
  refine zpc_bu p_put (fun s es => ?_)
  subst es
  refine zpc_bu p_put (fun s es => ?_)
  subst es
  refine zpc_bu p_xy (fun s es => zpc_some ?_)
  rw [es, eg, ec]
theorem t_addhl (hI : zIoK I) (h : zTT I σ μ) (hF : zF σ μ) {y p : Int32} (hp : zr 0 3 p) : zp2 (fX5_addPair σ p) (fX12_zero_178 μ y 1 p) (zEnq I) := by
  unfold fX5_addPair fX12_zero_178
  refine zp2_ifr (fun _ => zp2_sm (t_hl h) (fun a' ra => zp2_sm (t_rp h hp) (fun b' rb => ?_))) (fun q => absurd rfl q)
  refine zp2_bvl (fun v ev => zp2_ckl (zp2_bvl (fun s2 f2 => zp2_ckr (zp2_bvr (fun t2 g2 => zp2_bvr (fun v' ev' => ?_))))))
  have ev2 : v' = v := ev'.trans ev.symm
  subst ev2
  have h1 : zTT I s2 t2 := h.upd hI [20] (by rw [f2]; exact zQ.wi zQ.rf rfl) (by rw [g2]; exact zQ.wi zQ.rf rfl) rfl (zAl1 ⟨by rw [f2, g2]; rfl, by rw [f2]; exact zrg_w (by decide) (by decide) (z_r16 _)⟩)
  have w1 : zWzz s2 t2 := by rw [f2, g2]; rfl
  have f1 : zF s2 t2 := hF.of (by rw [f2]; rfl) (by rw [g2]; rfl)
  refine zp2_buu (t_hlTo hI h1 (v := v') (w := v') rfl) (fun s3 t3 q => ?_)
  obtain ⟨h3, qc, qm⟩ := q
  have f3 : zF s3 t3 := f1.of (qc.1 36 1 rfl) (qm.1 3 1 rfl)
  have w3 : zWzz s3 t3 := w1.of (qc.1 36 20 rfl) (qm.1 3 20 rfl)
  have hf : zr 0 255 (s3.1 36 1) := h3.b (by decide)
  refine zp2_ckl (zp2_ckl (zp2_bvl (fun s4 f4 => ?_)))
  intro r r' er er'
  cases er
  rw [p_ahM r' er']
  have tv : v'.toInt = a'.toInt + b'.toInt := by rw [ev']; exact z_tadd ra rb (by decide)
  have rv : zr 0 131071 v' := by rw [ev']; exact zr_add (lo := 0) (hi := 131071) ra rb (by decide)
  have m1 : (a' &&& 4095).toInt = a'.toInt % 4096 := z_mask (k := 12) ra.1 rfl (by decide)
  have m2 : (b' &&& 4095).toInt = b'.toInt % 4096 := z_mask (k := 12) rb.1 rfl (by decide)
  have a12 : ∀ x : Int32, zr 0 4095 (x &&& 4095) := fun x => zr_andr (lo := 0) (hi := 4095) (zr_c (lo := 4095) (hi := 4095) (by decide)) (by decide)
  have m3 : ((a' &&& 4095) + (b' &&& 4095)).toInt = (a' &&& 4095).toInt + (b' &&& 4095).toInt := z_tadd (a12 _) (a12 _) (by decide)
  have c4 : (4095 : Int32).toInt = 4095 := rfl
  have hh := v_h12 (a := a') (b := b') (v := v') (X := (a' ^^^ b') ^^^ v') (c := 0) (K := ((a' &&& 4095) + (b' &&& 4095)) ≤ 4095) (d := inferInstance) ra rb (by omega) (by decide) rfl (by rw [Int32.le_iff_toInt_le]; omega)
  have eF : t3.1 3 1 = s3.1 36 1 := f3
  have e : gxy (pt (pt (pt (s3.1 36 1) 4 (if ((a' &&& 4095) + (b' &&& 4095)) ≤ 4095 then 0 else 1)) 0 (if v' ≤ 65535 then 0 else 1)) 1 0) (v' >>> ((8 : Int32) &&& 31)) = (((s3.1 36 1 &&& 196) ||| ((v' >>> ((8 : Int32) &&& 31)) &&& 40)) ||| ((((a' ^^^ b') ^^^ v') >>> ((8 : Int32) &&& 31)) &&& 16)) ||| (v' >>> ((16 : Int32) &&& 31)) := by
    rw [hh, z_196 hf, z_x512 rv, v_17 rv, ← v_ahB]
    conv => lhs; rw [fl_of hf, pt_4, pt_0, pt_1, fl_xy]
    rfl
  have rF : zr 0 255 ((((s3.1 36 1 &&& 196) ||| ((v' >>> ((8 : Int32) &&& 31)) &&& 40)) ||| ((((a' ^^^ b') ^^^ v') >>> ((8 : Int32) &&& 31)) &&& 16)) ||| (v' >>> ((16 : Int32) &&& 31))) := by
    rw [hh, z_196 hf, z_x512 rv, v_17 rv, ← v_ahB]
    exact zfl_r _ _ _ _ _ _ _ _
  rw [eF, e, f4]
  exact ⟨(h3.onC hI (Or.inl rfl) (zrg_b (Or.inl (by decide)) rF)).onM hI (Or.inl rfl), rfl, w3, rfl⟩
theorem t_incrp (hI : zIoK I) (h : zTT I σ μ) (hF : zF σ μ) (hW : zWzz σ μ) {p c : Int32} (hp : zr 0 3 p) : zp2 (zbi (fX5_pair σ p) (fun s v => fX5_firstQuarter_110 s c v p)) (zbi (fX12_rp μ p) (fun t v => fX12_zero_328 t c v p)) (zEnq I) := by
  refine zp2_bii (t_rp h hp) (fun s1 b t1 b' q => ?_)
  obtain ⟨q1, q2, q3, rb⟩ := q
  have q1 : s1 = σ := q1
  have q2 : t1 = μ := q2
  have q3 : b' = b := q3
  subst q1
  subst q2
  subst q3
  unfold fX5_firstQuarter_110 fX12_zero_328
  refine zp2_buu (t_rpTo hI h rfl) (fun s2 t2 q2 => zp2_some ?_)
  obtain ⟨h2, qc2, qm2⟩ := q2
  exact ⟨h2, hF.of (qc2.1 36 1 rfl) (qm2.1 3 1 rfl), hW.of (qc2.1 36 20 rfl) (qm2.1 3 20 rfl), rfl⟩
theorem t_ldn (hI : zIoK I) (h : zTT I σ μ) (hF : zF σ μ) (hW : zWzz σ μ) (hp : zPlc σ μ) {y : Int32} (hy : zr 0 7 y) : zp2 (zbi (fX5_fetch σ ) (fun s v => zbu (fX5_putOne s y v) (fun s2 => if y = 6 then fX5_firstQuarter_193 s2 10 else fX5_firstQuarter_193 s2 7))) (fX12_singles μ y 6) (zEnq I) := by
  unfold fX12_singles
  refine zp2_ifr (fun _ => zp2_bii (t_next hI h) (fun s v t v' q => ?_)) (fun q => absurd rfl q)
  obtain ⟨h1, e1, rv, qc, qm⟩ := q
  have e1 : v' = v := e1
  subst e1
  refine zp2_buu (t_putOne hI h1 (hp.of (qc.1 7 5 rfl) (qc.1 36 6 rfl) (qc.1 36 7 rfl) (qm.1 3 20 rfl) (qm.1 0 32 rfl)) hy (z_m255 rv) rv) (fun s2 t2 q2 => ?_)
  obtain ⟨h2, qc2, qm2⟩ := q2
  have f2 : zF s2 t2 := hF.of ((qc2.1 36 1 rfl).trans (qc.1 36 1 rfl)) ((qm2.1 3 1 rfl).trans (qm.1 3 1 rfl))
  have w2 : zWzz s2 t2 := hW.of ((qc2.1 36 20 rfl).trans (qc.1 36 20 rfl)) ((qm2.1 3 20 rfl).trans (qm.1 3 20 rfl))
  unfold fX5_firstQuarter_193 fX12_singles_28
  exact zp2_if (fun _ => zp2_some ⟨h2, f2, w2, rfl⟩) (fun _ => zp2_some ⟨h2, f2, w2, rfl⟩)
end ZQ1
end ZJN4
section ZJN5
/-! FAR AND MOVES -/
section ZFA
variable {I : zSt → zSt → Prop} {σ μ : zSt}
theorem t_p0 (h : zTT I σ μ) : zp2 (fX5_pair σ 0) (fX12_pair μ 2) (fun r r' => r.1 = σ ∧ r'.1 = μ ∧ r'.2 = r.2 ∧ zr 0 65535 r.2) := by
  unfold fX5_pair
  exact zp2_ifl (fun _ => zp2_bilp (t_pair2 h) (fun s v b q => zp2_some q)) (fun q => absurd rfl q)
theorem t_p1 (h : zTT I σ μ) : zp2 (fX5_pair σ 1) (fX12_pair μ 4) (fun r r' => r.1 = σ ∧ r'.1 = μ ∧ r'.2 = r.2 ∧ zr 0 65535 r.2) := by
  unfold fX5_pair
  exact zp2_ifl (fun q => absurd q (by decide)) (fun _ => zp2_ifl (fun _ => zp2_bilp (t_pair4 h) (fun s v b q => zp2_some q)) (fun q => absurd rfl q))
/-- behind a read or a write: WZ is put on both sides -/
theorem zEnq.wz (hI : zIoK I) (h : zTT I σ μ) (hF : zF σ μ) {v w b : Int32} (e : w = v) (hv : zr 0 65535 v) : zEnq I (zsi σ 36 20 v, b) (zsi μ 3 20 w, b) := by
  subst e
  exact ⟨(h.onC hI (Or.inr rfl) (zrg_w (by decide) (by decide) hv)).onM hI (Or.inr rfl), hF, rfl, rfl⟩
theorem z_awz {a v : Int32} (ha : zr 0 255 a) : zr 0 65535 ((a <<< ((8 : Int32) &&& 31)) ||| ((v + 1) &&& 255)) := z_rw' ha (z_r8 _)
theorem t_far (hI : zIoK I) (h : zTT I σ μ) (hF : zF σ μ) {y : Int32} (hy : zr 0 7 y) : zp2 (fX5_far σ y) (fX12_moves μ (y >>> ((1 : Int32) &&& 31)) (y &&& 1)) (zEnq I) := by
  unfold fX5_far fX12_moves fX5_far_12 fX12_moves_15 fX12_moves_114 fX12_moves_160 fX12_moves_195 fX12_moves_201 fX12_moves_85 fX12_moves_214
  rcases zr_hd (c := 0) hy rfl with e | hy
  · subst e
    refine zp2_ifl (fun q => absurd q (by decide)) (fun _ => ?_)
    refine zp2_ifl (fun q => absurd q (by decide)) (fun _ => zp2_ifr (fun q => absurd q (by decide)) (fun _ => ?_))
    refine zp2_ifr (fun _ => ?_) (fun q => absurd (by decide) q)
    refine zp2_bii (t_p0 h) (fun s v t v' q => ?_)
    obtain ⟨q1, q2, q3, rv⟩ := q
    have q1 : s = σ := q1
    have q2 : t = μ := q2
    have q3 : v' = v := q3
    subst q1
    subst q2
    subst q3
    have rv : zr 0 65535 v' := rv
    unfold fX5_far_32 fX5_far_140 fX5_far_152 fX5_far_78
    refine zp2_ckl (zp2_bvl (fun s1 f1 => ?_))
    have h1 : zTT I s1 t := by rw [f1]; exact h.onC hI (Or.inr rfl) (zrg_w (by decide) (by decide) (z_r16 _))
    have F1 : zF s1 t := hF.of (by rw [f1]; rfl) rfl
    have wz : s1 = zsi s1 36 20 ((v' + 1) &&& 65535) := by rw [f1]; exact zsi_ow.symm
    refine zp2_ifl (fun q => absurd q (by decide)) (fun _ => ?_)
    refine zp2_ifl (fun _ => zp2_ckl (zp2_ifr (fun _ => zp2_ckr ?_) (fun q => absurd (by decide) q))) (fun q => absurd rfl q)
    refine zp2_wr h1.1 rfl (by rw [show zgi t 3 (0 : Int32).toNatClampNeg = s1.1 36 0 from h1.eq (by decide)]; exact z_m255 (h1.b (by decide))) (h1.b (j := 0) (by decide)) (fun s3 t3 hm qc3 qm3 => ?_)
    have h3 := h1.mem hI hm qc3 qm3
    have ea : zgi t3 3 (0 : Int32).toNatClampNeg = zgi s3 36 (0 : Int32).toNatClampNeg := h3.eq (by decide)
    refine zp2_ckl (zp2_ckl (zp2_bvl (fun s4 f4 => zp2_ifl (fun q => absurd q (by decide)) (fun _ => ?_))))
    refine zp2_ckr (zp2_ckr (zp2_bvr (fun t4 g4 => zp2_some ?_)))
    rw [f4, g4]
    exact zEnq.wz hI h3 (F1.of (qc3.1 36 1 rfl) (qm3.1 3 1 rfl)) (by rw [ea]) (z_awz (h3.b (j := 0) (by decide)))
  rcases zr_hd (c := 1) hy rfl with e | hy
  · subst e
    refine zp2_ifl (fun _ => ?_) (fun q => absurd rfl q)
    refine zp2_ifl (fun q => absurd q (by decide)) (fun _ => zp2_ifr (fun q => absurd q (by decide)) (fun _ => ?_))
    refine zp2_ifr (fun _ => ?_) (fun q => absurd (by decide) q)
    refine zp2_bii (t_p0 h) (fun s v t v' q => ?_)
    obtain ⟨q1, q2, q3, rv⟩ := q
    have q1 : s = σ := q1
    have q2 : t = μ := q2
    have q3 : v' = v := q3
    subst q1
    subst q2
    subst q3
    have rv : zr 0 65535 v' := rv
    unfold fX5_far_32 fX5_far_140 fX5_far_152 fX5_far_78
    refine zp2_ckl (zp2_bvl (fun s1 f1 => ?_))
    have h1 : zTT I s1 t := by rw [f1]; exact h.onC hI (Or.inr rfl) (zrg_w (by decide) (by decide) (z_r16 _))
    have F1 : zF s1 t := hF.of (by rw [f1]; rfl) rfl
    have wz : s1 = zsi s1 36 20 ((v' + 1) &&& 65535) := by rw [f1]; exact zsi_ow.symm
    refine zp2_ifl (fun q => absurd q (by decide)) (fun _ => ?_)
    refine zp2_ifl (fun q => absurd q (by decide)) (fun _ => zp2_ifr (fun q => absurd q (by decide)) (fun _ => ?_))
    refine zp2_rd h1.1 rfl (fun b rb => zp2_ckl (zp2_bvl (fun s4 f4 => zp2_ifl (fun q => absurd q (by decide)) (fun _ => ?_))))
    refine zp2_ckr (zp2_bvr (fun t3 g3 => ?_))
    have h3 : zTT I s4 t3 := h1.upd hI [0] (by rw [f4]; exact zQ.wi zQ.rf rfl) (by rw [g3]; exact zQ.wi zQ.rf rfl) rfl (zAl1 ⟨by rw [f4, g3]; rfl, by rw [f4]; exact zrg_b (Or.inl (by decide)) rb⟩)
    have F3 : zF s4 t3 := F1.of (by rw [f4]; rfl) (by rw [g3]; rfl)
    have w3 : s4 = zsi s4 36 20 ((v' + 1) &&& 65535) := by
      have e : s4.1 36 20 = (v' + 1) &&& 65535 := by rw [f4, f1]; rfl
      rw [← e]; exact zsi_own.symm
    refine zp2_ckr (zp2_bvr (fun t4 g4 => zp2_some ?_))
    rw [w3, g4]
    exact zEnq.wz hI h3 F3 rfl (z_r16 _)
  rcases zr_hd (c := 2) hy rfl with e | hy
  · subst e
    refine zp2_ifl (fun q => absurd q (by decide)) (fun _ => ?_)
    refine zp2_ifl (fun q => absurd q (by decide)) (fun _ => zp2_ifr (fun q => absurd q (by decide)) (fun _ => ?_))
    refine zp2_ifr (fun q => absurd q (by decide)) (fun _ => ?_)
    refine zp2_bii (t_p1 h) (fun s v t v' q => ?_)
    obtain ⟨q1, q2, q3, rv⟩ := q
    have q1 : s = σ := q1
    have q2 : t = μ := q2
    have q3 : v' = v := q3
    subst q1
    subst q2
    subst q3
    have rv : zr 0 65535 v' := rv
    unfold fX5_far_32 fX5_far_140 fX5_far_152 fX5_far_78
    refine zp2_ckl (zp2_bvl (fun s1 f1 => ?_))
    have h1 : zTT I s1 t := by rw [f1]; exact h.onC hI (Or.inr rfl) (zrg_w (by decide) (by decide) (z_r16 _))
    have F1 : zF s1 t := hF.of (by rw [f1]; rfl) rfl
    have wz : s1 = zsi s1 36 20 ((v' + 1) &&& 65535) := by rw [f1]; exact zsi_ow.symm
    refine zp2_ifl (fun q => absurd q (by decide)) (fun _ => ?_)
    refine zp2_ifl (fun _ => zp2_ckl (zp2_ifr (fun _ => zp2_ckr ?_) (fun q => absurd (by decide) q))) (fun q => absurd rfl q)
    refine zp2_wr h1.1 rfl (by rw [show zgi t 3 (0 : Int32).toNatClampNeg = s1.1 36 0 from h1.eq (by decide)]; exact z_m255 (h1.b (by decide))) (h1.b (j := 0) (by decide)) (fun s3 t3 hm qc3 qm3 => ?_)
    have h3 := h1.mem hI hm qc3 qm3
    have ea : zgi t3 3 (0 : Int32).toNatClampNeg = zgi s3 36 (0 : Int32).toNatClampNeg := h3.eq (by decide)
    refine zp2_ckl (zp2_ckl (zp2_bvl (fun s4 f4 => zp2_ifl (fun q => absurd q (by decide)) (fun _ => ?_))))
    refine zp2_ckr (zp2_ckr (zp2_bvr (fun t4 g4 => zp2_some ?_)))
    rw [f4, g4]
    exact zEnq.wz hI h3 (F1.of (qc3.1 36 1 rfl) (qm3.1 3 1 rfl)) (by rw [ea]) (z_awz (h3.b (j := 0) (by decide)))
  rcases zr_hd (c := 3) hy rfl with e | hy
  · subst e
    refine zp2_ifl (fun _ => ?_) (fun q => absurd rfl q)
    refine zp2_ifl (fun q => absurd q (by decide)) (fun _ => zp2_ifr (fun q => absurd q (by decide)) (fun _ => ?_))
    refine zp2_ifr (fun q => absurd q (by decide)) (fun _ => ?_)
    refine zp2_bii (t_p1 h) (fun s v t v' q => ?_)
    obtain ⟨q1, q2, q3, rv⟩ := q
    have q1 : s = σ := q1
    have q2 : t = μ := q2
    have q3 : v' = v := q3
    subst q1
    subst q2
    subst q3
    have rv : zr 0 65535 v' := rv
    unfold fX5_far_32 fX5_far_140 fX5_far_152 fX5_far_78
    refine zp2_ckl (zp2_bvl (fun s1 f1 => ?_))
    have h1 : zTT I s1 t := by rw [f1]; exact h.onC hI (Or.inr rfl) (zrg_w (by decide) (by decide) (z_r16 _))
    have F1 : zF s1 t := hF.of (by rw [f1]; rfl) rfl
    have wz : s1 = zsi s1 36 20 ((v' + 1) &&& 65535) := by rw [f1]; exact zsi_ow.symm
    refine zp2_ifl (fun q => absurd q (by decide)) (fun _ => ?_)
    refine zp2_ifl (fun q => absurd q (by decide)) (fun _ => zp2_ifr (fun q => absurd q (by decide)) (fun _ => ?_))
    refine zp2_rd h1.1 rfl (fun b rb => zp2_ckl (zp2_bvl (fun s4 f4 => zp2_ifl (fun q => absurd q (by decide)) (fun _ => ?_))))
    refine zp2_ckr (zp2_bvr (fun t3 g3 => ?_))
    have h3 : zTT I s4 t3 := h1.upd hI [0] (by rw [f4]; exact zQ.wi zQ.rf rfl) (by rw [g3]; exact zQ.wi zQ.rf rfl) rfl (zAl1 ⟨by rw [f4, g3]; rfl, by rw [f4]; exact zrg_b (Or.inl (by decide)) rb⟩)
    have F3 : zF s4 t3 := F1.of (by rw [f4]; rfl) (by rw [g3]; rfl)
    have w3 : s4 = zsi s4 36 20 ((v' + 1) &&& 65535) := by
      have e : s4.1 36 20 = (v' + 1) &&& 65535 := by rw [f4, f1]; rfl
      rw [← e]; exact zsi_own.symm
    refine zp2_ckr (zp2_bvr (fun t4 g4 => zp2_some ?_))
    rw [w3, g4]
    exact zEnq.wz hI h3 F3 rfl (z_r16 _)
  rcases zr_hd (c := 4) hy rfl with e | hy
  · subst e
    refine zp2_ifl (fun q => absurd q (by decide)) (fun _ => ?_)
    refine zp2_ifl (fun _ => zp2_ifr (fun _ => ?_) (fun q => absurd (by decide) q)) (fun q => absurd (by decide) q)
    refine zp2_bii (t_word hI h) (fun s v t v' q => ?_)
    obtain ⟨h0, e1, rv, qc, qm⟩ := q
    have e1 : v' = v := e1
    subst e1
    have hF : zF s t := hF.of (qc.1 36 1 rfl) (qm.1 3 1 rfl)
    have h := h0
    have rv : zr 0 65535 v' := rv
    unfold fX5_far_32 fX5_far_140 fX5_far_152 fX5_far_78
    refine zp2_ckl (zp2_bvl (fun s1 f1 => ?_))
    have h1 : zTT I s1 t := by rw [f1]; exact h.onC hI (Or.inr rfl) (zrg_w (by decide) (by decide) (z_r16 _))
    have F1 : zF s1 t := hF.of (by rw [f1]; rfl) rfl
    have wz : s1 = zsi s1 36 20 ((v' + 1) &&& 65535) := by rw [f1]; exact zsi_ow.symm
    refine zp2_ifl (fun _ => ?_) (fun q => absurd (by decide) q)
    refine zp2_ifr (fun _ => ?_) (fun q => absurd (by decide) q)
    refine zp2_ifl (fun _ => zp2_ifr (fun _ => zp2_ifr (fun _ => ?_) (fun q => absurd (by decide) q)) (fun q => absurd (by decide) q)) (fun q => absurd rfl q)
    refine zp2_bii (t_hl h1) (fun s2 w t2 w' q => ?_)
    obtain ⟨q1, q2, q3, rw1⟩ := q
    have q1 : s2 = s1 := q1
    have q2 : t2 = t := q2
    have q3 : w' = w := q3
    subst q1
    subst q2
    subst q3
    refine zp2_buu (t_wword h1.1 rfl rfl rw1) (fun s3 t3 q => ?_)
    obtain ⟨hm, qc3, qm3⟩ := q
    have h3 := h1.mem hI hm qc3 qm3
    refine zp2_ifr (fun q => absurd q (by decide)) (fun _ => zp2_ckr (zp2_bvr (fun t4 g4 => zp2_ifr (fun _ => zp2_some ?_) (fun q => absurd (by decide) q))))
    have w3 : s3 = zsi s3 36 20 ((v' + 1) &&& 65535) := by
      have e : s3.1 36 20 = (v' + 1) &&& 65535 := by rw [qc3.1 36 20 rfl, f1]; rfl
      rw [← e]; exact zsi_own.symm
    rw [w3, g4]
    exact zEnq.wz hI h3 (F1.of (qc3.1 36 1 rfl) (qm3.1 3 1 rfl)) rfl (z_r16 _)
  rcases zr_hd (c := 5) hy rfl with e | hy
  · subst e
    refine zp2_ifl (fun _ => ?_) (fun q => absurd rfl q)
    refine zp2_ifl (fun _ => zp2_ifr (fun _ => ?_) (fun q => absurd (by decide) q)) (fun q => absurd (by decide) q)
    refine zp2_bii (t_word hI h) (fun s v t v' q => ?_)
    obtain ⟨h0, e1, rv, qc, qm⟩ := q
    have e1 : v' = v := e1
    subst e1
    have hF : zF s t := hF.of (qc.1 36 1 rfl) (qm.1 3 1 rfl)
    have h := h0
    have rv : zr 0 65535 v' := rv
    unfold fX5_far_32 fX5_far_140 fX5_far_152 fX5_far_78
    refine zp2_ckl (zp2_bvl (fun s1 f1 => ?_))
    have h1 : zTT I s1 t := by rw [f1]; exact h.onC hI (Or.inr rfl) (zrg_w (by decide) (by decide) (z_r16 _))
    have F1 : zF s1 t := hF.of (by rw [f1]; rfl) rfl
    have wz : s1 = zsi s1 36 20 ((v' + 1) &&& 65535) := by rw [f1]; exact zsi_ow.symm
    refine zp2_ifl (fun _ => ?_) (fun q => absurd (by decide) q)
    refine zp2_ifr (fun _ => ?_) (fun q => absurd (by decide) q)
    refine zp2_ifl (fun q => absurd q (by decide)) (fun _ => zp2_ifr (fun q => absurd q (by decide)) (fun _ => ?_))
    refine zp2_bii (t_rword h1.1 rfl) (fun s2 w t2 w' q => ?_)
    obtain ⟨q1, q2, q3, rw1⟩ := q
    have q1 : s2 = s1 := q1
    have q2 : t2 = t := q2
    have q3 : w' = w := q3
    subst q1
    subst q2
    subst q3
    refine zp2_buu (t_hlTo hI h1 rfl) (fun s3 t3 q => ?_)
    obtain ⟨h3, qc3, qm3⟩ := q
    refine zp2_ifr (fun q => absurd q (by decide)) (fun _ => zp2_ckr (zp2_bvr (fun t4 g4 => zp2_ifr (fun _ => zp2_some ?_) (fun q => absurd (by decide) q))))
    have w3 : s3 = zsi s3 36 20 ((v' + 1) &&& 65535) := by
      have e : s3.1 36 20 = (v' + 1) &&& 65535 := by rw [qc3.1 36 20 rfl, f1]; rfl
      rw [← e]; exact zsi_own.symm
    rw [w3, g4]
    exact zEnq.wz hI h3 (F1.of (qc3.1 36 1 rfl) (qm3.1 3 1 rfl)) rfl (z_r16 _)
  rcases zr_hd (c := 6) hy rfl with e | hy
  · subst e
    refine zp2_ifl (fun q => absurd q (by decide)) (fun _ => ?_)
    refine zp2_ifl (fun _ => zp2_ifr (fun _ => ?_) (fun q => absurd (by decide) q)) (fun q => absurd (by decide) q)
    refine zp2_bii (t_word hI h) (fun s v t v' q => ?_)
    obtain ⟨h0, e1, rv, qc, qm⟩ := q
    have e1 : v' = v := e1
    subst e1
    have hF : zF s t := hF.of (qc.1 36 1 rfl) (qm.1 3 1 rfl)
    have h := h0
    have rv : zr 0 65535 v' := rv
    unfold fX5_far_32 fX5_far_140 fX5_far_152 fX5_far_78
    refine zp2_ckl (zp2_bvl (fun s1 f1 => ?_))
    have h1 : zTT I s1 t := by rw [f1]; exact h.onC hI (Or.inr rfl) (zrg_w (by decide) (by decide) (z_r16 _))
    have F1 : zF s1 t := hF.of (by rw [f1]; rfl) rfl
    have wz : s1 = zsi s1 36 20 ((v' + 1) &&& 65535) := by rw [f1]; exact zsi_ow.symm
    refine zp2_ifl (fun q => absurd q (by decide)) (fun _ => ?_)
    refine zp2_ifr (fun q => absurd q (by decide)) (fun _ => zp2_ifr (fun q => absurd q (by decide)) (fun _ => ?_))
    refine zp2_ifl (fun _ => zp2_ckl (zp2_ifr (fun _ => zp2_ckr ?_) (fun q => absurd (by decide) q))) (fun q => absurd rfl q)
    refine zp2_wr h1.1 rfl (by rw [show zgi t 3 (0 : Int32).toNatClampNeg = s1.1 36 0 from h1.eq (by decide)]; exact z_m255 (h1.b (by decide))) (h1.b (j := 0) (by decide)) (fun s3 t3 hm qc3 qm3 => ?_)
    have h3 := h1.mem hI hm qc3 qm3
    have ea : zgi t3 3 (0 : Int32).toNatClampNeg = zgi s3 36 (0 : Int32).toNatClampNeg := h3.eq (by decide)
    refine zp2_ckl (zp2_ckl (zp2_bvl (fun s4 f4 => zp2_ifl (fun _ => ?_) (fun q => absurd (by decide) q))))
    refine zp2_ifr (fun _ => zp2_ifr (fun _ => zp2_ckr (zp2_ckr (zp2_bvr (fun t4 g4 => zp2_ifr (fun q => absurd q (by decide)) (fun _ => zp2_some ?_))))) (fun q => absurd (by decide) q)) (fun q => absurd (by decide) q)
    rw [f4, g4]
    exact zEnq.wz hI h3 (F1.of (qc3.1 36 1 rfl) (qm3.1 3 1 rfl)) (by rw [ea]) (z_awz (h3.b (j := 0) (by decide)))
  rcases zr_hd (c := 7) hy rfl with e | hy
  · subst e
    refine zp2_ifl (fun _ => ?_) (fun q => absurd rfl q)
    refine zp2_ifl (fun _ => zp2_ifr (fun _ => ?_) (fun q => absurd (by decide) q)) (fun q => absurd (by decide) q)
    refine zp2_bii (t_word hI h) (fun s v t v' q => ?_)
    obtain ⟨h0, e1, rv, qc, qm⟩ := q
    have e1 : v' = v := e1
    subst e1
    have hF : zF s t := hF.of (qc.1 36 1 rfl) (qm.1 3 1 rfl)
    have h := h0
    have rv : zr 0 65535 v' := rv
    unfold fX5_far_32 fX5_far_140 fX5_far_152 fX5_far_78
    refine zp2_ckl (zp2_bvl (fun s1 f1 => ?_))
    have h1 : zTT I s1 t := by rw [f1]; exact h.onC hI (Or.inr rfl) (zrg_w (by decide) (by decide) (z_r16 _))
    have F1 : zF s1 t := hF.of (by rw [f1]; rfl) rfl
    have wz : s1 = zsi s1 36 20 ((v' + 1) &&& 65535) := by rw [f1]; exact zsi_ow.symm
    refine zp2_ifl (fun q => absurd q (by decide)) (fun _ => ?_)
    refine zp2_ifr (fun q => absurd q (by decide)) (fun _ => zp2_ifr (fun q => absurd q (by decide)) (fun _ => ?_))
    refine zp2_ifl (fun q => absurd q (by decide)) (fun _ => zp2_ifr (fun q => absurd q (by decide)) (fun _ => ?_))
    refine zp2_rd h1.1 rfl (fun b rb => zp2_ckl (zp2_bvl (fun s4 f4 => zp2_ifl (fun _ => ?_) (fun q => absurd (by decide) q))))
    refine zp2_ckr (zp2_bvr (fun t3 g3 => ?_))
    have h3 : zTT I s4 t3 := h1.upd hI [0] (by rw [f4]; exact zQ.wi zQ.rf rfl) (by rw [g3]; exact zQ.wi zQ.rf rfl) rfl (zAl1 ⟨by rw [f4, g3]; rfl, by rw [f4]; exact zrg_b (Or.inl (by decide)) rb⟩)
    have F3 : zF s4 t3 := F1.of (by rw [f4]; rfl) (by rw [g3]; rfl)
    have w3 : s4 = zsi s4 36 20 ((v' + 1) &&& 65535) := by
      have e : s4.1 36 20 = (v' + 1) &&& 65535 := by rw [f4, f1]; rfl
      rw [← e]; exact zsi_own.symm
    refine zp2_ifr (fun _ => zp2_ifr (fun q => absurd q (by decide)) (fun _ => zp2_ckr (zp2_bvr (fun t4 g4 => zp2_ifr (fun q => absurd q (by decide)) (fun _ => zp2_some ?_))))) (fun q => absurd (by decide) q)
    rw [w3, g4]
    exact zEnq.wz hI h3 F3 rfl (z_r16 _)
  exact zr_no9 hy (by decide)
end ZFA
end ZJN5
section ZJN6
/-! THREE QUARTERS -/
theorem zp2_birp {α β : Type} {o : Option α} {p : Option (zSt × Int32)} {g : zSt → Int32 → Option β} {P : α → zSt × Int32 → Prop} {Q : α → β → Prop} (h : zp2 o p P) (k : ∀ a t w, P a (t, w) → zp2 (some a) (g t w) Q) : zp2 o (zbi p g) Q := by
  intro a b ea eb
  cases e : p with
  | none => rw [e] at eb; cases eb
  | some r =>
    rw [e] at eb
    exact k a r.1 r.2 (h a r ea e) a b rfl eb
theorem z_fin8 {x : Int32} (h : zr 0 7 x) : ∃ i : Fin 8, x = Int32.ofNat i.val := by
  obtain ⟨h0, h1⟩ := h
  obtain ⟨i, hi⟩ : ∃ i : Nat, x.toInt = i := ⟨x.toInt.toNat, by omega⟩
  exact ⟨⟨i, by omega⟩, z_ofN hi⟩
theorem v_par : ∀ i : Fin 8, ((Int32.ofNat i.val &&& 1 = 0 ∧ zrem (Int32.ofNat i.val) 2 = 0) ∨ (Int32.ofNat i.val &&& 1 = 1 ∧ zrem (Int32.ofNat i.val) 2 = 1)) ∧ (0 ≤ (Int32.ofNat i.val >>> ((1 : Int32) &&& 31)).toInt ∧ (Int32.ofNat i.val >>> ((1 : Int32) &&& 31)).toInt ≤ 3) := by decide +kernel
theorem z_par {y : Int32} (h : zr 0 7 y) : ((y &&& 1 = 0 ∧ zrem y 2 = 0) ∨ (y &&& 1 = 1 ∧ zrem y 2 = 1)) ∧ zr 0 3 (y >>> ((1 : Int32) &&& 31)) := by
  obtain ⟨i, e⟩ := z_fin8 h
  subst e
  exact v_par i
theorem z_r7 (x : Int32) : zr 0 7 (x &&& 7) := zr_andr (lo := 0) (hi := 7) (zr_c (lo := 7) (hi := 7) (by decide)) (by decide)
section ZQ3
variable {I : zSt → zSt → Prop} {σ μ : zSt}
theorem t_inc3 (hI : zIoK I) (h : zTT I σ μ) (hF : zF σ μ) (hW : zWzz σ μ) {p c v : Int32} : zp2 (fX5_firstQuarter_110 σ c v p) (fX12_zero_328 μ c v p) (zEnq I) := by
  unfold fX5_firstQuarter_110 fX12_zero_328
  refine zp2_buu (t_rpTo hI h rfl) (fun s2 t2 q2 => zp2_some ?_)
  obtain ⟨h2, qc2, qm2⟩ := q2
  exact ⟨h2, hF.of (qc2.1 36 1 rfl) (qm2.1 3 1 rfl), hW.of (qc2.1 36 20 rfl) (qm2.1 3 20 rfl), rfl⟩
theorem t_z1 (hI : zIoK I) (h : zTT I σ μ) (hF : zF σ μ) (hW : zWzz σ μ) {y : Int32} (hy : zr 0 7 y) : zp2 (if (y &&& 1) = 0 then zbi (fX5_loadPair σ (y >>> ((1 : Int32) &&& 31))) (fun σ7 v8 => fX5_firstQuarter_81 σ7 v8) else zbi (fX5_addPair σ (y >>> ((1 : Int32) &&& 31))) (fun σ5 v6 => fX5_firstQuarter_81 σ5 v6)) (fX12_zero μ y 1) (zEnq I) := by
  obtain ⟨par, hp⟩ := z_par hy
  unfold fX12_zero fX5_firstQuarter_81
  refine zp2_bvr (fun p ep => zp2_ifr (fun q => absurd q (by decide)) (fun _ => zp2_ifr (fun _ => zp2_ckr ?_) (fun q => absurd rfl q)))
  subst ep
  rcases par with ⟨e1, e2⟩ | ⟨e1, e2⟩
  · rw [e1, e2]
    exact zp2_ifl (fun _ => zp2_ifr (fun _ => zp2_bilp (t_ldrp hI h hF hW) (fun s v b q => zp2_some q)) (fun q => absurd rfl q)) (fun q => absurd rfl q)
  · rw [e1, e2]
    exact zp2_ifl (fun q => absurd q (by decide)) (fun _ => zp2_ifr (fun q => absurd q (by decide)) (fun _ => zp2_bilp (t_addhl hI h hF hp) (fun s v b q => zp2_some q)))
theorem t_z2 (hI : zIoK I) (h : zTT I σ μ) (hF : zF σ μ) {y : Int32} (hy : zr 0 7 y) : zp2 (fX5_far σ y) (fX12_zero μ y 2) (zEnq I) := by
  obtain ⟨par, hp⟩ := z_par hy
  have t := t_far hI h hF hy
  unfold fX12_zero fX12_zero_178 fX12_zero_306
  refine zp2_bvr (fun p ep => zp2_ifr (fun q => absurd q (by decide)) (fun _ => zp2_ifr (fun q => absurd q (by decide)) (fun _ => zp2_ifr (fun q => absurd q (by decide)) (fun _ => zp2_ifr (fun _ => zp2_ckr ?_) (fun q => absurd rfl q)))))
  subst ep
  rcases par with ⟨e1, e2⟩ | ⟨e1, e2⟩
  · rw [e2]
    rw [e1] at t
    exact zp2_ifr (fun q => absurd q (by decide)) (fun _ => zp2_birp t (fun a t w q => zp2_some q))
  · rw [e2]
    rw [e1] at t
    exact zp2_ifr (fun _ => zp2_birp t (fun a t w q => zp2_some q)) (fun q => absurd rfl q)
theorem t_z3 (hI : zIoK I) (h : zTT I σ μ) (hF : zF σ μ) (hW : zWzz σ μ) {y : Int32} (hy : zr 0 7 y) : zp2 (zbi (fX5_pair σ (y >>> ((1 : Int32) &&& 31))) (fun σ11 v12 => if (y &&& 1) = 0 then fX5_firstQuarter_110 σ11 1 v12 (y >>> ((1 : Int32) &&& 31)) else fX5_firstQuarter_110 σ11 (-1) v12 (y >>> ((1 : Int32) &&& 31)))) (fX12_zero μ y 3) (zEnq I) := by
  obtain ⟨par, hp⟩ := z_par hy
  unfold fX12_zero fX12_zero_178
  refine zp2_bvr (fun p ep => zp2_ifr (fun q => absurd q (by decide)) (fun _ => zp2_ifr (fun q => absurd q (by decide)) (fun _ => zp2_ifr (fun q => absurd q (by decide)) (fun _ => zp2_ifr (fun q => absurd q (by decide)) (fun _ => ?_)))))
  subst ep
  refine zp2_bii (t_rp h hp) (fun s1 b t1 b' q => ?_)
  obtain ⟨q1, q2, q3, rb⟩ := q
  have q1 : s1 = σ := q1
  have q2 : t1 = μ := q2
  have q3 : b' = b := q3
  subst q1
  subst q2
  subst q3
  refine zp2_ckr ?_
  rcases par with ⟨e1, e2⟩ | ⟨e1, e2⟩
  · rw [e1, e2]
    exact zp2_ifl (fun _ => zp2_ifr (fun _ => t_inc3 hI h hF hW) (fun q => absurd rfl q)) (fun q => absurd rfl q)
  · rw [e1, e2]
    exact zp2_ifl (fun q => absurd q (by decide)) (fun _ => zp2_ifr (fun q => absurd q (by decide)) (fun _ => t_inc3 hI h hF hW))
theorem t_z7 (hI : zIoK I) (h : zTT I σ μ) (hF : zF σ μ) (hW : zWzz σ μ) {y : Int32} (hy : zr 0 7 y) : zp2 (zbu (fX5_changeA σ y) (fun s => some (s, (4 : Int32)))) (fX12_singles μ y 7) (zEnq I) := by
  rcases zr_hd (c := 0) hy rfl with e | hy
  · subst e; exact t_acc0 hI h hF hW
  rcases zr_hd (c := 1) hy rfl with e | hy
  · subst e; exact t_acc1 hI h hF hW
  rcases zr_hd (c := 2) hy rfl with e | hy
  · subst e; exact t_acc2 hI h hF hW
  rcases zr_hd (c := 3) hy rfl with e | hy
  · subst e; exact t_acc3 hI h hF hW
  rcases zr_hd (c := 4) hy rfl with e | hy
  · subst e; exact t_acc4 hI h hF hW
  rcases zr_hd (c := 5) hy rfl with e | hy
  · subst e; exact t_acc5 hI h hF hW
  rcases zr_hd (c := 6) hy rfl with e | hy
  · subst e; exact t_acc6 hI h hF hW
  rcases zr_hd (c := 7) hy rfl with e | hy
  · subst e; exact t_acc7 hI h hF hW
  exact zr_no9 hy (by decide)
theorem t_first (hI : zIoK I) (h : zTT I σ μ) (hF : zF σ μ) (hW : zWzz σ μ) (hp : zPlc σ μ) {op : Int32} (hx : op >>> ((6 : Int32) &&& 31) = 0) : zp2 (fX5_firstQuarter σ op) (fX12_plain μ op) (zEnq I) := by
  have hy : zr 0 7 ((op >>> ((3 : Int32) &&& 31)) &&& 7) := z_r7 _
  have hz : zr 0 7 (op &&& 7) := z_r7 _
  unfold fX5_firstQuarter fX12_plain fX12_plain_64
  refine zp2_bvl (fun y ey => zp2_bvr (fun y' ey' => zp2_bvr (fun z ez => zp2_ifr (fun _ => ?_) (fun q => absurd hx q))))
  rw [← ey] at ey' hy
  subst ey'
  rw [← ez] at hz ⊢
  clear ez
  rcases zr_hd (c := 0) hz rfl with e | hz
  · subst e
    exact zp2_ifl (fun _ => zp2_ifr (fun q => absurd q (by decide)) (fun _ => zp2_bii (t_near hI h hF hW hy) (fun s v t w q => zp2_some q))) (fun q => absurd rfl q)
  rcases zr_hd (c := 1) hz rfl with e | hz
  · subst e
    exact zp2_ifl (fun q => absurd q (by decide)) (fun _ => zp2_ifl (fun _ => zp2_ifr (fun q => absurd q (by decide)) (fun _ => zp2_birp (t_z1 hI h hF hW hy) (fun a t w q => zp2_some q))) (fun q => absurd rfl q))
  rcases zr_hd (c := 2) hz rfl with e | hz
  · subst e
    exact zp2_ifl (fun q => absurd q (by decide)) (fun _ => zp2_ifl (fun q => absurd q (by decide)) (fun _ => zp2_ifl (fun _ => zp2_ifr (fun q => absurd q (by decide)) (fun _ => zp2_bii (t_z2 hI h hF hy) (fun s v t w q => zp2_some q))) (fun q => absurd rfl q)))
  rcases zr_hd (c := 3) hz rfl with e | hz
  · subst e
    exact zp2_ifl (fun q => absurd q (by decide)) (fun _ => zp2_ifl (fun q => absurd q (by decide)) (fun _ => zp2_ifl (fun q => absurd q (by decide)) (fun _ => zp2_ifl (fun _ => zp2_ifr (fun q => absurd q (by decide)) (fun _ => zp2_birp (t_z3 hI h hF hW hy) (fun a t w q => zp2_some q))) (fun q => absurd rfl q))))
  rcases zr_hd (c := 4) hz rfl with e | hz
  · subst e
    exact zp2_ifl (fun q => absurd q (by decide)) (fun _ => zp2_ifl (fun q => absurd q (by decide)) (fun _ => zp2_ifl (fun q => absurd q (by decide)) (fun _ => zp2_ifl (fun q => absurd q (by decide)) (fun _ => zp2_ifl (fun _ => zp2_ifr (fun _ => zp2_birp (t_inc hI h hF hW hp hy) (fun a t w q => zp2_some q)) (fun q => absurd (by decide) q)) (fun q => absurd rfl q)))))
  rcases zr_hd (c := 5) hz rfl with e | hz
  · subst e
    exact zp2_ifl (fun q => absurd q (by decide)) (fun _ => zp2_ifl (fun q => absurd q (by decide)) (fun _ => zp2_ifl (fun q => absurd q (by decide)) (fun _ => zp2_ifl (fun q => absurd q (by decide)) (fun _ => zp2_ifl (fun q => absurd q (by decide)) (fun _ => zp2_ifl (fun _ => zp2_ifr (fun _ => zp2_birp (t_dec hI h hF hW hp hy) (fun a t w q => zp2_some q)) (fun q => absurd (by decide) q)) (fun q => absurd rfl q))))))
  rcases zr_hd (c := 6) hz rfl with e | hz
  · subst e
    exact zp2_ifl (fun q => absurd q (by decide)) (fun _ => zp2_ifl (fun q => absurd q (by decide)) (fun _ => zp2_ifl (fun q => absurd q (by decide)) (fun _ => zp2_ifl (fun q => absurd q (by decide)) (fun _ => zp2_ifl (fun q => absurd q (by decide)) (fun _ => zp2_ifl (fun q => absurd q (by decide)) (fun _ => zp2_ifl (fun _ => zp2_ifr (fun _ => zp2_birp (t_ldn hI h hF hW hp hy) (fun a t w q => zp2_some q)) (fun q => absurd (by decide) q)) (fun q => absurd rfl q)))))))
  rcases zr_hd (c := 7) hz rfl with e | hz
  · subst e
    exact zp2_ifl (fun q => absurd q (by decide)) (fun _ => zp2_ifl (fun q => absurd q (by decide)) (fun _ => zp2_ifl (fun q => absurd q (by decide)) (fun _ => zp2_ifl (fun q => absurd q (by decide)) (fun _ => zp2_ifl (fun q => absurd q (by decide)) (fun _ => zp2_ifl (fun q => absurd q (by decide)) (fun _ => zp2_ifl (fun q => absurd q (by decide)) (fun _ => zp2_ifr (fun _ => zp2_birp (t_z7 hI h hF hW hy) (fun a t w q => zp2_some q)) (fun q => absurd (by decide) q))))))))
  exact zr_no9 hz (by decide)
theorem t_move (hI : zIoK I) (h : zTT I σ μ) (hF : zF σ μ) (hW : zWzz σ μ) (hp : zPlc σ μ) {op : Int32} (hx : op >>> ((6 : Int32) &&& 31) = 1) : zp2 (fX5_move σ op) (fX12_plain μ op) (zEnq I) := by
  have hy : zr 0 7 ((op >>> ((3 : Int32) &&& 31)) &&& 7) := z_r7 _
  have hz : zr 0 7 (op &&& 7) := z_r7 _
  unfold fX5_move fX12_plain fX12_plain_92 fX12_plain_115 fX12_plain_110 fX12_plain_116 fX5_move_50 fX5_move_56
  rw [hx]
  refine zp2_bvr (fun y' ey' => zp2_bvr (fun z ez => zp2_ifr (fun q => absurd q (by decide)) (fun _ => zp2_ifr (fun _ => ?_) (fun q => absurd rfl q))))
  by_cases q : op = 118
  · refine zp2_ifl (fun _ => zp2_ifr (fun _ => ?_) (fun r => absurd q r)) (fun r => absurd q r)
    refine zp2_ckl (zp2_bvl (fun s f => zp2_ckr (zp2_bvr (fun t g => zp2_ifr (fun _ => zp2_some ?_) (fun r => absurd q r)))))
    subst f
    subst g
    exact ⟨h.upd hI [26] (zQ.wi zQ.rf rfl) (zQ.wi zQ.rf rfl) rfl (zAl1 ⟨rfl, zrg_1 (by decide) (by decide) (show zr 0 1 (1 : Int32) from zr_c (by decide))⟩), hF, hW, rfl⟩
  · refine zp2_ifl (fun r => absurd r q) (fun _ => zp2_ifr (fun r => absurd r q) (fun _ => ?_))
    refine zp2_bvl (fun y ey => zp2_bvl (fun z2 ez2 => ?_))
    have e1 : y' = y := ey'.trans ey.symm
    have e2 : z2 = z := ez2.trans ez.symm
    subst e1
    subst e2
    rw [← ey] at hy
    rw [← ez] at hz
    refine zp2_bii (t_one h hp hz) (fun s v t v' q => ?_)
    obtain ⟨q1, q2, q3, rv⟩ := q
    have q1 : s = σ := q1
    have q2 : t = μ := q2
    have q3 : v' = v := q3
    subst q1
    subst q2
    subst q3
    refine zp2_buu (t_putOne hI h hp hy (z_m255 rv) rv) (fun s2 t2 q2 => ?_)
    obtain ⟨h2, qc, qm⟩ := q2
    have f2 : zF s2 t2 := hF.of (qc.1 36 1 rfl) (qm.1 3 1 rfl)
    have w2 : zWzz s2 t2 := hW.of (qc.1 36 20 rfl) (qm.1 3 20 rfl)
    exact zp2_ifr (fun r => absurd r q) (fun _ => zp2_if (fun _ => zp2_some ⟨h2, f2, w2, rfl⟩) (fun _ => zp2_if (fun _ => zp2_some ⟨h2, f2, w2, rfl⟩) (fun _ => zp2_some ⟨h2, f2, w2, rfl⟩)))
theorem t_dor (hI : zIoK I) (h : zTT I σ μ) (hF : zF σ μ) (hW : zWzz σ μ) (hp : zPlc σ μ) {op : Int32} (hx : op >>> ((6 : Int32) &&& 31) = 2) : zp2 (fX5_doWithRegister σ op) (fX12_plain μ op) (zEnq I) := by
  have hy : zr 0 7 ((op >>> ((3 : Int32) &&& 31)) &&& 7) := z_r7 _
  have hz : zr 0 7 (op &&& 7) := z_r7 _
  unfold fX5_doWithRegister fX12_plain fX12_plain_139 fX5_doWithRegister_33
  rw [hx]
  refine zp2_bvr (fun y ey => zp2_bvr (fun z ez => zp2_ifr (fun q => absurd q (by decide)) (fun _ => zp2_ifr (fun q => absurd q (by decide)) (fun _ => zp2_ifr (fun _ => ?_) (fun q => absurd rfl q)))))
  rw [← ey, ← ez]
  rw [← ey] at hy
  rw [← ez] at hz
  refine zp2_bii (t_one h hp hz) (fun s v t v' q => ?_)
  obtain ⟨q1, q2, q3, rv⟩ := q
  have q1 : s = σ := q1
  have q2 : t = μ := q2
  have q3 : v' = v := q3
  subst q1
  subst q2
  subst q3
  refine zp2_buu (t_do hI h hF hy rv) (fun s2 t2 q2 => ?_)
  obtain ⟨h2, f2, qc, qm⟩ := q2
  have w2 : zWzz s2 t2 := hW.of (qc.1 36 20 rfl) (qm.1 3 20 rfl)
  exact zp2_if (fun _ => zp2_some ⟨h2, f2, w2, rfl⟩) (fun _ => zp2_some ⟨h2, f2, w2, rfl⟩)
theorem t_first_r1 (hI : zIoK I) (h : zTT I σ μ) (hF : zF σ μ) (hW : zWzz σ μ) (hp : zPlc σ μ) {op : Int32} (hx : op >>> ((6 : Int32) &&& 31) = 0) : zp2 (fX5_firstQuarter σ op) (fX12_plain_r1 μ op) (zEnq I) := by
  have hy : zr 0 7 ((op >>> ((3 : Int32) &&& 31)) &&& 7) := z_r7 _
  have hz : zr 0 7 (op &&& 7) := z_r7 _
  unfold fX5_firstQuarter fX12_plain_r1 fX12_plain_r1_64
  refine zp2_bvl (fun y ey => zp2_bvr (fun y' ey' => zp2_bvr (fun z ez => zp2_ifr (fun _ => ?_) (fun q => absurd hx q))))
  rw [← ey] at ey' hy
  subst ey'
  rw [← ez] at hz ⊢
  clear ez
  rcases zr_hd (c := 0) hz rfl with e | hz
  · subst e
    exact zp2_ifl (fun _ => zp2_ifr (fun q => absurd q (by decide)) (fun _ => zp2_bii (t_near hI h hF hW hy) (fun s v t w q => zp2_some q))) (fun q => absurd rfl q)
  rcases zr_hd (c := 1) hz rfl with e | hz
  · subst e
    exact zp2_ifl (fun q => absurd q (by decide)) (fun _ => zp2_ifl (fun _ => zp2_ifr (fun q => absurd q (by decide)) (fun _ => zp2_birp (t_z1 hI h hF hW hy) (fun a t w q => zp2_some q))) (fun q => absurd rfl q))
  rcases zr_hd (c := 2) hz rfl with e | hz
  · subst e
    exact zp2_ifl (fun q => absurd q (by decide)) (fun _ => zp2_ifl (fun q => absurd q (by decide)) (fun _ => zp2_ifl (fun _ => zp2_ifr (fun q => absurd q (by decide)) (fun _ => zp2_bii (t_z2 hI h hF hy) (fun s v t w q => zp2_some q))) (fun q => absurd rfl q)))
  rcases zr_hd (c := 3) hz rfl with e | hz
  · subst e
    exact zp2_ifl (fun q => absurd q (by decide)) (fun _ => zp2_ifl (fun q => absurd q (by decide)) (fun _ => zp2_ifl (fun q => absurd q (by decide)) (fun _ => zp2_ifl (fun _ => zp2_ifr (fun q => absurd q (by decide)) (fun _ => zp2_birp (t_z3 hI h hF hW hy) (fun a t w q => zp2_some q))) (fun q => absurd rfl q))))
  rcases zr_hd (c := 4) hz rfl with e | hz
  · subst e
    exact zp2_ifl (fun q => absurd q (by decide)) (fun _ => zp2_ifl (fun q => absurd q (by decide)) (fun _ => zp2_ifl (fun q => absurd q (by decide)) (fun _ => zp2_ifl (fun q => absurd q (by decide)) (fun _ => zp2_ifl (fun _ => zp2_ifr (fun _ => zp2_birp (t_inc hI h hF hW hp hy) (fun a t w q => zp2_some q)) (fun q => absurd (by decide) q)) (fun q => absurd rfl q)))))
  rcases zr_hd (c := 5) hz rfl with e | hz
  · subst e
    exact zp2_ifl (fun q => absurd q (by decide)) (fun _ => zp2_ifl (fun q => absurd q (by decide)) (fun _ => zp2_ifl (fun q => absurd q (by decide)) (fun _ => zp2_ifl (fun q => absurd q (by decide)) (fun _ => zp2_ifl (fun q => absurd q (by decide)) (fun _ => zp2_ifl (fun _ => zp2_ifr (fun _ => zp2_birp (t_dec hI h hF hW hp hy) (fun a t w q => zp2_some q)) (fun q => absurd (by decide) q)) (fun q => absurd rfl q))))))
  rcases zr_hd (c := 6) hz rfl with e | hz
  · subst e
    exact zp2_ifl (fun q => absurd q (by decide)) (fun _ => zp2_ifl (fun q => absurd q (by decide)) (fun _ => zp2_ifl (fun q => absurd q (by decide)) (fun _ => zp2_ifl (fun q => absurd q (by decide)) (fun _ => zp2_ifl (fun q => absurd q (by decide)) (fun _ => zp2_ifl (fun q => absurd q (by decide)) (fun _ => zp2_ifl (fun _ => zp2_ifr (fun _ => zp2_birp (t_ldn hI h hF hW hp hy) (fun a t w q => zp2_some q)) (fun q => absurd (by decide) q)) (fun q => absurd rfl q)))))))
  rcases zr_hd (c := 7) hz rfl with e | hz
  · subst e
    exact zp2_ifl (fun q => absurd q (by decide)) (fun _ => zp2_ifl (fun q => absurd q (by decide)) (fun _ => zp2_ifl (fun q => absurd q (by decide)) (fun _ => zp2_ifl (fun q => absurd q (by decide)) (fun _ => zp2_ifl (fun q => absurd q (by decide)) (fun _ => zp2_ifl (fun q => absurd q (by decide)) (fun _ => zp2_ifl (fun q => absurd q (by decide)) (fun _ => zp2_ifr (fun _ => zp2_birp (t_z7 hI h hF hW hy) (fun a t w q => zp2_some q)) (fun q => absurd (by decide) q))))))))
  exact zr_no9 hz (by decide)
theorem t_move_r1 (hI : zIoK I) (h : zTT I σ μ) (hF : zF σ μ) (hW : zWzz σ μ) (hp : zPlc σ μ) {op : Int32} (hx : op >>> ((6 : Int32) &&& 31) = 1) : zp2 (fX5_move σ op) (fX12_plain_r1 μ op) (zEnq I) := by
  have hy : zr 0 7 ((op >>> ((3 : Int32) &&& 31)) &&& 7) := z_r7 _
  have hz : zr 0 7 (op &&& 7) := z_r7 _
  unfold fX5_move fX12_plain_r1 fX12_plain_r1_92 fX12_plain_r1_115 fX12_plain_r1_110 fX12_plain_r1_116 fX5_move_50 fX5_move_56
  rw [hx]
  refine zp2_bvr (fun y' ey' => zp2_bvr (fun z ez => zp2_ifr (fun q => absurd q (by decide)) (fun _ => zp2_ifr (fun _ => ?_) (fun q => absurd rfl q))))
  by_cases q : op = 118
  · refine zp2_ifl (fun _ => zp2_ifr (fun _ => ?_) (fun r => absurd q r)) (fun r => absurd q r)
    refine zp2_ckl (zp2_bvl (fun s f => zp2_ckr (zp2_bvr (fun t g => zp2_ifr (fun _ => zp2_some ?_) (fun r => absurd q r)))))
    subst f
    subst g
    exact ⟨h.upd hI [26] (zQ.wi zQ.rf rfl) (zQ.wi zQ.rf rfl) rfl (zAl1 ⟨rfl, zrg_1 (by decide) (by decide) (show zr 0 1 (1 : Int32) from zr_c (by decide))⟩), hF, hW, rfl⟩
  · refine zp2_ifl (fun r => absurd r q) (fun _ => zp2_ifr (fun r => absurd r q) (fun _ => ?_))
    refine zp2_bvl (fun y ey => zp2_bvl (fun z2 ez2 => ?_))
    have e1 : y' = y := ey'.trans ey.symm
    have e2 : z2 = z := ez2.trans ez.symm
    subst e1
    subst e2
    rw [← ey] at hy
    rw [← ez] at hz
    refine zp2_bii (t_one h hp hz) (fun s v t v' q => ?_)
    obtain ⟨q1, q2, q3, rv⟩ := q
    have q1 : s = σ := q1
    have q2 : t = μ := q2
    have q3 : v' = v := q3
    subst q1
    subst q2
    subst q3
    refine zp2_buu (t_putOne hI h hp hy (z_m255 rv) rv) (fun s2 t2 q2 => ?_)
    obtain ⟨h2, qc, qm⟩ := q2
    have f2 : zF s2 t2 := hF.of (qc.1 36 1 rfl) (qm.1 3 1 rfl)
    have w2 : zWzz s2 t2 := hW.of (qc.1 36 20 rfl) (qm.1 3 20 rfl)
    exact zp2_ifr (fun r => absurd r q) (fun _ => zp2_if (fun _ => zp2_some ⟨h2, f2, w2, rfl⟩) (fun _ => zp2_if (fun _ => zp2_some ⟨h2, f2, w2, rfl⟩) (fun _ => zp2_some ⟨h2, f2, w2, rfl⟩)))
theorem t_dor_r1 (hI : zIoK I) (h : zTT I σ μ) (hF : zF σ μ) (hW : zWzz σ μ) (hp : zPlc σ μ) {op : Int32} (hx : op >>> ((6 : Int32) &&& 31) = 2) : zp2 (fX5_doWithRegister σ op) (fX12_plain_r1 μ op) (zEnq I) := by
  have hy : zr 0 7 ((op >>> ((3 : Int32) &&& 31)) &&& 7) := z_r7 _
  have hz : zr 0 7 (op &&& 7) := z_r7 _
  unfold fX5_doWithRegister fX12_plain_r1 fX12_plain_r1_139 fX5_doWithRegister_33
  rw [hx]
  refine zp2_bvr (fun y ey => zp2_bvr (fun z ez => zp2_ifr (fun q => absurd q (by decide)) (fun _ => zp2_ifr (fun q => absurd q (by decide)) (fun _ => zp2_ifr (fun _ => ?_) (fun q => absurd rfl q)))))
  rw [← ey, ← ez]
  rw [← ey] at hy
  rw [← ez] at hz
  refine zp2_bii (t_one h hp hz) (fun s v t v' q => ?_)
  obtain ⟨q1, q2, q3, rv⟩ := q
  have q1 : s = σ := q1
  have q2 : t = μ := q2
  have q3 : v' = v := q3
  subst q1
  subst q2
  subst q3
  refine zp2_buu (t_do hI h hF hy rv) (fun s2 t2 q2 => ?_)
  obtain ⟨h2, f2, qc, qm⟩ := q2
  have w2 : zWzz s2 t2 := hW.of (qc.1 36 20 rfl) (qm.1 3 20 rfl)
  exact zp2_if (fun _ => zp2_some ⟨h2, f2, w2, rfl⟩) (fun _ => zp2_some ⟨h2, f2, w2, rfl⟩)
end ZQ3
end ZJN6
section ZJN7
/-! THE LAST QUARTER -/
/-- the ports leave the processor alone -/
def zPkk (σ s μ t : zSt) : Prop := (∀ j, s.1 36 j = σ.1 36 j) ∧ (∀ j : Nat, j ≤ 28 → t.1 3 j = μ.1 3 j) ∧ s.1 7 5 = σ.1 7 5 ∧ t.1 0 32 = μ.1 0 32
def zPorts (I : zSt → zSt → Prop) : Prop := (∀ σ μ p v, zTT I σ μ → zr 0 255 p → zr 0 255 v → zp2 (fX4_write σ p v) (fX12_portTo μ p v) (fun r r' => zTT I r r' ∧ zPkk σ r μ r')) ∧ (∀ σ μ p, zTT I σ μ → zr 0 255 p → zp2 (fX4_read σ p) (fX12_port μ p) (fun r r' => zTT I r.1 r'.1 ∧ r'.2 = r.2 ∧ zr 0 255 r.2 ∧ zPkk σ r.1 μ r'.1))
theorem v_255 : ∀ i, i < 32 → ((255 : Int32).toBitVec.getLsbD i = decide (i < 8)) := by decide
theorem z_lo8 {h l : Int32} (hl : zr 0 255 l) : ((h <<< ((8 : Int32) &&& 31)) ||| l) &&& 255 = l := by
  have e : l = l &&& 255 := (z_m255 hl).symm
  refine Int32.toBitVec_inj.1 (BitVec.eq_of_getLsbD_eq (fun i hi => ?_))
  rw [Int32.toBitVec_and, BitVec.getLsbD_and, Int32.toBitVec_or, BitVec.getLsbD_or, v_255 i hi]
  have e2 : (h <<< ((8 : Int32) &&& 31)).toBitVec = h.toBitVec <<< (((8 : Int32) &&& 31).toBitVec.smod 32).toNat := rfl
  rw [e2, show (((8 : Int32) &&& 31).toBitVec.smod 32).toNat = 8 from rfl, BitVec.getLsbD_shiftLeft]
  by_cases q : i < 8
  · rw [decide_eq_true q, Bool.and_true, Bool.not_true, Bool.and_false, Bool.false_and, Bool.false_or]
  · rw [decide_eq_false q, Bool.and_false]
    conv => rhs; rw [e, Int32.toBitVec_and, BitVec.getLsbD_and, v_255 i hi, decide_eq_false q, Bool.and_false]
theorem z_hi8b {h l : Int32} (hh : zr 0 255 h) (hl : zr 0 255 l) : (((h <<< ((8 : Int32) &&& 31)) ||| l) >>> ((8 : Int32) &&& 31)) &&& 255 = h := by
  have e : h = h &&& 255 := (z_m255 hh).symm
  have e3 : l = l &&& 255 := (z_m255 hl).symm
  refine Int32.toBitVec_inj.1 (BitVec.eq_of_getLsbD_eq (fun i hi => ?_))
  rw [Int32.toBitVec_and, BitVec.getLsbD_and, v_255 i hi]
  by_cases q : i < 8
  · rw [decide_eq_true q, Bool.and_true]
    have z : zbt i (((h <<< ((8 : Int32) &&& 31)) ||| l) >>> ((8 : Int32) &&& 31)) = zbt (8 + i) ((h <<< ((8 : Int32) &&& 31)) ||| l) := zbt_sar (n := 8) rfl (by omega)
    unfold zbt at z
    rw [z, Int32.toBitVec_or, BitVec.getLsbD_or]
    have e2 : (h <<< ((8 : Int32) &&& 31)).toBitVec = h.toBitVec <<< (((8 : Int32) &&& 31).toBitVec.smod 32).toNat := rfl
    rw [e2, show (((8 : Int32) &&& 31).toBitVec.smod 32).toNat = 8 from rfl, BitVec.getLsbD_shiftLeft, e3, Int32.toBitVec_and, BitVec.getLsbD_and, v_255 (8 + i) (by omega), decide_eq_false (show ¬ 8 + i < 8 by omega), Bool.and_false, Bool.or_false, decide_eq_true (show 8 + i < 32 by omega), Bool.true_and, Bool.not_false, Bool.true_and, show 8 + i - 8 = i by omega]
  · rw [decide_eq_false q, Bool.and_false]
    conv => rhs; rw [e, Int32.toBitVec_and, BitVec.getLsbD_and, v_255 i hi, decide_eq_false q, Bool.and_false]
section ZQ4
variable {I : zSt → zSt → Prop} {σ μ : zSt}
theorem zTT.pz (hI : zIoK I) (h : zTT I σ μ) {v : Int32} (hv : zr 0 1 v) : zTT I (zsi σ 36 28 v) (zsi μ 3 27 v) := by
  refine ⟨h.1.keep (zQ.wi zQ.rf rfl) (zQ.wi zQ.rf rfl), ⟨fun j hj hn hw => ?_, ?_, ?_, fun j hj => ?_⟩, h.2.2.1.imp (fun x => x) (fun x => x), hI _ _ _ _ h.2.2.2 (zQ.wi zQ.rf rfl) (zQ.wi zQ.rf rfl)⟩
  · rw [zsi_nj (by omega), zsi_nj (by omega)]; exact h.2.1.1 j hj hn hw
  · rw [zsi_nj (by decide), zsi_nj (by decide)]; exact h.2.1.2.1
  · rw [zsi_ej, zsi_ej]
  · by_cases q : j = 28
    · rw [q, zsi_ej]; exact zrg_1 (by decide) (by decide) hv
    · rw [zsi_nj q]; exact h.2.1.2.2.2 j hj
theorem zPkk.f {s t : zSt} (h : zPkk σ s μ t) (hF : zF σ μ) : zF s t := hF.of (h.1 1) (h.2.1 1 (by decide))
theorem zPkk.w {s t : zSt} (h : zPkk σ s μ t) (hW : zWzz σ μ) : zWzz s t := hW.of (h.1 20) (h.2.1 20 (by decide))
theorem p_goC {x : Int32} : zpc (fX5_goTo σ x) (fun r => r = zsi (zsi σ 36 19 x) 36 20 x) := by
  unfold fX5_goTo
  exact zpc_ck (zpc_bv (fun s es => zpc_ck (zpc_bv (fun s2 e2 => zpc_some (by rw [e2, es]; rfl)))))
theorem zEnq.go (hI : zIoK I) (h : zTT I σ μ) (hF : zF σ μ) {v b : Int32} (hv : zr 0 65535 v) : zEnq I (zsi (zsi σ 36 19 v) 36 20 v, b) (zsi (zsi μ 3 19 v) 3 20 v, b) := ⟨h.upd hI [19, 20] (zQ.wi (zQ.wi zQ.rf rfl) rfl) (zQ.wi (zQ.wi zQ.rf rfl) rfl) rfl (zAl2 ⟨rfl, zrg_w (by decide) (by decide) hv⟩ ⟨rfl, zrg_w (by decide) (by decide) hv⟩), hF, rfl, rfl⟩
theorem t_ret (hI : zIoK I) (h : zTT I σ μ) (hF : zF σ μ) {b : Int32} : zp2 (zbi (fX5_pop σ ) (fun σ7 v8 => zbu (fX5_goTo σ7 v8) (fun σ9 => some (σ9, b)))) (zbi (fX12_pop μ ) (fun σ54 v55 => zck (zin 19 1048) (zbv (zsi σ54 3 ((19 : Int32).toNatClampNeg) v55) (fun σ56 => zck (zin 19 1048) (zck (zin 20 1048) (zbv (zsi σ56 3 ((20 : Int32).toNatClampNeg) (zgi σ56 3 (19 : Int32).toNatClampNeg)) (fun σ57 => some (σ57, b)))))))) (zEnq I) := by
  refine zp2_bii (t_pop hI h) (fun s v t v' q => ?_)
  obtain ⟨h1, e1, rv, qc, qm⟩ := q
  have e1 : v' = v := e1
  subst e1
  refine zp2_bul p_goC (fun s2 e2 => zp2_ckr (zp2_bvr (fun t1 g1 => zp2_ckr (zp2_ckr (zp2_bvr (fun t2 g2 => zp2_some ?_))))))
  have g2 : t2 = zsi (zsi t 3 19 v') 3 20 v' := by rw [g2, g1]; rfl
  rw [e2, g2]
  exact zEnq.go hI h1 (hF.of (qc.1 36 1 rfl) (qm.1 3 1 rfl)) rv
theorem t_call (hI : zIoK I) (h : zTT I σ μ) (hF : zF σ μ) {x : Int32} (hx : zr 0 65535 x) : zp2 (zbu (fX5_push σ (zgi σ 36 (19 : Int32).toNatClampNeg)) (fun σ3 => zbu (fX5_goTo σ3 x) (fun σ4 => some σ4))) (fX12_call μ x) (fun r r' => zTT I r r' ∧ zF r r' ∧ zWzz r r' ∧ zQ [15, 17, 19] [(36, 18, 20)] [] [] σ r ∧ zQ [5, 6] [(3, 18, 20), (3, 29, 32)] [] [] μ r') := by
  unfold fX12_call
  refine zp2_ckr (zp2_buu (t_push hI h (h.eq (j := 19) (by decide)) (h.w (j := 19) (by decide) (by decide))) (fun s t q => ?_))
  obtain ⟨h1, qc, qm⟩ := q
  refine zp2_bul p_goC (fun s2 e2 => zp2_ckr (zp2_bvr (fun t1 g1 => zp2_ckr (zp2_bvr (fun t2 g2 => zp2_some ?_)))))
  have g2 : t2 = zsi (zsi t 3 19 x) 3 20 x := by rw [g2, g1]; rfl
  have z := zEnq.go hI h1 (hF.of (qc.1 36 1 rfl) (qm.1 3 1 rfl)) hx (b := 0)
  rw [e2, g2]
  exact ⟨z.1, z.2.1, z.2.2.1, (qc.mono rfl rfl).tr (zQ.wi (zQ.wi zQ.rf rfl) rfl), (qm.mono rfl rfl).tr (zQ.wi (zQ.wi zQ.rf rfl) rfl)⟩
theorem v_8y : ∀ i : Fin 8, 0 ≤ (8 * Int32.ofNat i.val).toInt ∧ (8 * Int32.ofNat i.val).toInt ≤ 65535 := by decide
theorem z_8y {y : Int32} (h : zr 0 7 y) : zr 0 65535 (8 * y) := by
  obtain ⟨i, e⟩ := z_fin8 h
  subst e
  exact v_8y i
/-! exx -/
theorem e_exC (n : Nat) : fX5_leave_41 (n + 7) σ 2 = zbu (fX5_changeWithOther σ 2) (fun a => zbu (fX5_changeWithOther a 3) (fun b => zbu (fX5_changeWithOther b 4) (fun c => zbu (fX5_changeWithOther c 5) (fun d => zbu (fX5_changeWithOther d 6) (fun e => zbu (fX5_changeWithOther e 7) (fun f => some (f, 4))))))) := rfl
theorem e_exM (n : Nat) : fX12_three_128 (n + 7) μ 1 2 = zbu (fX12_change μ 2 10) (fun a => zbu (fX12_change a 3 11) (fun b => zbu (fX12_change b 4 12) (fun c => zbu (fX12_change c 5 13) (fun d => zbu (fX12_change d 6 14) (fun e => zbu (fX12_change e 7 15) (fun f => some (f, 4))))))) := rfl
theorem t_exx (hI : zIoK I) (h : zTT I σ μ) (hF : zF σ μ) (hW : zWzz σ μ) : zp2 (fX5_leave_41 zfuel σ 2) (fX12_three_128 zfuel μ 1 2) (zEnq I) := by
  have eC : fX5_leave_41 zfuel σ 2 = _ := e_exC (σ := σ) 1999993
  have eM : fX12_three_128 zfuel μ 1 2 = _ := e_exM (μ := μ) 1999993
  rw [eC, eM]
  refine zp2_buu (t_cw2 hI h) (fun s t q => ?_)
  obtain ⟨h1, qc, qm⟩ := q
  have hF := hF.of (qc.1 36 1 rfl) (qm.1 3 1 rfl)
  have hW := hW.of (qc.1 36 20 rfl) (qm.1 3 20 rfl)
  have h := h1
  clear h1 qc qm
  refine zp2_buu (t_cw3 hI h) (fun s t q => ?_)
  obtain ⟨h1, qc, qm⟩ := q
  have hF := hF.of (qc.1 36 1 rfl) (qm.1 3 1 rfl)
  have hW := hW.of (qc.1 36 20 rfl) (qm.1 3 20 rfl)
  have h := h1
  clear h1 qc qm
  refine zp2_buu (t_cw4 hI h) (fun s t q => ?_)
  obtain ⟨h1, qc, qm⟩ := q
  have hF := hF.of (qc.1 36 1 rfl) (qm.1 3 1 rfl)
  have hW := hW.of (qc.1 36 20 rfl) (qm.1 3 20 rfl)
  have h := h1
  clear h1 qc qm
  refine zp2_buu (t_cw5 hI h) (fun s t q => ?_)
  obtain ⟨h1, qc, qm⟩ := q
  have hF := hF.of (qc.1 36 1 rfl) (qm.1 3 1 rfl)
  have hW := hW.of (qc.1 36 20 rfl) (qm.1 3 20 rfl)
  have h := h1
  clear h1 qc qm
  refine zp2_buu (t_cw6 hI h) (fun s t q => ?_)
  obtain ⟨h1, qc, qm⟩ := q
  have hF := hF.of (qc.1 36 1 rfl) (qm.1 3 1 rfl)
  have hW := hW.of (qc.1 36 20 rfl) (qm.1 3 20 rfl)
  have h := h1
  clear h1 qc qm
  refine zp2_buu (t_cw7 hI h) (fun s t q => ?_)
  obtain ⟨h1, qc, qm⟩ := q
  have hF := hF.of (qc.1 36 1 rfl) (qm.1 3 1 rfl)
  have hW := hW.of (qc.1 36 20 rfl) (qm.1 3 20 rfl)
  have h := h1
  clear h1 qc qm
  exact zp2_some ⟨h, hF, hW, rfl⟩
theorem t_leave (hI : zIoK I) (h : zTT I σ μ) (hF : zF σ μ) (hW : zWzz σ μ) {y p : Int32} (hp : zr 0 3 p) : zp2 (fX5_leave σ p) (fX12_three_88 μ y 1 p) (zEnq I) := by
  unfold fX5_leave fX12_three_88
  refine zp2_ifr (fun _ => ?_) (fun q => absurd rfl q)
  rcases zr_hd (c := 0) hp rfl with e | hp
  · subst e
    exact zp2_ifl (fun _ => zp2_ifr (fun _ => t_ret hI h hF) (fun q => absurd rfl q)) (fun q => absurd rfl q)
  rcases zr_hd (c := 1) hp rfl with e | hp
  · subst e
    exact zp2_ifl (fun q => absurd q (by decide)) (fun _ => zp2_ifl (fun _ => zp2_ifr (fun q => absurd q (by decide)) (fun _ => t_exx hI h hF hW)) (fun q => absurd rfl q))
  rcases zr_hd (c := 2) hp rfl with e | hp
  · subst e
    refine zp2_ifl (fun q => absurd q (by decide)) (fun _ => zp2_ifl (fun q => absurd q (by decide)) (fun _ => zp2_ifl (fun _ => zp2_ifr (fun q => absurd q (by decide)) (fun _ => ?_)) (fun q => absurd rfl q)))
    have eM : fX12_three_128 zfuel μ 2 2 = zbi (fX12_hl μ ) (fun σ4 v5 => zck (zin 19 1048) (zbv (zsi σ4 3 ((19 : Int32).toNatClampNeg) v5) (fun σ6 => some (σ6, 4)))) := rfl
    rw [eM]
    refine zp2_sm (t_hl h) (fun v rv => zp2_ckl (zp2_bvl (fun s f => zp2_ckr (zp2_bvr (fun t g => zp2_some ?_)))))
    subst f
    subst g
    exact ⟨h.upd hI [19] (zQ.wi zQ.rf rfl) (zQ.wi zQ.rf rfl) rfl (zAl1 ⟨rfl, zrg_w (by decide) (by decide) rv⟩), hF, hW, rfl⟩
  rcases zr_hd (c := 3) hp rfl with e | hp
  · subst e
    refine zp2_ifl (fun q => absurd q (by decide)) (fun _ => zp2_ifl (fun q => absurd q (by decide)) (fun _ => zp2_ifl (fun q => absurd q (by decide)) (fun _ => zp2_ifr (fun q => absurd q (by decide)) (fun _ => ?_))))
    have eM : fX12_three_128 zfuel μ 3 2 = zbi (fX12_hl μ ) (fun σ4 v5 => zck (zin 18 1048) (zbv (zsi σ4 3 ((18 : Int32).toNatClampNeg) v5) (fun σ6 => some (σ6, 6)))) := rfl
    rw [eM]
    refine zp2_sm (t_hl h) (fun v rv => zp2_ckl (zp2_bvl (fun s f => zp2_ckr (zp2_bvr (fun t g => zp2_some ?_)))))
    subst f
    subst g
    exact ⟨h.upd hI [18] (zQ.wi zQ.rf rfl) (zQ.wi zQ.rf rfl) rfl (zAl1 ⟨rfl, zrg_w (by decide) (by decide) rv⟩), hF, hW, rfl⟩
  exact zr_no9 hp (by decide)
theorem t_popp (hI : zIoK I) (h : zTT I σ μ) (hF : zF σ μ) (hW : zWzz σ μ) {p : Int32} : zp2 (fX5_popPair σ p) (zbi (fX12_pop μ ) (fun σ48 v49 => if p = 3 then zbu (fX12_pairTo σ48 0 v49) (fun σ51 => fX12_three_85 σ51) else zbu (fX12_rpTo σ48 p v49) (fun σ50 => fX12_three_85 σ50))) (zEnq I) := by
  unfold fX5_popPair fX5_popPair_25 fX12_three_85
  refine zp2_bii (t_pop hI h) (fun s v t v' q => ?_)
  obtain ⟨h1, e1, rv, qc, qm⟩ := q
  refine zp2_if (fun _ => zp2_buu (t_pairTo0 hI h1 e1) (fun s2 t2 q => zp2_some ?_)) (fun _ => zp2_buu (t_rpTo hI h1 e1) (fun s2 t2 q => zp2_some ?_))
  · obtain ⟨h2, f2, qc2, qm2⟩ := q
    exact ⟨h2, f2, hW.of ((qc2.1 36 20 rfl).trans (qc.1 36 20 rfl)) ((qm2.1 3 20 rfl).trans (qm.1 3 20 rfl)), rfl⟩
  · obtain ⟨h2, qc2, qm2⟩ := q
    exact ⟨h2, hF.of ((qc2.1 36 1 rfl).trans (qc.1 36 1 rfl)) ((qm2.1 3 1 rfl).trans (qm.1 3 1 rfl)), hW.of ((qc2.1 36 20 rfl).trans (qc.1 36 20 rfl)) ((qm2.1 3 20 rfl).trans (qm.1 3 20 rfl)), rfl⟩
/-- a word is fetched into WZ -/
theorem t_wzw (hI : zIoK I) (h : zTT I σ μ) (hF : zF σ μ) {α β : Type} {Q : α → β → Prop} {f : Int32 → zSt → Option α} {g : Int32 → zSt → Option β} (k : ∀ v s t, zr 0 65535 v → zTT I s t → zF s t → s.1 36 20 = v → t.1 3 20 = v → s.1 36 1 = σ.1 36 1 → zp2 (f v s) (g v t) Q) : zp2 (zbi (fX5_fetchWord σ ) (fun σ1 v2 => zck (zin 20 29) (zbv (zsi σ1 36 ((20 : Int32).toNatClampNeg) v2) (f v2)))) (zbi (fX12_nextWord μ ) (fun σ1 v2 => zck (zin 20 1048) (zbv (zsi σ1 3 ((20 : Int32).toNatClampNeg) v2) (g v2)))) Q := by
  refine zp2_bii (t_word hI h) (fun s v t v' q => ?_)
  obtain ⟨h1, e1, rv, qc, qm⟩ := q
  have e1 : v' = v := e1
  subst e1
  refine zp2_ckl (zp2_bvl (fun s2 f2 => zp2_ckr (zp2_bvr (fun t2 g2 => ?_))))
  have z := zEnq.wz hI h1 (hF.of (qc.1 36 1 rfl) (qm.1 3 1 rfl)) (v := v') (w := v') rfl rv (b := 0)
  subst f2
  subst g2
  exact k v' _ _ rv z.1 z.2.1 rfl rfl (qc.1 36 1 rfl)
theorem t_callnn (hI : zIoK I) {v : Int32} (h : zTT I σ μ) (hF : zF σ μ) (rv : zr 0 65535 v) (w1 : σ.1 36 20 = v) (w2 : μ.1 3 20 = v) : zp2 (zck (zin 19 29) (zbu (fX5_push σ (zgi σ 36 (19 : Int32).toNatClampNeg)) (fun σ4 => zck (zin 19 29) (zbv (zsi σ4 36 ((19 : Int32).toNatClampNeg) v) (fun σ5 => some (σ5, (17 : Int32))))))) (zck (zin 19 1048) (zbu (fX12_push μ (zgi μ 3 (19 : Int32).toNatClampNeg)) (fun σ12 => zck (zin 20 1048) (zck (zin 19 1048) (zbv (zsi σ12 3 ((19 : Int32).toNatClampNeg) (zgi σ12 3 (20 : Int32).toNatClampNeg)) (fun σ13 => some (σ13, (17 : Int32)))))))) (zEnq I) := by
  refine zp2_ckl (zp2_ckr (zp2_buu (t_push hI h (h.eq (j := 19) (by decide)) (h.w (j := 19) (by decide) (by decide))) (fun s t q => ?_)))
  obtain ⟨h1, qc, qm⟩ := q
  refine zp2_ckl (zp2_bvl (fun s2 f2 => zp2_ckr (zp2_ckr (zp2_bvr (fun t2 g2 => zp2_some ?_)))))
  have e : zgi t 3 (20 : Int32).toNatClampNeg = v := (qm.1 3 20 rfl).trans w2
  rw [e] at g2
  subst f2
  subst g2
  refine ⟨h1.upd hI [19] (zQ.wi zQ.rf rfl) (zQ.wi zQ.rf rfl) rfl (zAl1 ⟨rfl, zrg_w (by decide) (by decide) rv⟩), hF.of (qc.1 36 1 rfl) (qm.1 3 1 rfl), ?_, rfl⟩
  show t.1 3 20 = s.1 36 20
  rw [qm.1 3 20 rfl, qc.1 36 20 rfl, w1, w2]
theorem t_jpcc (hI : zIoK I) (h : zTT I σ μ) (hF : zF σ μ) {y : Int32} (hy : zr 0 7 y) : zp2 (zbi (fX5_fetchWord σ ) (fun σ14 v15 => zck (zin 20 29) (zbv (zsi σ14 36 ((20 : Int32).toNatClampNeg) v15) (fun σ16 => zbi (fX5_holds σ16 y) (fun σ17 v18 => if v18 = 0 then fX5_lastQuarter_130 σ17 else zck (zin 20 29) (zck (zin 19 29) (zbv (zsi σ17 36 ((19 : Int32).toNatClampNeg) (zgi σ17 36 (20 : Int32).toNatClampNeg)) (fun σ19 => fX5_lastQuarter_130 σ19)))))))) (fX12_three_88 μ y 2 (y >>> ((1 : Int32) &&& 31))) (zEnq I) := by
  unfold fX12_three_88 fX5_lastQuarter_130 fX12_three_239
  refine zp2_ifr (fun q => absurd q (by decide)) (fun _ => zp2_ifr (fun _ => ?_) (fun q => absurd rfl q))
  refine t_wzw hI h hF (fun v s t rv h1 f1 w1 w2 _ => ?_)
  have wz : zWzz s t := w2.trans w1.symm
  refine zp2_sm (t_cc f1 (h1.b (j := 1) (by decide)) hy) (fun b rb => zp2_if (fun _ => zp2_some ⟨h1, f1, wz, rfl⟩) (fun _ => ?_))
  refine zp2_ckl (zp2_ckl (zp2_bvl (fun s2 f2 => zp2_ckr (zp2_ckr (zp2_bvr (fun t2 g2 => zp2_some ?_))))))
  rw [show zgi s 36 (20 : Int32).toNatClampNeg = v from w1] at f2
  rw [show zgi t 3 (20 : Int32).toNatClampNeg = v from w2] at g2
  subst f2
  subst g2
  exact ⟨h1.upd hI [19] (zQ.wi zQ.rf rfl) (zQ.wi zQ.rf rfl) rfl (zAl1 ⟨rfl, zrg_w (by decide) (by decide) rv⟩), f1, wz, rfl⟩
theorem p_hold (hf : zr 0 255 (σ.1 36 1)) {y : Int32} (hy : zr 0 7 y) : zpc (fX5_holds σ y) (fun r => r.1 = σ ∧ (r.2 = 0 ∨ r.2 = 1)) := by
  unfold fX5_holds fX5_holds_24 fX5_holds_36 fX5_holds_44
  have k : ∀ v : Int32, (v = 0 ∨ v = 1) → zpc (zck (zbo v) (some (σ, v))) (fun r => r.1 = σ ∧ (r.2 = 0 ∨ r.2 = 1)) := fun v hv => zpc_ck (zpc_some ⟨rfl, hv⟩)
  exact zpc_ck (zpc_ck (zpc_if (fun _ => zpc_if (fun _ => zpc_if (fun _ => k 1 (Or.inr rfl)) (fun _ => k 0 (Or.inl rfl))) (fun _ => zpc_if (fun _ => k 1 (Or.inr rfl)) (fun _ => k 0 (Or.inl rfl)))) (fun _ => zpc_if (fun _ => zpc_if (fun _ => k 1 (Or.inr rfl)) (fun _ => k 0 (Or.inl rfl))) (fun _ => zpc_if (fun _ => k 1 (Or.inr rfl)) (fun _ => k 0 (Or.inl rfl))))))
theorem t_callcc (hI : zIoK I) (h : zTT I σ μ) (hF : zF σ μ) {y : Int32} (hy : zr 0 7 y) : zp2 (zbi (fX5_holds σ y) (fun σ20 v21 => zbi (fX5_callIf σ20 v21) (fun σ22 v23 => some (σ22, v23)))) (zbi (fX12_nextWord μ ) (fun σ22 v23 => zck (zin 20 1048) (zbv (zsi σ22 3 ((20 : Int32).toNatClampNeg) v23) (fun σ24 => zbi (fX12_cc σ24 y) (fun σ25 v26 => if v26 = 0 then some (σ25, (10 : Int32)) else zck (zin 19 1048) (zbu (fX12_push σ25 (zgi σ25 3 (19 : Int32).toNatClampNeg)) (fun σ27 => zck (zin 20 1048) (zck (zin 19 1048) (zbv (zsi σ27 3 ((19 : Int32).toNatClampNeg) (zgi σ27 3 (20 : Int32).toNatClampNeg)) (fun σ28 => some (σ28, (17 : Int32)))))))))))) (zEnq I) := by
  refine zp2_bil (P := fun r => fX5_holds σ y = some r) (fun r e => e) (fun s0 c eC => ?_)
  have es : s0 = σ := by
    have d := t_cc hF (h.b (j := 1) (by decide)) hy
    cases m : fX12_cc μ y with
    | none => exact (p_hold (h.b (j := 1) (by decide)) hy _ eC).1
    | some r => exact (d _ _ eC m).1
  subst es
  unfold fX5_callIf
  refine zp2_bilp (P := zEnq I) ?_ (fun s v b q => zp2_some q)
  refine t_wzw hI h hF (fun v s t rv h1 f1 w1 w2 ef => ?_)
  have wz : zWzz s t := w2.trans w1.symm
  refine zp2_bir (P := fun r => fX12_cc t y = some r) (fun r e => e) (fun t0 c' eM => ?_)
  have fx : zF s0 t := by
    unfold zF
    rw [← ef]
    exact f1
  obtain ⟨_, k2, k3, _⟩ := t_cc fx (h.b (j := 1) (by decide)) hy _ _ eC eM
  have k2 : t0 = t := k2
  have k3 : c' = c := k3
  subst k2
  subst k3
  exact zp2_if (fun _ => zp2_some ⟨h1, f1, wz, rfl⟩) (fun _ => t_callnn hI h1 f1 rv w1 w2)
/-- DI and EI -/
theorem t_ei (hI : zIoK I) (h : zTT I σ μ) (hF : zF σ μ) (hW : zWzz σ μ) (h28 : σ.1 36 28 = 0) {y : Int32} (hy : zr 6 7 y) : zp2 (fX5_exchange_211 σ y) (zck (zin 23 1048) (zbv (zsi μ 3 ((23 : Int32).toNatClampNeg) (y - 6)) (fun σ34 => zck (zin 24 1048) (zbv (zsi σ34 3 ((24 : Int32).toNatClampNeg) (y - 6)) (fun σ35 => if y = 7 then zck (zin 27 1048) (zbv (zsi σ35 3 ((27 : Int32).toNatClampNeg) 1) (fun σ36 => fX12_three_502 σ36)) else fX12_three_502 σ35))))) (zEnq I) := by
  unfold fX5_exchange_211 fX12_three_502
  refine zp2_ckl (zp2_bvl (fun s1 f1 => zp2_ckl (zp2_bvl (fun s2 f2 => zp2_ckl (zp2_bvl (fun s3 f3 => zp2_ckr (zp2_bvr (fun t1 g1 => zp2_ckr (zp2_bvr (fun t2 g2 => ?_))))))))))
  have z : ∀ v : Int32, zr 0 1 v → zTT I (zsi (zsi σ 36 23 v) 36 24 v) (zsi (zsi μ 3 23 v) 3 24 v) := fun v hv => h.upd hI [23, 24] (zQ.wi (zQ.wi zQ.rf rfl) rfl) (zQ.wi (zQ.wi zQ.rf rfl) rfl) rfl (zAl2 ⟨rfl, zrg_1 (by decide) (by decide) hv⟩ ⟨rfl, zrg_1 (by decide) (by decide) hv⟩)
  rcases zr_hd (c := 6) hy rfl with e | hy
  · subst e
    refine zp2_ifr (fun q => absurd q (by decide)) (fun _ => zp2_some ?_)
    have e3 : s3 = s2 := by
      rw [f3]
      have e : s2.1 36 28 = 0 := by rw [f2, f1]; exact h28
      have e4 : zsi s2 36 28 (s2.1 36 28) = s2 := zsi_own
      rw [e] at e4
      exact e4
    subst e3
    rw [f2, f1, g2, g1]
    exact ⟨z 0 (zr_c (by decide)), hF, hW, rfl⟩
  rcases zr_hd (c := 7) hy rfl with e | hy
  · subst e
    refine zp2_ifr (fun _ => zp2_ckr (zp2_bvr (fun t3 g3 => zp2_some ?_))) (fun q => absurd rfl q)
    rw [f3, f2, f1, g3, g2, g1]
    exact ⟨(z 1 (zr_c (by decide))).pz hI (zr_c (by decide)), hF, hW, rfl⟩
  exact zr_no9 hy (by decide)
theorem t_exch (hI : zIoK I) (hPo : zPorts I) (h : zTT I σ μ) (hF : zF σ μ) (hW : zWzz σ μ) (h28 : σ.1 36 28 = 0) {y : Int32} (hy : zr 0 7 y) (h1 : ¬ y = 1) : zp2 (fX5_exchange σ y) (fX12_three_88 μ y 3 (y >>> ((1 : Int32) &&& 31))) (zEnq I) := by
  unfold fX5_exchange fX12_three_88
  refine zp2_ifr (fun q => absurd q (by decide)) (fun _ => zp2_ifr (fun q => absurd q (by decide)) (fun _ => ?_))
  rcases zr_hd (c := 0) hy rfl with e | hy
  · subst e
    refine zp2_ifl (fun _ => zp2_ifr (fun _ => zp2_bii (t_word hI h) (fun s v t v' q => ?_)) (fun q => absurd rfl q)) (fun q => absurd rfl q)
    obtain ⟨h1, e1, rv, qc, qm⟩ := q
    have e1 : v' = v := e1
    subst e1
    refine zp2_bul p_goC (fun s2 e2 => zp2_ckr (zp2_bvr (fun t1 g1 => zp2_ckr (zp2_ckr (zp2_bvr (fun t2 g2 => zp2_some ?_))))))
    have g2 : t2 = zsi (zsi t 3 19 v') 3 20 v' := by rw [g2, g1, zsi_comm (by decide)]; rfl
    rw [e2, g2]
    exact zEnq.go hI h1 (hF.of (qc.1 36 1 rfl) (qm.1 3 1 rfl)) rv
  rcases zr_hd (c := 1) hy rfl with e | hy
  · exact absurd e h1
  rcases zr_hd (c := 2) hy rfl with e | hy
  · subst e
    refine zp2_ifl (fun q => absurd q (by decide)) (fun _ => zp2_ifl (fun q => absurd q (by decide)) (fun _ => zp2_ifl (fun _ => zp2_ifr (fun q => absurd q (by decide)) (fun _ => zp2_ifr (fun q => absurd q (by decide)) (fun _ => zp2_ifr (fun _ => ?_) (fun q => absurd rfl q)))) (fun q => absurd rfl q)))
    refine zp2_bii (t_next hI h) (fun s v t v' q => ?_)
    obtain ⟨h1, e1, rv, qc, qm⟩ := q
    have e1 : v' = v := e1
    subst e1
    refine zp2_ckl (zp2_ckr ?_)
    rw [show zgi t 3 (0 : Int32).toNatClampNeg = zgi s 36 (0 : Int32).toNatClampNeg from h1.eq (j := 0) (by decide)]
    refine zp2_buu (hPo.1 _ _ _ _ h1 rv (h1.b (j := 0) (by decide))) (fun s2 t2 q => ?_)
    obtain ⟨h2, k2⟩ := q
    refine zp2_ckl (zp2_ckl (zp2_bvl (fun s3 f3 => zp2_ckr (zp2_ckr (zp2_bvr (fun t3 g3 => zp2_some ?_))))))
    rw [f3, g3]
    exact zEnq.wz hI h2 (k2.f (hF.of (qc.1 36 1 rfl) (qm.1 3 1 rfl))) (by rw [show zgi t2 3 (0 : Int32).toNatClampNeg = zgi s2 36 (0 : Int32).toNatClampNeg from h2.eq (j := 0) (by decide)]) (z_awz (h2.b (j := 0) (by decide)))
  rcases zr_hd (c := 3) hy rfl with e | hy
  · subst e
    refine zp2_ifl (fun q => absurd q (by decide)) (fun _ => zp2_ifl (fun q => absurd q (by decide)) (fun _ => zp2_ifl (fun q => absurd q (by decide)) (fun _ => zp2_ifl (fun _ => zp2_ifr (fun q => absurd q (by decide)) (fun _ => zp2_ifr (fun q => absurd q (by decide)) (fun _ => zp2_ifr (fun q => absurd q (by decide)) (fun _ => zp2_ifr (fun _ => ?_) (fun q => absurd rfl q))))) (fun q => absurd rfl q))))
    refine zp2_bii (t_next hI h) (fun s v t v' q => ?_)
    obtain ⟨h1, e1, rv, qc, qm⟩ := q
    have e1 : v' = v := e1
    subst e1
    refine zp2_ckl (zp2_ckr ?_)
    rw [show zgi t 3 (0 : Int32).toNatClampNeg = zgi s 36 (0 : Int32).toNatClampNeg from h1.eq (j := 0) (by decide)]
    refine zp2_ckl (zp2_bvl (fun s2 f2 => zp2_ckr (zp2_bvr (fun t2 g2 => ?_))))
    have z := zEnq.wz hI h1 (hF.of (qc.1 36 1 rfl) (qm.1 3 1 rfl)) (v := ((((zgi s 36 (0 : Int32).toNatClampNeg) <<< ((8 : Int32) &&& 31)) ||| v') + 1) &&& 65535) rfl (z_r16 _) (b := 0)
    have f2 : s2 = zsi s 36 20 (((((zgi s 36 (0 : Int32).toNatClampNeg) <<< ((8 : Int32) &&& 31)) ||| v') + 1) &&& 65535) := f2
    have g2 : t2 = zsi t 3 20 (((((zgi s 36 (0 : Int32).toNatClampNeg) <<< ((8 : Int32) &&& 31)) ||| v') + 1) &&& 65535) := g2
    have z1 : zTT I s2 t2 := by rw [f2, g2]; exact z.1
    have z2 : zF s2 t2 := by rw [f2, g2]; exact z.2.1
    have z3 : zWzz s2 t2 := by rw [f2, g2]; exact z.2.2.1
    refine zp2_bii (hPo.2 _ _ _ z1 rv) (fun s3 w t3 w' q => ?_)
    obtain ⟨h3, e3, rw3, k3⟩ := q
    have e3 : w' = w := e3
    subst e3
    refine zp2_ckl (zp2_bvl (fun s4 f4 => zp2_ckr (zp2_bvr (fun t4 g4 => zp2_some ?_))))
    subst f4
    subst g4
    exact ⟨h3.upd hI [0] (zQ.wi zQ.rf rfl) (zQ.wi zQ.rf rfl) rfl (zAl1 ⟨rfl, zrg_b (Or.inl (by decide)) rw3⟩), k3.f z2, k3.w z3, rfl⟩
  rcases zr_hd (c := 4) hy rfl with e | hy
  · subst e
    refine zp2_ifl (fun q => absurd q (by decide)) (fun _ => zp2_ifl (fun q => absurd q (by decide)) (fun _ => zp2_ifl (fun q => absurd q (by decide)) (fun _ => zp2_ifl (fun q => absurd q (by decide)) (fun _ => zp2_ifl (fun _ => zp2_ifr (fun q => absurd q (by decide)) (fun _ => zp2_ifr (fun q => absurd q (by decide)) (fun _ => zp2_ifr (fun q => absurd q (by decide)) (fun _ => zp2_ifr (fun q => absurd q (by decide)) (fun _ => zp2_ifr (fun _ => ?_) (fun q => absurd rfl q)))))) (fun q => absurd rfl q)))))
    have e18 : zgi μ 3 (18 : Int32).toNatClampNeg = zgi σ 36 (18 : Int32).toNatClampNeg := h.eq (j := 18) (by decide)
    refine zp2_ckl (zp2_ckr ?_)
    rw [e18]
    refine zp2_sm (t_rword h.1 rfl) (fun v rv => zp2_ckl (zp2_ckr (zp2_sm (t_hl h) (fun w rw1 => ?_))))
    refine zp2_buu (t_wword h.1 e18 rfl rw1) (fun s3 t3 q => ?_)
    obtain ⟨hm, qc3, qm3⟩ := q
    have h3 := h.mem hI hm qc3 qm3
    refine zp2_buu (t_hlTo hI h3 rfl) (fun s4 t4 q => ?_)
    obtain ⟨h4, qc4, qm4⟩ := q
    refine zp2_ckl (zp2_bvl (fun s5 f5 => zp2_ckr (zp2_bvr (fun t5 g5 => zp2_some ?_))))
    rw [f5, g5]
    exact zEnq.wz hI h4 (hF.of ((qc4.1 36 1 rfl).trans (qc3.1 36 1 rfl)) ((qm4.1 3 1 rfl).trans (qm3.1 3 1 rfl))) rfl rv
  rcases zr_hd (c := 5) hy rfl with e | hy
  · subst e
    refine zp2_ifl (fun q => absurd q (by decide)) (fun _ => zp2_ifl (fun q => absurd q (by decide)) (fun _ => zp2_ifl (fun q => absurd q (by decide)) (fun _ => zp2_ifl (fun q => absurd q (by decide)) (fun _ => zp2_ifl (fun q => absurd q (by decide)) (fun _ => zp2_ifl (fun _ => zp2_ifr (fun q => absurd q (by decide)) (fun _ => zp2_ifr (fun q => absurd q (by decide)) (fun _ => zp2_ifr (fun q => absurd q (by decide)) (fun _ => zp2_ifr (fun q => absurd q (by decide)) (fun _ => zp2_ifr (fun q => absurd q (by decide)) (fun _ => zp2_ifr (fun _ => ?_) (fun q => absurd rfl q))))))) (fun q => absurd rfl q))))))
    have b4 : zr 0 255 (σ.1 36 4) := h.b (by decide)
    have b5 : zr 0 255 (σ.1 36 5) := h.b (by decide)
    have b6 : zr 0 255 (σ.1 36 6) := h.b (by decide)
    have b7 : zr 0 255 (σ.1 36 7) := h.b (by decide)
    have cC : zpc (zbi (fX5_pairAt σ 4) (fun σ24 v25 => zbi (fX5_pairAt σ24 6) (fun σ26 v27 => zbu (fX5_putPairAt σ26 4 v27) (fun σ28 => zbu (fX5_putPairAt σ28 6 v25) (fun σ29 => some (σ29, (4 : Int32))))))) (fun r => r = (zsi (zsi (zsi (zsi σ 36 4 (σ.1 36 6)) 36 5 (σ.1 36 7)) 36 6 (σ.1 36 4)) 36 7 (σ.1 36 5), 4)) := by
      unfold fX5_pairAt fX5_putPairAt
      refine zpc_bi (P := fun r => r = (σ, (σ.1 36 4 <<< ((8 : Int32) &&& 31)) ||| σ.1 36 5)) (zpc_ck (zpc_ck (zpc_some rfl))) (fun s v e => ?_)
      cases e
      refine zpc_bi (P := fun r => r = (σ, (σ.1 36 6 <<< ((8 : Int32) &&& 31)) ||| σ.1 36 7)) (zpc_ck (zpc_ck (zpc_some rfl))) (fun s v e => ?_)
      cases e
      refine zpc_bu (P := fun r => r = zsi (zsi σ 36 4 (σ.1 36 6)) 36 5 (σ.1 36 7)) (zpc_ck (zpc_bv (fun s es => zpc_ck (zpc_bv (fun s2 e2 => zpc_some ?_))))) (fun s3 e3 => zpc_bu (P := fun r => r = zsi (zsi s3 36 6 (σ.1 36 4)) 36 7 (σ.1 36 5)) (zpc_ck (zpc_bv (fun s es => zpc_ck (zpc_bv (fun s2 e2 => zpc_some ?_))))) (fun s4 e4 => zpc_some ?_))
      · rw [e2, es, z_hi8b b6 b7, z_lo8 b7]; rfl
      · rw [e2, es, z_hi8b b4 b5, z_lo8 b5]; rfl
      · rw [e4, e3]
    have cM : zpc (zbu (fX12_change μ 4 6) (fun σ32 => zbu (fX12_change σ32 5 7) (fun σ33 => some (σ33, (4 : Int32))))) (fun r => r = (zsi (zsi (zsi (zsi μ 3 4 (μ.1 3 6)) 3 6 (μ.1 3 4)) 3 5 (μ.1 3 7)) 3 7 (μ.1 3 5), 4)) := by
      unfold fX12_change
      refine zpc_bu (P := fun r => r = zsi (zsi μ 3 4 (μ.1 3 6)) 3 6 (μ.1 3 4)) (zpc_ck (zpc_bv (fun v ev => zpc_ck (zpc_ck (zpc_bv (fun s es => zpc_ck (zpc_bv (fun s2 e2 => zpc_some ?_)))))))) (fun s3 e3 => zpc_bu (P := fun r => r = zsi (zsi s3 3 5 (s3.1 3 7)) 3 7 (s3.1 3 5)) (zpc_ck (zpc_bv (fun v ev => zpc_ck (zpc_ck (zpc_bv (fun s es => zpc_ck (zpc_bv (fun s2 e2 => zpc_some ?_)))))))) (fun s4 e4 => zpc_some ?_))
      · rw [e2, es, ev]; rfl
      · rw [e2, es, ev]; rfl
      · rw [e4, e3]; rfl
    intro r r' er er'
    rw [cC r er, cM r' er']
    refine ⟨h.upd hI [4, 5, 6, 7] (zQ.wi (zQ.wi (zQ.wi (zQ.wi zQ.rf rfl) rfl) rfl) rfl) (zQ.wi (zQ.wi (zQ.wi (zQ.wi zQ.rf rfl) rfl) rfl) rfl) rfl (zAl4 ⟨h.eq (j := 6) (by decide), zrg_b (Or.inl (by decide)) b6⟩ ⟨h.eq (j := 7) (by decide), zrg_b (Or.inl (by decide)) b7⟩ ⟨h.eq (j := 4) (by decide), zrg_b (Or.inl (by decide)) b4⟩ ⟨h.eq (j := 5) (by decide), zrg_b (Or.inl (by decide)) b5⟩), hF, hW, rfl⟩
  have n : ∀ k : Int32, k.toInt < 6 → ¬ y = k := fun k hk e => by rw [e] at hy; have := hy.1; omega
  refine zp2_ifl (fun q => absurd q (n 0 (by decide))) (fun _ => zp2_ifl (fun q => absurd q (n 1 (by decide))) (fun _ => zp2_ifl (fun q => absurd q (n 2 (by decide))) (fun _ => zp2_ifl (fun q => absurd q (n 3 (by decide))) (fun _ => zp2_ifl (fun q => absurd q (n 4 (by decide))) (fun _ => zp2_ifl (fun q => absurd q (n 5 (by decide))) (fun _ => ?_))))))
  refine zp2_ifr (fun q => absurd q (n 0 (by decide))) (fun _ => zp2_ifr (fun q => absurd q (n 1 (by decide))) (fun _ => zp2_ifr (fun q => absurd q (n 2 (by decide))) (fun _ => zp2_ifr (fun q => absurd q (n 3 (by decide))) (fun _ => zp2_ifr (fun q => absurd q (n 4 (by decide))) (fun _ => zp2_ifr (fun q => absurd q (n 5 (by decide))) (fun _ => ?_))))))
  exact t_ei hI h hF hW h28 hy
end ZQ4
end ZJN7
section ZJN8
/-! THE LAST QUARTER, WHOLE -/
section ZQ5
variable {I : zSt → zSt → Prop} {σ μ : zSt}
theorem t_callk (hI : zIoK I) (h : zTT I σ μ) (hF : zF σ μ) {x : Int32} (hx : zr 0 65535 x) {α β : Type} {Q : α → β → Prop} {f : zSt → Option α} {g : zSt → Option β} (k : ∀ s t, zTT I s t → zF s t → zWzz s t → zQ [15, 17, 19] [(36, 18, 20)] [] [] σ s → zQ [5, 6] [(3, 18, 20), (3, 29, 32)] [] [] μ t → zp2 (f s) (g t) Q) : zp2 (zbu (fX5_push σ (zgi σ 36 (19 : Int32).toNatClampNeg)) (fun σ3 => zbu (fX5_goTo σ3 x) f)) (zbu (fX12_call μ x) g) Q := by
  have e : zbu (fX5_push σ (zgi σ 36 (19 : Int32).toNatClampNeg)) (fun σ3 => zbu (fX5_goTo σ3 x) f) = zbu (zbu (fX5_push σ (zgi σ 36 (19 : Int32).toNatClampNeg)) (fun σ3 => zbu (fX5_goTo σ3 x) (fun σ4 => some σ4))) f := by
    cases fX5_push σ (zgi σ 36 (19 : Int32).toNatClampNeg) with
    | none => rfl
    | some s =>
      show zbu (fX5_goTo s x) f = zbu (zbu (fX5_goTo s x) (fun σ4 => some σ4)) f
      cases fX5_goTo s x with
      | none => rfl
      | some t => rfl
  rw [e]
  exact zp2_buu (t_call hI h hF hx) (fun s t q => k s t q.1 q.2.1 q.2.2.1 q.2.2.2.1 q.2.2.2.2)
theorem t_l0 (hI : zIoK I) (h : zTT I σ μ) (hF : zF σ μ) (hW : zWzz σ μ) {y : Int32} (hy : zr 0 7 y) : zp2 (zbi (fX5_holds σ y) (fun σ5 v6 => if v6 = 0 then some (σ5, (5 : Int32)) else zbi (fX5_pop σ5 ) (fun σ7 v8 => zbu (fX5_goTo σ7 v8) (fun σ9 => some (σ9, 11))))) (fX12_three μ y 0) (zEnq I) := by
  unfold fX12_three
  refine zp2_bvr (fun p _ => zp2_ifr (fun _ => zp2_sm (t_cc hF (h.b (j := 1) (by decide)) hy) (fun b rb => zp2_if (fun _ => zp2_some ⟨h, hF, hW, rfl⟩) (fun _ => t_ret hI h hF))) (fun q => absurd rfl q))
theorem t_l1 (hI : zIoK I) (h : zTT I σ μ) (hF : zF σ μ) (hW : zWzz σ μ) {y : Int32} (hy : zr 0 7 y) : zp2 (if (y &&& 1) = 0 then zbi (fX5_popPair σ (y >>> ((1 : Int32) &&& 31))) (fun σ12 v13 => fX5_lastQuarter_96 σ12 v13) else zbi (fX5_leave σ (y >>> ((1 : Int32) &&& 31))) (fun σ10 v11 => fX5_lastQuarter_96 σ10 v11)) (fX12_three μ y 1) (zEnq I) := by
  obtain ⟨par, hp⟩ := z_par hy
  unfold fX12_three fX5_lastQuarter_96
  refine zp2_bvr (fun p ep => zp2_ifr (fun q => absurd q (by decide)) (fun _ => zp2_ifr (fun _ => zp2_ckr ?_) (fun q => absurd rfl q)))
  subst ep
  rcases par with ⟨e1, e2⟩ | ⟨e1, e2⟩
  · rw [e1, e2]
    exact zp2_ifl (fun _ => zp2_ifr (fun _ => zp2_bilp (t_popp hI h hF hW) (fun s v b q => zp2_some q)) (fun q => absurd rfl q)) (fun q => absurd rfl q)
  · rw [e1, e2]
    exact zp2_ifl (fun q => absurd q (by decide)) (fun _ => zp2_ifr (fun q => absurd q (by decide)) (fun _ => zp2_bilp (t_leave hI h hF hW hp) (fun s v b q => zp2_some q)))
theorem e_th2 {y z : Int32} (h0 : ¬ z = 0) (h1 : ¬ z = 1) : fX12_three μ y z = fX12_three_88 μ y z (y >>> ((1 : Int32) &&& 31)) := by
  unfold fX12_three
  show (if z = 0 then _ else (if z = 1 then _ else fX12_three_88 μ y z (y >>> ((1 : Int32) &&& 31)))) = _
  rw [if_neg h0, if_neg h1]
theorem t_l4 (hI : zIoK I) (h : zTT I σ μ) (hF : zF σ μ) {y : Int32} (hy : zr 0 7 y) : zp2 (zbi (fX5_holds σ y) (fun σ20 v21 => zbi (fX5_callIf σ20 v21) (fun σ22 v23 => some (σ22, v23)))) (fX12_more3 μ y 4) (zEnq I) := by
  unfold fX12_more3
  exact zp2_bvr (fun p _ => zp2_ifr (fun _ => t_callcc hI h hF hy) (fun q => absurd rfl q))
theorem t_l5 (hI : zIoK I) (h : zTT I σ μ) (hF : zF σ μ) (hW : zWzz σ μ) {y : Int32} (hn : y = 0 ∨ y = 1 ∨ y = 2 ∨ y = 4 ∨ y = 6) : zp2 (if (y &&& 1) = 1 then zbi (fX5_callIf σ 1) (fun σ28 v29 => some (σ28, v29)) else if y = 6 then zbi (fX5_pairAt σ 0) (fun σ26 v27 => fX5_lastQuarter_178 σ26 v27) else zbi (fX5_pair σ (y >>> ((1 : Int32) &&& 31))) (fun σ24 v25 => fX5_lastQuarter_178 σ24 v25)) (fX12_more3 μ y 5) (zEnq I) := by
  have pu : ∀ v : Int32, zr 0 65535 v → zp2 (fX5_lastQuarter_178 σ v) (fX12_more3_119 μ v) (zEnq I) := fun v rv => by
    unfold fX5_lastQuarter_178 fX12_more3_119
    refine zp2_buu (t_push hI h rfl rv) (fun s t q => zp2_some ?_)
    obtain ⟨h1, qc, qm⟩ := q
    exact ⟨h1, hF.of (qc.1 36 1 rfl) (qm.1 3 1 rfl), hW.of (qc.1 36 20 rfl) (qm.1 3 20 rfl), rfl⟩
  unfold fX12_more3
  refine zp2_bvr (fun p ep => zp2_ifr (fun q => absurd q (by decide)) (fun _ => zp2_ifr (fun q => absurd q (by decide)) (fun _ => zp2_ifr (fun q => absurd q (by decide)) (fun _ => zp2_ckr ?_))))
  subst ep
  rcases hn with e | e | e | e | e
  · subst e
    refine zp2_ifl (fun q => absurd q (by decide)) (fun _ => zp2_ifl (fun q => absurd q (by decide)) (fun _ => zp2_ifr (fun _ => zp2_ifr (fun q => absurd q (by decide)) (fun _ => ?_)) (fun q => absurd (by decide) q)))
    exact zp2_sm (t_rp h (zr_c (by decide))) (fun v rv => pu v rv)
  · subst e
    refine zp2_ifl (fun _ => zp2_ifr (fun q => absurd q (by decide)) (fun _ => zp2_ifr (fun _ => ?_) (fun q => absurd (by decide) q))) (fun q => absurd (by decide) q)
    unfold fX5_callIf
    refine zp2_bilp (P := zEnq I) ?_ (fun s v b q => zp2_some q)
    refine t_wzw hI h hF (fun v s t rv h1 f1 w1 w2 ef => ?_)
    exact zp2_ifl (fun q => absurd q (by decide)) (fun _ => t_callnn hI h1 f1 rv w1 w2)
  · subst e
    refine zp2_ifl (fun q => absurd q (by decide)) (fun _ => zp2_ifl (fun q => absurd q (by decide)) (fun _ => zp2_ifr (fun _ => zp2_ifr (fun q => absurd q (by decide)) (fun _ => ?_)) (fun q => absurd (by decide) q)))
    exact zp2_sm (t_rp h (zr_c (by decide))) (fun v rv => pu v rv)
  · subst e
    refine zp2_ifl (fun q => absurd q (by decide)) (fun _ => zp2_ifl (fun q => absurd q (by decide)) (fun _ => zp2_ifr (fun _ => zp2_ifr (fun q => absurd q (by decide)) (fun _ => ?_)) (fun q => absurd (by decide) q)))
    exact zp2_sm (t_rp h (zr_c (by decide))) (fun v rv => pu v rv)
  · subst e
    refine zp2_ifl (fun q => absurd q (by decide)) (fun _ => zp2_ifl (fun _ => zp2_ifr (fun _ => zp2_ifr (fun _ => ?_) (fun q => absurd (by decide) q)) (fun q => absurd (by decide) q)) (fun q => absurd rfl q))
    exact zp2_sm (t_pair0 h hF) (fun v rv => pu v rv)
theorem t_l6 (hI : zIoK I) (h : zTT I σ μ) (hF : zF σ μ) (hW : zWzz σ μ) {y : Int32} (hy : zr 0 7 y) : zp2 (zbi (fX5_fetch σ ) (fun σ30 v31 => zbu (fX5_doWith σ30 y v31) (fun σ32 => some (σ32, (7 : Int32))))) (fX12_more3 μ y 6) (zEnq I) := by
  unfold fX12_more3
  refine zp2_bvr (fun p _ => zp2_ifr (fun q => absurd q (by decide)) (fun _ => zp2_ifr (fun _ => zp2_bii (t_next hI h) (fun s v t v' q => ?_)) (fun q => absurd rfl q)))
  obtain ⟨h1, e1, rv, qc, qm⟩ := q
  have e1 : v' = v := e1
  subst e1
  refine zp2_buu (t_do hI h1 (hF.of (qc.1 36 1 rfl) (qm.1 3 1 rfl)) hy rv) (fun s2 t2 q2 => zp2_some ?_)
  obtain ⟨h2, f2, qc2, qm2⟩ := q2
  exact ⟨h2, f2, hW.of ((qc2.1 36 20 rfl).trans (qc.1 36 20 rfl)) ((qm2.1 3 20 rfl).trans (qm.1 3 20 rfl)), rfl⟩
theorem t_l7 (hI : zIoK I) (h : zTT I σ μ) (hF : zF σ μ) {y : Int32} (hy : zr 0 7 y) : zp2 (fX5_lastQuarter_196 σ y) (fX12_more3 μ y 7) (zEnq I) := by
  unfold fX5_lastQuarter_196 fX12_more3
  refine zp2_bvr (fun p _ => zp2_ifr (fun q => absurd q (by decide)) (fun _ => zp2_ifr (fun q => absurd q (by decide)) (fun _ => zp2_ifr (fun _ => zp2_ckl ?_) (fun q => absurd rfl q))))
  exact t_callk hI h hF (z_8y hy) (fun s t h1 f1 w1 _ _ => zp2_some ⟨h1, f1, w1, rfl⟩)
theorem t_last (hI : zIoK I) (h : zTT I σ μ) (hF : zF σ μ) (hW : zWzz σ μ) {op : Int32} (hx : op >>> ((6 : Int32) &&& 31) = 3) (h3 : ¬ op &&& 7 = 3) (hn : op &&& 7 = 5 → ((op >>> ((3 : Int32) &&& 31)) &&& 7 = 0 ∨ (op >>> ((3 : Int32) &&& 31)) &&& 7 = 1 ∨ (op >>> ((3 : Int32) &&& 31)) &&& 7 = 2 ∨ (op >>> ((3 : Int32) &&& 31)) &&& 7 = 4 ∨ (op >>> ((3 : Int32) &&& 31)) &&& 7 = 6)) : zp2 (fX5_lastQuarter σ op) (fX12_plain μ op) (zEnq I) := by
  have hy : zr 0 7 ((op >>> ((3 : Int32) &&& 31)) &&& 7) := z_r7 _
  have hz : zr 0 7 (op &&& 7) := z_r7 _
  unfold fX5_lastQuarter fX12_plain fX12_plain_160
  rw [hx]
  refine zp2_bvl (fun y ey => zp2_bvr (fun y' ey' => zp2_bvr (fun z ez => zp2_ifr (fun q => absurd q (by decide)) (fun _ => zp2_ifr (fun q => absurd q (by decide)) (fun _ => zp2_ifr (fun q => absurd q (by decide)) (fun _ => ?_))))))
  rw [← ey] at ey' hy hn
  subst ey'
  rw [← ez] at hz hn h3 ⊢
  clear ez
  rcases zr_hd (c := 0) hz rfl with e | hz
  · subst e
    exact zp2_ifl (fun _ => zp2_ifr (fun q => absurd q (by decide)) (fun _ => zp2_birp (t_l0 hI h hF hW hy) (fun a t w q => zp2_some q))) (fun q => absurd rfl q)
  rcases zr_hd (c := 1) hz rfl with e | hz
  · subst e
    exact zp2_ifl (fun q => absurd q (by decide)) (fun _ => zp2_ifl (fun _ => zp2_ifr (fun q => absurd q (by decide)) (fun _ => zp2_birp (t_l1 hI h hF hW hy) (fun a t w q => zp2_some q))) (fun q => absurd rfl q))
  rcases zr_hd (c := 2) hz rfl with e | hz
  · subst e
    rw [e_th2 (by decide) (by decide)]
    exact zp2_ifl (fun q => absurd q (by decide)) (fun _ => zp2_ifl (fun q => absurd q (by decide)) (fun _ => zp2_ifl (fun _ => zp2_ifr (fun q => absurd q (by decide)) (fun _ => zp2_birp (t_jpcc hI h hF hy) (fun a t w q => zp2_some q))) (fun q => absurd rfl q)))
  rcases zr_hd (c := 3) hz rfl with e | hz
  · exact absurd e h3
  rcases zr_hd (c := 4) hz rfl with e | hz
  · subst e
    exact zp2_ifl (fun q => absurd q (by decide)) (fun _ => zp2_ifl (fun q => absurd q (by decide)) (fun _ => zp2_ifl (fun q => absurd q (by decide)) (fun _ => zp2_ifl (fun q => absurd q (by decide)) (fun _ => zp2_ifl (fun _ => zp2_ifr (fun _ => zp2_birp (t_l4 hI h hF hy) (fun a t w q => zp2_some q)) (fun q => absurd (by decide) q)) (fun q => absurd rfl q)))))
  rcases zr_hd (c := 5) hz rfl with e | hz
  · subst e
    exact zp2_ifl (fun q => absurd q (by decide)) (fun _ => zp2_ifl (fun q => absurd q (by decide)) (fun _ => zp2_ifl (fun q => absurd q (by decide)) (fun _ => zp2_ifl (fun q => absurd q (by decide)) (fun _ => zp2_ifl (fun q => absurd q (by decide)) (fun _ => zp2_ifl (fun _ => zp2_ifr (fun _ => zp2_birp (t_l5 hI h hF hW (hn rfl)) (fun a t w q => zp2_some q)) (fun q => absurd (by decide) q)) (fun q => absurd rfl q))))))
  rcases zr_hd (c := 6) hz rfl with e | hz
  · subst e
    exact zp2_ifl (fun q => absurd q (by decide)) (fun _ => zp2_ifl (fun q => absurd q (by decide)) (fun _ => zp2_ifl (fun q => absurd q (by decide)) (fun _ => zp2_ifl (fun q => absurd q (by decide)) (fun _ => zp2_ifl (fun q => absurd q (by decide)) (fun _ => zp2_ifl (fun q => absurd q (by decide)) (fun _ => zp2_ifl (fun _ => zp2_ifr (fun _ => zp2_birp (t_l6 hI h hF hW hy) (fun a t w q => zp2_some q)) (fun q => absurd (by decide) q)) (fun q => absurd rfl q)))))))
  rcases zr_hd (c := 7) hz rfl with e | hz
  · subst e
    exact zp2_ifl (fun q => absurd q (by decide)) (fun _ => zp2_ifl (fun q => absurd q (by decide)) (fun _ => zp2_ifl (fun q => absurd q (by decide)) (fun _ => zp2_ifl (fun q => absurd q (by decide)) (fun _ => zp2_ifl (fun q => absurd q (by decide)) (fun _ => zp2_ifl (fun q => absurd q (by decide)) (fun _ => zp2_ifl (fun q => absurd q (by decide)) (fun _ => zp2_ifr (fun _ => zp2_birp (t_l7 hI h hF hy) (fun a t w q => zp2_some q)) (fun q => absurd (by decide) q))))))))
  exact zr_no9 hz (by decide)
theorem t_lx (hI : zIoK I) (hPo : zPorts I) (h : zTT I σ μ) (hF : zF σ μ) (hW : zWzz σ μ) (h28 : σ.1 36 28 = 0) {op : Int32} (hx : op >>> ((6 : Int32) &&& 31) = 3) (h3 : op &&& 7 = 3) (hn : ¬ (op >>> ((3 : Int32) &&& 31)) &&& 7 = 1) : zp2 (fX5_exchange σ ((op >>> ((3 : Int32) &&& 31)) &&& 7)) (fX12_plain μ op) (zEnq I) := by
  unfold fX12_plain fX12_plain_160
  rw [hx, h3]
  refine zp2_bvr (fun y' ey' => zp2_bvr (fun z ez => zp2_ifr (fun q => absurd q (by decide)) (fun _ => zp2_ifr (fun q => absurd q (by decide)) (fun _ => zp2_ifr (fun q => absurd q (by decide)) (fun _ => ?_)))))
  subst ey'
  subst ez
  refine zp2_ifr (fun q => absurd q (by decide)) (fun _ => ?_)
  rw [e_th2 (by decide) (by decide)]
  exact zp2_birp (t_exch hI hPo h hF hW h28 (z_r7 _) hn) (fun a t w q => zp2_some q)
theorem t_l4_r1 (hI : zIoK I) (h : zTT I σ μ) (hF : zF σ μ) {y : Int32} (hy : zr 0 7 y) : zp2 (zbi (fX5_holds σ y) (fun σ20 v21 => zbi (fX5_callIf σ20 v21) (fun σ22 v23 => some (σ22, v23)))) (fX12_more3_r1 μ y 4) (zEnq I) := by
  unfold fX12_more3_r1
  exact zp2_bvr (fun p _ => zp2_ifr (fun _ => t_callcc hI h hF hy) (fun q => absurd rfl q))
theorem t_l5_r1 (hI : zIoK I) (h : zTT I σ μ) (hF : zF σ μ) (hW : zWzz σ μ) {y : Int32} (hn : y = 0 ∨ y = 1 ∨ y = 2 ∨ y = 4 ∨ y = 6) : zp2 (if (y &&& 1) = 1 then zbi (fX5_callIf σ 1) (fun σ28 v29 => some (σ28, v29)) else if y = 6 then zbi (fX5_pairAt σ 0) (fun σ26 v27 => fX5_lastQuarter_178 σ26 v27) else zbi (fX5_pair σ (y >>> ((1 : Int32) &&& 31))) (fun σ24 v25 => fX5_lastQuarter_178 σ24 v25)) (fX12_more3_r1 μ y 5) (zEnq I) := by
  have pu : ∀ v : Int32, zr 0 65535 v → zp2 (fX5_lastQuarter_178 σ v) (fX12_more3_r1_119 μ v) (zEnq I) := fun v rv => by
    unfold fX5_lastQuarter_178 fX12_more3_r1_119
    refine zp2_buu (t_push hI h rfl rv) (fun s t q => zp2_some ?_)
    obtain ⟨h1, qc, qm⟩ := q
    exact ⟨h1, hF.of (qc.1 36 1 rfl) (qm.1 3 1 rfl), hW.of (qc.1 36 20 rfl) (qm.1 3 20 rfl), rfl⟩
  unfold fX12_more3_r1
  refine zp2_bvr (fun p ep => zp2_ifr (fun q => absurd q (by decide)) (fun _ => zp2_ifr (fun q => absurd q (by decide)) (fun _ => zp2_ifr (fun q => absurd q (by decide)) (fun _ => zp2_ckr ?_))))
  subst ep
  rcases hn with e | e | e | e | e
  · subst e
    refine zp2_ifl (fun q => absurd q (by decide)) (fun _ => zp2_ifl (fun q => absurd q (by decide)) (fun _ => zp2_ifr (fun _ => zp2_ifr (fun q => absurd q (by decide)) (fun _ => ?_)) (fun q => absurd (by decide) q)))
    exact zp2_sm (t_rp h (zr_c (by decide))) (fun v rv => pu v rv)
  · subst e
    refine zp2_ifl (fun _ => zp2_ifr (fun q => absurd q (by decide)) (fun _ => zp2_ifr (fun _ => ?_) (fun q => absurd (by decide) q))) (fun q => absurd (by decide) q)
    unfold fX5_callIf
    refine zp2_bilp (P := zEnq I) ?_ (fun s v b q => zp2_some q)
    refine t_wzw hI h hF (fun v s t rv h1 f1 w1 w2 ef => ?_)
    exact zp2_ifl (fun q => absurd q (by decide)) (fun _ => t_callnn hI h1 f1 rv w1 w2)
  · subst e
    refine zp2_ifl (fun q => absurd q (by decide)) (fun _ => zp2_ifl (fun q => absurd q (by decide)) (fun _ => zp2_ifr (fun _ => zp2_ifr (fun q => absurd q (by decide)) (fun _ => ?_)) (fun q => absurd (by decide) q)))
    exact zp2_sm (t_rp h (zr_c (by decide))) (fun v rv => pu v rv)
  · subst e
    refine zp2_ifl (fun q => absurd q (by decide)) (fun _ => zp2_ifl (fun q => absurd q (by decide)) (fun _ => zp2_ifr (fun _ => zp2_ifr (fun q => absurd q (by decide)) (fun _ => ?_)) (fun q => absurd (by decide) q)))
    exact zp2_sm (t_rp h (zr_c (by decide))) (fun v rv => pu v rv)
  · subst e
    refine zp2_ifl (fun q => absurd q (by decide)) (fun _ => zp2_ifl (fun _ => zp2_ifr (fun _ => zp2_ifr (fun _ => ?_) (fun q => absurd (by decide) q)) (fun q => absurd (by decide) q)) (fun q => absurd rfl q))
    exact zp2_sm (t_pair0 h hF) (fun v rv => pu v rv)
theorem t_l6_r1 (hI : zIoK I) (h : zTT I σ μ) (hF : zF σ μ) (hW : zWzz σ μ) {y : Int32} (hy : zr 0 7 y) : zp2 (zbi (fX5_fetch σ ) (fun σ30 v31 => zbu (fX5_doWith σ30 y v31) (fun σ32 => some (σ32, (7 : Int32))))) (fX12_more3_r1 μ y 6) (zEnq I) := by
  unfold fX12_more3_r1
  refine zp2_bvr (fun p _ => zp2_ifr (fun q => absurd q (by decide)) (fun _ => zp2_ifr (fun _ => zp2_bii (t_next hI h) (fun s v t v' q => ?_)) (fun q => absurd rfl q)))
  obtain ⟨h1, e1, rv, qc, qm⟩ := q
  have e1 : v' = v := e1
  subst e1
  refine zp2_buu (t_do hI h1 (hF.of (qc.1 36 1 rfl) (qm.1 3 1 rfl)) hy rv) (fun s2 t2 q2 => zp2_some ?_)
  obtain ⟨h2, f2, qc2, qm2⟩ := q2
  exact ⟨h2, f2, hW.of ((qc2.1 36 20 rfl).trans (qc.1 36 20 rfl)) ((qm2.1 3 20 rfl).trans (qm.1 3 20 rfl)), rfl⟩
theorem t_l7_r1 (hI : zIoK I) (h : zTT I σ μ) (hF : zF σ μ) {y : Int32} (hy : zr 0 7 y) : zp2 (fX5_lastQuarter_196 σ y) (fX12_more3_r1 μ y 7) (zEnq I) := by
  unfold fX5_lastQuarter_196 fX12_more3_r1
  refine zp2_bvr (fun p _ => zp2_ifr (fun q => absurd q (by decide)) (fun _ => zp2_ifr (fun q => absurd q (by decide)) (fun _ => zp2_ifr (fun _ => zp2_ckl ?_) (fun q => absurd rfl q))))
  exact t_callk hI h hF (z_8y hy) (fun s t h1 f1 w1 _ _ => zp2_some ⟨h1, f1, w1, rfl⟩)
theorem t_last_r1 (hI : zIoK I) (h : zTT I σ μ) (hF : zF σ μ) (hW : zWzz σ μ) {op : Int32} (hx : op >>> ((6 : Int32) &&& 31) = 3) (h3 : ¬ op &&& 7 = 3) (hn : op &&& 7 = 5 → ((op >>> ((3 : Int32) &&& 31)) &&& 7 = 0 ∨ (op >>> ((3 : Int32) &&& 31)) &&& 7 = 1 ∨ (op >>> ((3 : Int32) &&& 31)) &&& 7 = 2 ∨ (op >>> ((3 : Int32) &&& 31)) &&& 7 = 4 ∨ (op >>> ((3 : Int32) &&& 31)) &&& 7 = 6)) : zp2 (fX5_lastQuarter σ op) (fX12_plain_r1 μ op) (zEnq I) := by
  have hy : zr 0 7 ((op >>> ((3 : Int32) &&& 31)) &&& 7) := z_r7 _
  have hz : zr 0 7 (op &&& 7) := z_r7 _
  unfold fX5_lastQuarter fX12_plain_r1 fX12_plain_r1_160
  rw [hx]
  refine zp2_bvl (fun y ey => zp2_bvr (fun y' ey' => zp2_bvr (fun z ez => zp2_ifr (fun q => absurd q (by decide)) (fun _ => zp2_ifr (fun q => absurd q (by decide)) (fun _ => zp2_ifr (fun q => absurd q (by decide)) (fun _ => ?_))))))
  rw [← ey] at ey' hy hn
  subst ey'
  rw [← ez] at hz hn h3 ⊢
  clear ez
  rcases zr_hd (c := 0) hz rfl with e | hz
  · subst e
    exact zp2_ifl (fun _ => zp2_ifr (fun q => absurd q (by decide)) (fun _ => zp2_birp (t_l0 hI h hF hW hy) (fun a t w q => zp2_some q))) (fun q => absurd rfl q)
  rcases zr_hd (c := 1) hz rfl with e | hz
  · subst e
    exact zp2_ifl (fun q => absurd q (by decide)) (fun _ => zp2_ifl (fun _ => zp2_ifr (fun q => absurd q (by decide)) (fun _ => zp2_birp (t_l1 hI h hF hW hy) (fun a t w q => zp2_some q))) (fun q => absurd rfl q))
  rcases zr_hd (c := 2) hz rfl with e | hz
  · subst e
    rw [e_th2 (by decide) (by decide)]
    exact zp2_ifl (fun q => absurd q (by decide)) (fun _ => zp2_ifl (fun q => absurd q (by decide)) (fun _ => zp2_ifl (fun _ => zp2_ifr (fun q => absurd q (by decide)) (fun _ => zp2_birp (t_jpcc hI h hF hy) (fun a t w q => zp2_some q))) (fun q => absurd rfl q)))
  rcases zr_hd (c := 3) hz rfl with e | hz
  · exact absurd e h3
  rcases zr_hd (c := 4) hz rfl with e | hz
  · subst e
    exact zp2_ifl (fun q => absurd q (by decide)) (fun _ => zp2_ifl (fun q => absurd q (by decide)) (fun _ => zp2_ifl (fun q => absurd q (by decide)) (fun _ => zp2_ifl (fun q => absurd q (by decide)) (fun _ => zp2_ifl (fun _ => zp2_ifr (fun _ => zp2_birp (t_l4_r1 hI h hF hy) (fun a t w q => zp2_some q)) (fun q => absurd (by decide) q)) (fun q => absurd rfl q)))))
  rcases zr_hd (c := 5) hz rfl with e | hz
  · subst e
    exact zp2_ifl (fun q => absurd q (by decide)) (fun _ => zp2_ifl (fun q => absurd q (by decide)) (fun _ => zp2_ifl (fun q => absurd q (by decide)) (fun _ => zp2_ifl (fun q => absurd q (by decide)) (fun _ => zp2_ifl (fun q => absurd q (by decide)) (fun _ => zp2_ifl (fun _ => zp2_ifr (fun _ => zp2_birp (t_l5_r1 hI h hF hW (hn rfl)) (fun a t w q => zp2_some q)) (fun q => absurd (by decide) q)) (fun q => absurd rfl q))))))
  rcases zr_hd (c := 6) hz rfl with e | hz
  · subst e
    exact zp2_ifl (fun q => absurd q (by decide)) (fun _ => zp2_ifl (fun q => absurd q (by decide)) (fun _ => zp2_ifl (fun q => absurd q (by decide)) (fun _ => zp2_ifl (fun q => absurd q (by decide)) (fun _ => zp2_ifl (fun q => absurd q (by decide)) (fun _ => zp2_ifl (fun q => absurd q (by decide)) (fun _ => zp2_ifl (fun _ => zp2_ifr (fun _ => zp2_birp (t_l6_r1 hI h hF hW hy) (fun a t w q => zp2_some q)) (fun q => absurd (by decide) q)) (fun q => absurd rfl q)))))))
  rcases zr_hd (c := 7) hz rfl with e | hz
  · subst e
    exact zp2_ifl (fun q => absurd q (by decide)) (fun _ => zp2_ifl (fun q => absurd q (by decide)) (fun _ => zp2_ifl (fun q => absurd q (by decide)) (fun _ => zp2_ifl (fun q => absurd q (by decide)) (fun _ => zp2_ifl (fun q => absurd q (by decide)) (fun _ => zp2_ifl (fun q => absurd q (by decide)) (fun _ => zp2_ifl (fun q => absurd q (by decide)) (fun _ => zp2_ifr (fun _ => zp2_birp (t_l7_r1 hI h hF hy) (fun a t w q => zp2_some q)) (fun q => absurd (by decide) q))))))))
  exact zr_no9 hz (by decide)
theorem t_lx_r1 (hI : zIoK I) (hPo : zPorts I) (h : zTT I σ μ) (hF : zF σ μ) (hW : zWzz σ μ) (h28 : σ.1 36 28 = 0) {op : Int32} (hx : op >>> ((6 : Int32) &&& 31) = 3) (h3 : op &&& 7 = 3) (hn : ¬ (op >>> ((3 : Int32) &&& 31)) &&& 7 = 1) : zp2 (fX5_exchange σ ((op >>> ((3 : Int32) &&& 31)) &&& 7)) (fX12_plain_r1 μ op) (zEnq I) := by
  unfold fX12_plain_r1 fX12_plain_r1_160
  rw [hx, h3]
  refine zp2_bvr (fun y' ey' => zp2_bvr (fun z ez => zp2_ifr (fun q => absurd q (by decide)) (fun _ => zp2_ifr (fun q => absurd q (by decide)) (fun _ => zp2_ifr (fun q => absurd q (by decide)) (fun _ => ?_)))))
  subst ey'
  subst ez
  refine zp2_ifr (fun q => absurd q (by decide)) (fun _ => ?_)
  rw [e_th2 (by decide) (by decide)]
  exact zp2_birp (t_exch hI hPo h hF hW h28 (z_r7 _) hn) (fun a t w q => zp2_some q)
end ZQ5
end ZJN8
section ZJN9
/-! CB -/
theorem v_1y : ∀ i : Fin 8, 0 ≤ ((1 : Int32) <<< (Int32.ofNat i.val &&& 31)).toInt ∧ ((1 : Int32) <<< (Int32.ofNat i.val &&& 31)).toInt ≤ 255 := by decide
theorem z_1y {y : Int32} (h : zr 0 7 y) : zr 0 255 (1 <<< (y &&& 31)) := by
  obtain ⟨i, e⟩ := z_fin8 h
  subst e
  exact v_1y i
def cbit (f w s : Int32) : Int32 := ((((f &&& 1) ||| (w &&& 128)) ||| (if w = 0 then 68 else 0)) ||| 16) ||| (s &&& 40)
theorem v_bitf : ∀ i : Fin 256, ∀ c x y : Bool, zfl (d7 (Int32.ofNat i.val)) (d6 (Int32.ofNat i.val)) x true y (bc (if Int32.ofNat i.val = 0 then 1 else 0)) false c = ((((bif c then 1 else 0) ||| (Int32.ofNat i.val &&& 128)) ||| (if Int32.ofNat i.val = 0 then 68 else 0)) ||| 16) ||| ((bif x then 32 else 0) ||| (bif y then 8 else 0)) := by decide +kernel
theorem v_bit {f w s : Int32} (hf : zr 0 255 f) (hw : zr 0 255 w) (hs : zr 0 255 s) : gxy (pt (pt (pt (gby f w) 2 (if w = 0 then 1 else 0)) 4 1) 1 0) s = cbit f w s := by
  unfold cbit
  rw [z_40 hs, z_f1 hf]
  obtain ⟨i, e⟩ := z_byteF hw
  subst e
  rw [← v_bitf i]
  conv => lhs; rw [fl_of hf, fl_by, pt_2, pt_4, pt_1, fl_xy]
  rfl
theorem r_bit {f w s : Int32} (hf : zr 0 255 f) (hw : zr 0 255 w) (hs : zr 0 255 s) : zr 0 255 (cbit f w s) := by
  rw [← v_bit hf hw hs, fl_of hf, fl_by, pt_2, pt_4, pt_1, fl_xy]
  exact zfl_r _ _ _ _ _ _ _ _
section ZCB
variable {I : zSt → zSt → Prop} {σ μ : zSt}
theorem zTT.m33 (hI : zIoK I) (h : zTT I σ μ) {w : Int32} : zTT I σ (zsi μ 0 33 w) := ⟨h.1.keep zQ.rf (zQ.wi zQ.rf rfl), ⟨fun j a b c => h.2.1.1 j a b c, h.2.1.2.1, h.2.1.2.2.1, h.2.1.2.2.2⟩, h.2.2.1.of rfl rfl, hI _ _ _ _ h.2.2.2 zQ.rf (zQ.wi zQ.rf rfl)⟩
theorem p_bitC {y v s : Int32} : zpc (fX5_askBit σ y v s) (fun r => r = zsi σ 36 1 (cbit (σ.1 36 1) (v &&& (1 <<< (y &&& 31))) s)) := by
  unfold fX5_askBit cbit
  refine zpc_bv (fun w ew => zpc_ck ?_)
  subst ew
  refine zpc_jx (K := fun x => fX5_askBit_38 σ s x (((zgi σ 36 (1 : Int32).toNatClampNeg) &&& 1) ||| ((v &&& ((1 : Int32) <<< (y &&& 31))) &&& 128)) 1) (a := 68) (b := 0) rfl rfl (fun x ex => ?_)
  unfold fX5_askBit_38
  refine zpc_ck (zpc_bv (fun t et => zpc_some ?_))
  rw [et, ex]
  rfl
theorem p_bitM {f z v w : Int32} : zpc (if w = 0 then fX12_turn_69 (zsi μ 3 1 f) z v 1 2 else fX12_turn_69 (zsi μ 3 1 f) z v 0 2) (fun r => r = (zsi μ 3 1 (gxy (pt (pt (pt f 2 (if w = 0 then 1 else 0)) 4 1) 1 0) (if z = 6 then μ.1 3 20 >>> ((8 : Int32) &&& 31) else v)), if z = 6 then 12 else 8)) := by
  refine zpc_jx (K := fun x => fX12_turn_69 (zsi μ 3 1 f) z v x 2) (a := 1) (b := 0) rfl rfl (fun x ex => ?_)
  unfold fX12_turn_69 fX12_turn_106 fX12_turn_122
  refine zpc_bu p_put (fun s e => ?_)
  subst e
  refine zpc_bu p_put (fun s e => ?_)
  subst e
  refine zpc_bu p_put (fun s e => ?_)
  subst e
  refine zpc_if (fun q => zpc_ck (zpc_bu p_xy (fun s e => zpc_if (fun _ => zpc_some ?_) (fun r => absurd q r)))) (fun q => zpc_bu p_xy (fun s e => zpc_if (fun r => absurd r q) (fun _ => zpc_some ?_)))
  · rw [e, ex, if_pos q, if_pos q]; rfl
  · rw [e, ex, if_neg q, if_neg q]
theorem t_rot0 (hI : zIoK I) (h : zTT I σ μ) (hF : zF σ μ) {v : Int32} (rv : zr 0 255 v) {α β : Type} {Q : α → β → Prop} {f : zSt → Int32 → Option α} {g : zSt → Int32 → Option β} (k : ∀ s t w, zTT I s t → zF s t → zQ [] [(36, 1, 1)] [] [] σ s → zQ [] [(3, 1, 1)] [] [] μ t → zr 0 255 w → zp2 (f s w) (g t w) Q) : zp2 (zbi (fX5_turn σ 0 v) f) (zbi (fX12_turned μ 0 v) (fun σ10 v11 => zbu (fX12_by σ10 v11) (fun σ12 => zbi (fX12_isEven σ12 v11) (fun σ13 v14 => zbu (fX12_put σ13 2 v14) (fun σ15 => zbu (fX12_put σ15 4 0) (fun σ16 => zbu (fX12_put σ16 1 0) (fun σ17 => g σ17 v11))))))) Q := by
  have ef : μ.1 3 1 = σ.1 36 1 := hF
  have hf : zr 0 255 (σ.1 36 1) := h.b (by decide)
  have hwo : zr 0 255 (((v <<< ((1 : Int32) &&& 31)) &&& 255) ||| (v >>> ((7 : Int32) &&& 31))) ∧ zr 0 1 (v >>> ((7 : Int32) &&& 31)) := by
    obtain ⟨i, ei⟩ := z_byteF rv
    obtain ⟨m, em⟩ := z_bit1 (z_r1 (σ.1 36 1))
    rw [ei]
    exact ⟨(v_rotf0 i m).1, (v_rotf0 i m).2⟩
  have cM := p_rotM0 (μ := μ) (v := v)
  rw [ef] at cM
  refine zp2_bil p_rotC0 (fun s w1 e => zp2_bir cM (fun t w2 e' => ?_))
  cases e
  cases e'
  obtain ⟨rw1, ro⟩ := hwo
  generalize ((v <<< ((1 : Int32) &&& 31)) &&& 255) ||| (v >>> ((7 : Int32) &&& 31)) = w at rw1
  refine zp2_bur p_by (fun t2 e2 => ?_)
  subst e2
  refine zp2_bir p_even (fun t3 v3 e3 => ?_)
  cases e3
  refine zp2_bur p_put (fun t2 e2 => ?_)
  subst e2
  refine zp2_bur p_put (fun t2 e2 => ?_)
  subst e2
  refine zp2_bur p_put (fun t2 e2 => ?_)
  have eF : pt (pt (pt (gby (pt (σ.1 36 1) 0 (if v >>> ((7 : Int32) &&& 31) = 1 then 1 else 0)) w) 2 (gev w)) 4 0) 1 0 = crot w (v >>> ((7 : Int32) &&& 31)) := by
    rw [← v_rt rw1 ro, fl_of hf, pt_0, fl_by, pt_2, pt_4, pt_1]
    rfl
  rw [eF] at e2
  subst e2
  have rF : zr 0 255 (crot w (v >>> ((7 : Int32) &&& 31))) := by rw [← v_rt rw1 ro]; exact zfl_r _ _ _ _ _ _ _ _
  exact k _ _ w ((h.onC hI (Or.inl rfl) (zrg_b (Or.inl (by decide)) rF)).onM hI (Or.inl rfl)) rfl (zQ.wi zQ.rf rfl) (zQ.wi zQ.rf rfl) rw1
theorem t_rot1 (hI : zIoK I) (h : zTT I σ μ) (hF : zF σ μ) {v : Int32} (rv : zr 0 255 v) {α β : Type} {Q : α → β → Prop} {f : zSt → Int32 → Option α} {g : zSt → Int32 → Option β} (k : ∀ s t w, zTT I s t → zF s t → zQ [] [(36, 1, 1)] [] [] σ s → zQ [] [(3, 1, 1)] [] [] μ t → zr 0 255 w → zp2 (f s w) (g t w) Q) : zp2 (zbi (fX5_turn σ 1 v) f) (zbi (fX12_turned μ 1 v) (fun σ10 v11 => zbu (fX12_by σ10 v11) (fun σ12 => zbi (fX12_isEven σ12 v11) (fun σ13 v14 => zbu (fX12_put σ13 2 v14) (fun σ15 => zbu (fX12_put σ15 4 0) (fun σ16 => zbu (fX12_put σ16 1 0) (fun σ17 => g σ17 v11))))))) Q := by
  have ef : μ.1 3 1 = σ.1 36 1 := hF
  have hf : zr 0 255 (σ.1 36 1) := h.b (by decide)
  have hwo : zr 0 255 ((v >>> ((1 : Int32) &&& 31)) ||| ((v &&& 1) <<< ((7 : Int32) &&& 31))) ∧ zr 0 1 (v &&& 1) := by
    obtain ⟨i, ei⟩ := z_byteF rv
    obtain ⟨m, em⟩ := z_bit1 (z_r1 (σ.1 36 1))
    rw [ei]
    exact ⟨(v_rotf1 i m).1, (v_rotf1 i m).2⟩
  have cM := p_rotM1 (μ := μ) (v := v)
  rw [ef] at cM
  refine zp2_bil p_rotC1 (fun s w1 e => zp2_bir cM (fun t w2 e' => ?_))
  cases e
  cases e'
  obtain ⟨rw1, ro⟩ := hwo
  generalize (v >>> ((1 : Int32) &&& 31)) ||| ((v &&& 1) <<< ((7 : Int32) &&& 31)) = w at rw1
  refine zp2_bur p_by (fun t2 e2 => ?_)
  subst e2
  refine zp2_bir p_even (fun t3 v3 e3 => ?_)
  cases e3
  refine zp2_bur p_put (fun t2 e2 => ?_)
  subst e2
  refine zp2_bur p_put (fun t2 e2 => ?_)
  subst e2
  refine zp2_bur p_put (fun t2 e2 => ?_)
  have eF : pt (pt (pt (gby (pt (σ.1 36 1) 0 (if v &&& 1 = 1 then 1 else 0)) w) 2 (gev w)) 4 0) 1 0 = crot w (v &&& 1) := by
    rw [← v_rt rw1 ro, fl_of hf, pt_0, fl_by, pt_2, pt_4, pt_1]
    rfl
  rw [eF] at e2
  subst e2
  have rF : zr 0 255 (crot w (v &&& 1)) := by rw [← v_rt rw1 ro]; exact zfl_r _ _ _ _ _ _ _ _
  exact k _ _ w ((h.onC hI (Or.inl rfl) (zrg_b (Or.inl (by decide)) rF)).onM hI (Or.inl rfl)) rfl (zQ.wi zQ.rf rfl) (zQ.wi zQ.rf rfl) rw1
theorem t_rot2 (hI : zIoK I) (h : zTT I σ μ) (hF : zF σ μ) {v : Int32} (rv : zr 0 255 v) {α β : Type} {Q : α → β → Prop} {f : zSt → Int32 → Option α} {g : zSt → Int32 → Option β} (k : ∀ s t w, zTT I s t → zF s t → zQ [] [(36, 1, 1)] [] [] σ s → zQ [] [(3, 1, 1)] [] [] μ t → zr 0 255 w → zp2 (f s w) (g t w) Q) : zp2 (zbi (fX5_turn σ 2 v) f) (zbi (fX12_turned μ 2 v) (fun σ10 v11 => zbu (fX12_by σ10 v11) (fun σ12 => zbi (fX12_isEven σ12 v11) (fun σ13 v14 => zbu (fX12_put σ13 2 v14) (fun σ15 => zbu (fX12_put σ15 4 0) (fun σ16 => zbu (fX12_put σ16 1 0) (fun σ17 => g σ17 v11))))))) Q := by
  have ef : μ.1 3 1 = σ.1 36 1 := hF
  have hf : zr 0 255 (σ.1 36 1) := h.b (by decide)
  have hwo : zr 0 255 (((v <<< ((1 : Int32) &&& 31)) &&& 255) ||| (σ.1 36 1 &&& 1)) ∧ zr 0 1 (v >>> ((7 : Int32) &&& 31)) := by
    obtain ⟨i, ei⟩ := z_byteF rv
    obtain ⟨m, em⟩ := z_bit1 (z_r1 (σ.1 36 1))
    rw [em, ei]
    exact ⟨(v_rotf2 i m).1, (v_rotf2 i m).2⟩
  have cM := p_rotM2 (μ := μ) (v := v)
  rw [ef, z_c0 hf] at cM
  refine zp2_bil p_rotC2 (fun s w1 e => zp2_bir cM (fun t w2 e' => ?_))
  cases e
  cases e'
  obtain ⟨rw1, ro⟩ := hwo
  generalize ((v <<< ((1 : Int32) &&& 31)) &&& 255) ||| (σ.1 36 1 &&& 1) = w at rw1
  refine zp2_bur p_by (fun t2 e2 => ?_)
  subst e2
  refine zp2_bir p_even (fun t3 v3 e3 => ?_)
  cases e3
  refine zp2_bur p_put (fun t2 e2 => ?_)
  subst e2
  refine zp2_bur p_put (fun t2 e2 => ?_)
  subst e2
  refine zp2_bur p_put (fun t2 e2 => ?_)
  have eF : pt (pt (pt (gby (pt (σ.1 36 1) 0 (if v >>> ((7 : Int32) &&& 31) = 1 then 1 else 0)) w) 2 (gev w)) 4 0) 1 0 = crot w (v >>> ((7 : Int32) &&& 31)) := by
    rw [← v_rt rw1 ro, fl_of hf, pt_0, fl_by, pt_2, pt_4, pt_1]
    rfl
  rw [eF] at e2
  subst e2
  have rF : zr 0 255 (crot w (v >>> ((7 : Int32) &&& 31))) := by rw [← v_rt rw1 ro]; exact zfl_r _ _ _ _ _ _ _ _
  exact k _ _ w ((h.onC hI (Or.inl rfl) (zrg_b (Or.inl (by decide)) rF)).onM hI (Or.inl rfl)) rfl (zQ.wi zQ.rf rfl) (zQ.wi zQ.rf rfl) rw1
theorem t_rot3 (hI : zIoK I) (h : zTT I σ μ) (hF : zF σ μ) {v : Int32} (rv : zr 0 255 v) {α β : Type} {Q : α → β → Prop} {f : zSt → Int32 → Option α} {g : zSt → Int32 → Option β} (k : ∀ s t w, zTT I s t → zF s t → zQ [] [(36, 1, 1)] [] [] σ s → zQ [] [(3, 1, 1)] [] [] μ t → zr 0 255 w → zp2 (f s w) (g t w) Q) : zp2 (zbi (fX5_turn σ 3 v) f) (zbi (fX12_turned μ 3 v) (fun σ10 v11 => zbu (fX12_by σ10 v11) (fun σ12 => zbi (fX12_isEven σ12 v11) (fun σ13 v14 => zbu (fX12_put σ13 2 v14) (fun σ15 => zbu (fX12_put σ15 4 0) (fun σ16 => zbu (fX12_put σ16 1 0) (fun σ17 => g σ17 v11))))))) Q := by
  have ef : μ.1 3 1 = σ.1 36 1 := hF
  have hf : zr 0 255 (σ.1 36 1) := h.b (by decide)
  have hwo : zr 0 255 ((v >>> ((1 : Int32) &&& 31)) ||| ((σ.1 36 1 &&& 1) <<< ((7 : Int32) &&& 31))) ∧ zr 0 1 (v &&& 1) := by
    obtain ⟨i, ei⟩ := z_byteF rv
    obtain ⟨m, em⟩ := z_bit1 (z_r1 (σ.1 36 1))
    rw [em, ei]
    exact ⟨(v_rotf3 i m).1, (v_rotf3 i m).2⟩
  have cM := p_rotM3 (μ := μ) (v := v)
  rw [ef, z_c0 hf] at cM
  refine zp2_bil p_rotC3 (fun s w1 e => zp2_bir cM (fun t w2 e' => ?_))
  cases e
  cases e'
  obtain ⟨rw1, ro⟩ := hwo
  generalize (v >>> ((1 : Int32) &&& 31)) ||| ((σ.1 36 1 &&& 1) <<< ((7 : Int32) &&& 31)) = w at rw1
  refine zp2_bur p_by (fun t2 e2 => ?_)
  subst e2
  refine zp2_bir p_even (fun t3 v3 e3 => ?_)
  cases e3
  refine zp2_bur p_put (fun t2 e2 => ?_)
  subst e2
  refine zp2_bur p_put (fun t2 e2 => ?_)
  subst e2
  refine zp2_bur p_put (fun t2 e2 => ?_)
  have eF : pt (pt (pt (gby (pt (σ.1 36 1) 0 (if v &&& 1 = 1 then 1 else 0)) w) 2 (gev w)) 4 0) 1 0 = crot w (v &&& 1) := by
    rw [← v_rt rw1 ro, fl_of hf, pt_0, fl_by, pt_2, pt_4, pt_1]
    rfl
  rw [eF] at e2
  subst e2
  have rF : zr 0 255 (crot w (v &&& 1)) := by rw [← v_rt rw1 ro]; exact zfl_r _ _ _ _ _ _ _ _
  exact k _ _ w ((h.onC hI (Or.inl rfl) (zrg_b (Or.inl (by decide)) rF)).onM hI (Or.inl rfl)) rfl (zQ.wi zQ.rf rfl) (zQ.wi zQ.rf rfl) rw1
theorem t_rot4 (hI : zIoK I) (h : zTT I σ μ) (hF : zF σ μ) {v : Int32} (rv : zr 0 255 v) {α β : Type} {Q : α → β → Prop} {f : zSt → Int32 → Option α} {g : zSt → Int32 → Option β} (k : ∀ s t w, zTT I s t → zF s t → zQ [] [(36, 1, 1)] [] [] σ s → zQ [] [(3, 1, 1)] [] [] μ t → zr 0 255 w → zp2 (f s w) (g t w) Q) : zp2 (zbi (fX5_turn σ 4 v) f) (zbi (fX12_turned μ 4 v) (fun σ10 v11 => zbu (fX12_by σ10 v11) (fun σ12 => zbi (fX12_isEven σ12 v11) (fun σ13 v14 => zbu (fX12_put σ13 2 v14) (fun σ15 => zbu (fX12_put σ15 4 0) (fun σ16 => zbu (fX12_put σ16 1 0) (fun σ17 => g σ17 v11))))))) Q := by
  have ef : μ.1 3 1 = σ.1 36 1 := hF
  have hf : zr 0 255 (σ.1 36 1) := h.b (by decide)
  have hwo : zr 0 255 (((v <<< ((1 : Int32) &&& 31)) &&& 255) ||| 0) ∧ zr 0 1 (v >>> ((7 : Int32) &&& 31)) := by
    obtain ⟨i, ei⟩ := z_byteF rv
    obtain ⟨m, em⟩ := z_bit1 (z_r1 (σ.1 36 1))
    rw [ei]
    exact ⟨(v_rotf4 i m).1, (v_rotf4 i m).2⟩
  have cM := p_rotM4 (μ := μ) (v := v)
  rw [ef] at cM
  refine zp2_bil p_rotC4 (fun s w1 e => zp2_bir cM (fun t w2 e' => ?_))
  cases e
  cases e'
  obtain ⟨rw1, ro⟩ := hwo
  generalize ((v <<< ((1 : Int32) &&& 31)) &&& 255) ||| 0 = w at rw1
  refine zp2_bur p_by (fun t2 e2 => ?_)
  subst e2
  refine zp2_bir p_even (fun t3 v3 e3 => ?_)
  cases e3
  refine zp2_bur p_put (fun t2 e2 => ?_)
  subst e2
  refine zp2_bur p_put (fun t2 e2 => ?_)
  subst e2
  refine zp2_bur p_put (fun t2 e2 => ?_)
  have eF : pt (pt (pt (gby (pt (σ.1 36 1) 0 (if v >>> ((7 : Int32) &&& 31) = 1 then 1 else 0)) w) 2 (gev w)) 4 0) 1 0 = crot w (v >>> ((7 : Int32) &&& 31)) := by
    rw [← v_rt rw1 ro, fl_of hf, pt_0, fl_by, pt_2, pt_4, pt_1]
    rfl
  rw [eF] at e2
  subst e2
  have rF : zr 0 255 (crot w (v >>> ((7 : Int32) &&& 31))) := by rw [← v_rt rw1 ro]; exact zfl_r _ _ _ _ _ _ _ _
  exact k _ _ w ((h.onC hI (Or.inl rfl) (zrg_b (Or.inl (by decide)) rF)).onM hI (Or.inl rfl)) rfl (zQ.wi zQ.rf rfl) (zQ.wi zQ.rf rfl) rw1
theorem t_rot5 (hI : zIoK I) (h : zTT I σ μ) (hF : zF σ μ) {v : Int32} (rv : zr 0 255 v) {α β : Type} {Q : α → β → Prop} {f : zSt → Int32 → Option α} {g : zSt → Int32 → Option β} (k : ∀ s t w, zTT I s t → zF s t → zQ [] [(36, 1, 1)] [] [] σ s → zQ [] [(3, 1, 1)] [] [] μ t → zr 0 255 w → zp2 (f s w) (g t w) Q) : zp2 (zbi (fX5_turn σ 5 v) f) (zbi (fX12_turned μ 5 v) (fun σ10 v11 => zbu (fX12_by σ10 v11) (fun σ12 => zbi (fX12_isEven σ12 v11) (fun σ13 v14 => zbu (fX12_put σ13 2 v14) (fun σ15 => zbu (fX12_put σ15 4 0) (fun σ16 => zbu (fX12_put σ16 1 0) (fun σ17 => g σ17 v11))))))) Q := by
  have ef : μ.1 3 1 = σ.1 36 1 := hF
  have hf : zr 0 255 (σ.1 36 1) := h.b (by decide)
  have hwo : zr 0 255 ((v >>> ((1 : Int32) &&& 31)) ||| ((v >>> ((7 : Int32) &&& 31)) <<< ((7 : Int32) &&& 31))) ∧ zr 0 1 (v &&& 1) := by
    obtain ⟨i, ei⟩ := z_byteF rv
    obtain ⟨m, em⟩ := z_bit1 (z_r1 (σ.1 36 1))
    rw [ei]
    exact ⟨(v_rotf5 i m).1, (v_rotf5 i m).2⟩
  have cM := p_rotM5 (μ := μ) (v := v)
  rw [ef] at cM
  refine zp2_bil p_rotC5 (fun s w1 e => zp2_bir cM (fun t w2 e' => ?_))
  cases e
  cases e'
  obtain ⟨rw1, ro⟩ := hwo
  generalize (v >>> ((1 : Int32) &&& 31)) ||| ((v >>> ((7 : Int32) &&& 31)) <<< ((7 : Int32) &&& 31)) = w at rw1
  refine zp2_bur p_by (fun t2 e2 => ?_)
  subst e2
  refine zp2_bir p_even (fun t3 v3 e3 => ?_)
  cases e3
  refine zp2_bur p_put (fun t2 e2 => ?_)
  subst e2
  refine zp2_bur p_put (fun t2 e2 => ?_)
  subst e2
  refine zp2_bur p_put (fun t2 e2 => ?_)
  have eF : pt (pt (pt (gby (pt (σ.1 36 1) 0 (if v &&& 1 = 1 then 1 else 0)) w) 2 (gev w)) 4 0) 1 0 = crot w (v &&& 1) := by
    rw [← v_rt rw1 ro, fl_of hf, pt_0, fl_by, pt_2, pt_4, pt_1]
    rfl
  rw [eF] at e2
  subst e2
  have rF : zr 0 255 (crot w (v &&& 1)) := by rw [← v_rt rw1 ro]; exact zfl_r _ _ _ _ _ _ _ _
  exact k _ _ w ((h.onC hI (Or.inl rfl) (zrg_b (Or.inl (by decide)) rF)).onM hI (Or.inl rfl)) rfl (zQ.wi zQ.rf rfl) (zQ.wi zQ.rf rfl) rw1
theorem t_rot6 (hI : zIoK I) (h : zTT I σ μ) (hF : zF σ μ) {v : Int32} (rv : zr 0 255 v) {α β : Type} {Q : α → β → Prop} {f : zSt → Int32 → Option α} {g : zSt → Int32 → Option β} (k : ∀ s t w, zTT I s t → zF s t → zQ [] [(36, 1, 1)] [] [] σ s → zQ [] [(3, 1, 1)] [] [] μ t → zr 0 255 w → zp2 (f s w) (g t w) Q) : zp2 (zbi (fX5_turn σ 6 v) f) (zbi (fX12_turned μ 6 v) (fun σ10 v11 => zbu (fX12_by σ10 v11) (fun σ12 => zbi (fX12_isEven σ12 v11) (fun σ13 v14 => zbu (fX12_put σ13 2 v14) (fun σ15 => zbu (fX12_put σ15 4 0) (fun σ16 => zbu (fX12_put σ16 1 0) (fun σ17 => g σ17 v11))))))) Q := by
  have ef : μ.1 3 1 = σ.1 36 1 := hF
  have hf : zr 0 255 (σ.1 36 1) := h.b (by decide)
  have hwo : zr 0 255 (((v <<< ((1 : Int32) &&& 31)) &&& 255) ||| 1) ∧ zr 0 1 (v >>> ((7 : Int32) &&& 31)) := by
    obtain ⟨i, ei⟩ := z_byteF rv
    obtain ⟨m, em⟩ := z_bit1 (z_r1 (σ.1 36 1))
    rw [ei]
    exact ⟨(v_rotf6 i m).1, (v_rotf6 i m).2⟩
  have cM := p_rotM6 (μ := μ) (v := v)
  rw [ef] at cM
  refine zp2_bil p_rotC6 (fun s w1 e => zp2_bir cM (fun t w2 e' => ?_))
  cases e
  cases e'
  obtain ⟨rw1, ro⟩ := hwo
  generalize ((v <<< ((1 : Int32) &&& 31)) &&& 255) ||| 1 = w at rw1
  refine zp2_bur p_by (fun t2 e2 => ?_)
  subst e2
  refine zp2_bir p_even (fun t3 v3 e3 => ?_)
  cases e3
  refine zp2_bur p_put (fun t2 e2 => ?_)
  subst e2
  refine zp2_bur p_put (fun t2 e2 => ?_)
  subst e2
  refine zp2_bur p_put (fun t2 e2 => ?_)
  have eF : pt (pt (pt (gby (pt (σ.1 36 1) 0 (if v >>> ((7 : Int32) &&& 31) = 1 then 1 else 0)) w) 2 (gev w)) 4 0) 1 0 = crot w (v >>> ((7 : Int32) &&& 31)) := by
    rw [← v_rt rw1 ro, fl_of hf, pt_0, fl_by, pt_2, pt_4, pt_1]
    rfl
  rw [eF] at e2
  subst e2
  have rF : zr 0 255 (crot w (v >>> ((7 : Int32) &&& 31))) := by rw [← v_rt rw1 ro]; exact zfl_r _ _ _ _ _ _ _ _
  exact k _ _ w ((h.onC hI (Or.inl rfl) (zrg_b (Or.inl (by decide)) rF)).onM hI (Or.inl rfl)) rfl (zQ.wi zQ.rf rfl) (zQ.wi zQ.rf rfl) rw1
theorem t_rot7 (hI : zIoK I) (h : zTT I σ μ) (hF : zF σ μ) {v : Int32} (rv : zr 0 255 v) {α β : Type} {Q : α → β → Prop} {f : zSt → Int32 → Option α} {g : zSt → Int32 → Option β} (k : ∀ s t w, zTT I s t → zF s t → zQ [] [(36, 1, 1)] [] [] σ s → zQ [] [(3, 1, 1)] [] [] μ t → zr 0 255 w → zp2 (f s w) (g t w) Q) : zp2 (zbi (fX5_turn σ 7 v) f) (zbi (fX12_turned μ 7 v) (fun σ10 v11 => zbu (fX12_by σ10 v11) (fun σ12 => zbi (fX12_isEven σ12 v11) (fun σ13 v14 => zbu (fX12_put σ13 2 v14) (fun σ15 => zbu (fX12_put σ15 4 0) (fun σ16 => zbu (fX12_put σ16 1 0) (fun σ17 => g σ17 v11))))))) Q := by
  have ef : μ.1 3 1 = σ.1 36 1 := hF
  have hf : zr 0 255 (σ.1 36 1) := h.b (by decide)
  have hwo : zr 0 255 ((v >>> ((1 : Int32) &&& 31)) ||| (0 <<< ((7 : Int32) &&& 31))) ∧ zr 0 1 (v &&& 1) := by
    obtain ⟨i, ei⟩ := z_byteF rv
    obtain ⟨m, em⟩ := z_bit1 (z_r1 (σ.1 36 1))
    rw [ei]
    exact ⟨(v_rotf7 i m).1, (v_rotf7 i m).2⟩
  have cM := p_rotM7 (μ := μ) (v := v)
  rw [ef] at cM
  refine zp2_bil p_rotC7 (fun s w1 e => zp2_bir cM (fun t w2 e' => ?_))
  cases e
  cases e'
  obtain ⟨rw1, ro⟩ := hwo
  generalize (v >>> ((1 : Int32) &&& 31)) ||| (0 <<< ((7 : Int32) &&& 31)) = w at rw1
  refine zp2_bur p_by (fun t2 e2 => ?_)
  subst e2
  refine zp2_bir p_even (fun t3 v3 e3 => ?_)
  cases e3
  refine zp2_bur p_put (fun t2 e2 => ?_)
  subst e2
  refine zp2_bur p_put (fun t2 e2 => ?_)
  subst e2
  refine zp2_bur p_put (fun t2 e2 => ?_)
  have eF : pt (pt (pt (gby (pt (σ.1 36 1) 0 (if v &&& 1 = 1 then 1 else 0)) w) 2 (gev w)) 4 0) 1 0 = crot w (v &&& 1) := by
    rw [← v_rt rw1 ro, fl_of hf, pt_0, fl_by, pt_2, pt_4, pt_1]
    rfl
  rw [eF] at e2
  subst e2
  have rF : zr 0 255 (crot w (v &&& 1)) := by rw [← v_rt rw1 ro]; exact zfl_r _ _ _ _ _ _ _ _
  exact k _ _ w ((h.onC hI (Or.inl rfl) (zrg_b (Or.inl (by decide)) rF)).onM hI (Or.inl rfl)) rfl (zQ.wi zQ.rf rfl) (zQ.wi zQ.rf rfl) rw1
theorem e_tC {op v : Int32} (hx : op >>> ((6 : Int32) &&& 31) = 0) : fX5_turned σ op v = fX5_turn σ ((op >>> ((3 : Int32) &&& 31)) &&& 7) v := by
  unfold fX5_turned
  rw [hx]
  have e : ∀ y, (if (0 : Int32) = 0 then zbi (fX5_turn σ y v) (fun σ2 v3 => some (σ2, v3)) else if (0 : Int32) = 2 then some (σ, v &&& (((1 : Int32) <<< (y &&& 31)) ^^^ (-1))) else some (σ, v ||| ((1 : Int32) <<< (y &&& 31)))) = fX5_turn σ y v := fun y => by
    rw [if_pos rfl]
    cases fX5_turn σ y v with
    | none => rfl
    | some r => rfl
  exact e _
/-- rotations, RES and SET -/
theorem t_tk (hI : zIoK I) (h : zTT I σ μ) (hF : zF σ μ) {op v : Int32} (hx : zr 0 3 (op >>> ((6 : Int32) &&& 31))) (hx1 : ¬ op >>> ((6 : Int32) &&& 31) = 1) (rv : zr 0 255 v) {α β : Type} {Q : α → β → Prop} {f : zSt → Int32 → Option α} {g : zSt → Int32 → Option β} (k : ∀ s t w, zTT I s t → zF s t → zQ [] [(36, 1, 1)] [] [] σ s → zQ [] [(3, 1, 1)] [] [] μ t → zr 0 255 w → zp2 (f s w) (g t w) Q) : zp2 (zbi (fX5_turned σ op v) f) (if op >>> ((6 : Int32) &&& 31) = 0 then zbi (fX12_turned μ ((op >>> ((3 : Int32) &&& 31)) &&& 7) v) (fun σ10 v11 => zbu (fX12_by σ10 v11) (fun σ12 => zbi (fX12_isEven σ12 v11) (fun σ13 v14 => zbu (fX12_put σ13 2 v14) (fun σ15 => zbu (fX12_put σ15 4 0) (fun σ16 => zbu (fX12_put σ16 1 0) (fun σ17 => g σ17 v11)))))) else if op >>> ((6 : Int32) &&& 31) = 2 then g μ (v &&& ((1 <<< (((op >>> ((3 : Int32) &&& 31)) &&& 7) &&& 31)) ^^^ (-1))) else g μ (v ||| (1 <<< (((op >>> ((3 : Int32) &&& 31)) &&& 7) &&& 31)))) Q := by
  have hy : zr 0 7 ((op >>> ((3 : Int32) &&& 31)) &&& 7) := z_r7 _
  by_cases x0 : op >>> ((6 : Int32) &&& 31) = 0
  · rw [e_tC x0, if_pos x0]
    generalize (op >>> ((3 : Int32) &&& 31)) &&& 7 = y at hy
    rcases zr_hd (c := 0) hy rfl with e | hy
    · subst e; exact t_rot0 hI h hF rv k
    rcases zr_hd (c := 1) hy rfl with e | hy
    · subst e; exact t_rot1 hI h hF rv k
    rcases zr_hd (c := 2) hy rfl with e | hy
    · subst e; exact t_rot2 hI h hF rv k
    rcases zr_hd (c := 3) hy rfl with e | hy
    · subst e; exact t_rot3 hI h hF rv k
    rcases zr_hd (c := 4) hy rfl with e | hy
    · subst e; exact t_rot4 hI h hF rv k
    rcases zr_hd (c := 5) hy rfl with e | hy
    · subst e; exact t_rot5 hI h hF rv k
    rcases zr_hd (c := 6) hy rfl with e | hy
    · subst e; exact t_rot6 hI h hF rv k
    rcases zr_hd (c := 7) hy rfl with e | hy
    · subst e; exact t_rot7 hI h hF rv k
    exact zr_no9 hy (by decide)
  · rw [if_neg x0]
    unfold fX5_turned
    by_cases x2 : op >>> ((6 : Int32) &&& 31) = 2
    · rw [if_pos x2]
      refine zp2_bil (P := fun r => r = (σ, v &&& ((1 <<< (((op >>> ((3 : Int32) &&& 31)) &&& 7) &&& 31)) ^^^ (-1)))) (zpc_bv (fun y ey => zpc_if (fun q => absurd q x0) (fun _ => zpc_if (fun _ => zpc_some (by rw [ey])) (fun q => absurd x2 q)))) (fun s w e => ?_)
      cases e
      exact k _ _ _ h hF zQ.rf zQ.rf (zr_andl (lo := 0) (hi := 255) rv (by decide))
    · rw [if_neg x2]
      refine zp2_bil (P := fun r => r = (σ, v ||| (1 <<< (((op >>> ((3 : Int32) &&& 31)) &&& 7) &&& 31)))) (zpc_bv (fun y ey => zpc_if (fun q => absurd q x0) (fun _ => zpc_if (fun q => absurd q x2) (fun _ => zpc_some (by rw [ey]))))) (fun s w e => ?_)
      cases e
      exact k _ _ _ h hF zQ.rf zQ.rf (z_ob rv (z_1y hy))
theorem t_turns (hI : zIoK I) (h : zTT I σ μ) (hF : zF σ μ) (hW : zWzz σ μ) (hp : zPlc σ μ) (h32 : μ.1 0 32 = 0) {op : Int32} (hx : zr 0 3 (op >>> ((6 : Int32) &&& 31))) : zp2 (fX5_turns σ op) (fX12_turn μ op) (zEnq I) := by
  have hz : zr 0 7 (op &&& 7) := z_r7 _
  have hy : zr 0 7 ((op >>> ((3 : Int32) &&& 31)) &&& 7) := z_r7 _
  unfold fX5_turns fX12_turn
  refine zp2_bvl (fun z ez => zp2_bvr (fun y ey => zp2_ifr (fun _ => ?_) (fun q => absurd h32 q)))
  rw [← ez] at hz ⊢
  rw [← ey] at hy
  unfold fX12_turn_23
  refine zp2_sm (t_one h hp hz) (fun v rv => zp2_bvr (fun x ex => ?_))
  by_cases x1 : op >>> ((6 : Int32) &&& 31) = 1
  · have x1' : x = 1 := ex.trans x1
    refine zp2_ifl (fun _ => zp2_ifr (fun _ => ?_) (fun q => absurd x1' q)) (fun q => absurd x1 q)
    refine zp2_bvr (fun w ew => zp2_bur p_by' (fun t2 e2 => ?_))
    subst e2
    have rw1 : zr 0 255 w := by rw [ew]; exact zr_andl (lo := 0) (hi := 255) rv (by decide)
    unfold fX5_turns_47 fX5_turns_63
    intro r r' er er'
    have em := p_bitM (μ := μ) (f := gby (μ.1 3 1) w) (z := z) (v := v) (w := w) r' er'
    have hf : zr 0 255 (σ.1 36 1) := h.b (by decide)
    have r20 : zr 0 255 (σ.1 36 20 >>> ((8 : Int32) &&& 31)) := z_hi (h.w (j := 20) (by decide) (by decide))
    have ef : μ.1 3 1 = σ.1 36 1 := hF
    have ew20 : μ.1 3 20 = σ.1 36 20 := hW
    have hs : zr 0 255 (if z = 6 then σ.1 36 20 >>> ((8 : Int32) &&& 31) else v) := by
      by_cases q : z = 6
      · rw [if_pos q]; exact r20
      · rw [if_neg q]; exact rv
    rw [ef, ew20, v_bit hf rw1 hs] at em
    have cC : zpc (if z = 6 then zck (zin 20 29) (zbu (fX5_askBit σ ((op >>> ((3 : Int32) &&& 31)) &&& 7) v ((zgi σ 36 (20 : Int32).toNatClampNeg) >>> ((8 : Int32) &&& 31))) (fun σ1 => if z = 6 then some (σ1, (12 : Int32)) else some (σ1, 8))) else zbu (fX5_askBit σ ((op >>> ((3 : Int32) &&& 31)) &&& 7) v v) (fun σ1 => if z = 6 then some (σ1, (12 : Int32)) else some (σ1, 8))) (fun r => r = (zsi σ 36 1 (cbit (σ.1 36 1) w (if z = 6 then σ.1 36 20 >>> ((8 : Int32) &&& 31) else v)), if z = 6 then 12 else 8)) := by
      refine zpc_if (fun q => zpc_ck (zpc_bu p_bitC (fun s e => zpc_if (fun _ => zpc_some ?_) (fun n => absurd q n)))) (fun q => zpc_bu p_bitC (fun s e => zpc_if (fun n => absurd n q) (fun _ => zpc_some ?_)))
      · rw [e, if_pos q, if_pos q, ew, ey]; rfl
      · rw [e, if_neg q, if_neg q, ew, ey]
    rw [cC r er, em]
    exact ⟨(h.onC hI (Or.inl rfl) (zrg_b (Or.inl (by decide)) (r_bit hf rw1 hs))).onM hI (Or.inl rfl), rfl, hW, rfl⟩
  · have x1' : ¬ x = 1 := fun q => x1 (ex.symm.trans q)
    refine zp2_ifl (fun q => absurd q x1) (fun _ => zp2_ifr (fun q => absurd q x1') (fun _ => ?_))
    rw [ex, ey]
    unfold fX12_turn_191
    refine t_tk hI h hF hx x1 rv (g := fun t w => fX12_turn_193 t z w) (fun s t w h1 f1 qc qm rw1 => ?_)
    unfold fX12_turn_193 fX12_turn_219 fX5_turns_88
    refine zp2_buu (t_putOne hI h1 (hp.of (qc.1 7 5 rfl) (qc.1 36 6 rfl) (qc.1 36 7 rfl) (qm.1 3 20 rfl) (qm.1 0 32 rfl)) hz (z_m255 rw1) rw1) (fun s2 t2 q => zp2_bvr (fun t3 g3 => ?_))
    obtain ⟨h2, qc2, qm2⟩ := q
    subst g3
    have h3 : zTT I s2 (zsi t2 0 33 w) := h2.m33 hI
    have f3 : zF s2 (zsi t2 0 33 w) := f1.of (qc2.1 36 1 rfl) (qm2.1 3 1 rfl)
    have w3 : zWzz s2 (zsi t2 0 33 w) := hW.of ((qc2.1 36 20 rfl).trans (qc.1 36 20 rfl)) ((qm2.1 3 20 rfl).trans (qm.1 3 20 rfl))
    exact zp2_if (fun _ => zp2_some ⟨h3, f3, w3, rfl⟩) (fun _ => zp2_some ⟨h3, f3, w3, rfl⟩)
end ZCB
end ZJN9
