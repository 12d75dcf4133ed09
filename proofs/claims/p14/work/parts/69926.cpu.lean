/-! INC AND DEC -/
/-- the end of an instruction, with its beats -/
def zEnq (I : zSt → zSt → Prop) (r r' : zSt × Int32) : Prop := zTT I r.1 r'.1 ∧ zF r.1 r'.1 ∧ zWzz r.1 r'.1 ∧ r'.2 = r.2
section ZID
variable {μ σ : zSt} {v w y f : Int32}
def cinc (f w : Int32) : Int32 := (((f &&& 1) ||| cby w) ||| (if w &&& 15 = 0 then 16 else 0)) ||| (if w = 128 then 4 else 0)
def minc (f w : Int32) : Int32 := pt (pt (pt (gby f w) 4 (if w &&& 15 = 0 then 1 else 0)) 2 (if w = 128 then 1 else 0)) 1 0
theorem p_incC : zpc (fX5_oneMore σ v) (fun r => r = (zsi σ 36 1 (cinc (σ.1 36 1) ((v + 1) &&& 255)), (v + 1) &&& 255)) := by
  unfold fX5_oneMore fX5_oneMore_39 fX5_oneMore_52 cinc
  refine zpc_bv (fun u eu => zpc_ck (zpc_bi p_byC (fun t x et => ?_)))
  cases et
  subst eu
  refine zpc_if (fun q => zpc_if (fun q2 => zpc_ck (zpc_bv (fun t et => zpc_some ?_))) (fun q2 => zpc_ck (zpc_bv (fun t et => zpc_some ?_)))) (fun q => zpc_if (fun q2 => zpc_ck (zpc_bv (fun t et => zpc_some ?_))) (fun q2 => zpc_ck (zpc_bv (fun t et => zpc_some ?_))))
  · rw [et, if_pos q, if_pos q2]; rfl
  · rw [et, if_pos q, if_neg q2]; rfl
  · rw [et, if_neg q, if_pos q2]; rfl
  · rw [et, if_neg q, if_neg q2]; rfl
theorem p_incM : zpc (fX12_singles_84 (zsi μ 3 1 f) y 4 w 0 (w &&& 15) 4) (fun r => r = (zsi μ 3 1 (pt (pt (pt f 4 (if w &&& 15 = 0 then 1 else 0)) 2 (if w = 128 then 1 else 0)) 1 0), if y = 6 then 11 else 4)) := by
  unfold fX12_singles_84
  refine zpc_j (K := fun h => fX12_singles_92 (zsi μ 3 1 f) y 4 w h 4) (a := 1) (b := 0) (fun h eh => ?_)
  unfold fX12_singles_92
  refine zpc_bu p_put (fun t et => ?_)
  subst et
  refine zpc_if (fun _ => ?_) (fun q => absurd rfl q)
  unfold fX12_singles_111
  refine zpc_j (K := fun g => fX12_singles_119 (zsi μ 3 1 (pt f 4 h)) y 4 g 2) (a := 1) (b := 0) (fun g eg => ?_)
  unfold fX12_singles_119
  refine zpc_bu p_put (fun t et => ?_)
  subst et
  refine zpc_if (fun q => absurd q (by decide)) (fun _ => ?_)
  unfold fX12_singles_134 fX12_singles_149
  refine zpc_bu p_put (fun t et => ?_)
  subst et
  refine zpc_if (fun q => zpc_some ?_) (fun q => zpc_some ?_)
  · rw [if_pos q, eh, eg]
  · rw [if_neg q, eh, eg]
theorem v_incf : ∀ i : Fin 256, ∀ c : Fin 2, zfl (d7 (Int32.ofNat i.val)) (d6 (Int32.ofNat i.val)) (d5 (Int32.ofNat i.val)) (bc (if (Int32.ofNat i.val) &&& 15 = 0 then 1 else 0)) (d3 (Int32.ofNat i.val)) (bc (if Int32.ofNat i.val = 128 then 1 else 0)) false (bc (Int32.ofNat c.val)) = (((Int32.ofNat c.val) ||| cby (Int32.ofNat i.val)) ||| (if (Int32.ofNat i.val) &&& 15 = 0 then 16 else 0)) ||| (if Int32.ofNat i.val = 128 then 4 else 0) := by decide +kernel
theorem v_inc (hf : zr 0 255 f) (hw : zr 0 255 w) : minc f w = cinc f w := by
  have e : minc f w = zfl (d7 w) (d6 w) (d5 w) (bc (if w &&& 15 = 0 then 1 else 0)) (d3 w) (bc (if w = 128 then 1 else 0)) false (bc (f &&& 1)) := by
    unfold minc
    rw [fl_of hf, fl_by, pt_4, pt_2, pt_1, ← fl_of hf]
    rfl
  rw [e]
  unfold cinc
  obtain ⟨c, ec⟩ := z_bit1 (z_r1 f)
  obtain ⟨i, ei⟩ := z_byteF hw
  rw [ec]
  subst ei
  exact v_incf i c
theorem r_inc (hf : zr 0 255 f) (hw : zr 0 255 w) : zr 0 255 (cinc f w) := by
  rw [← v_inc hf hw]
  unfold minc
  rw [fl_of hf, fl_by, pt_4, pt_2, pt_1]
  exact zfl_r _ _ _ _ _ _ _ _
def cdec (f w : Int32) : Int32 := ((((f &&& 1) ||| cby w) ||| (if w &&& 15 = 15 then 16 else 0)) ||| (if w = 127 then 4 else 0)) ||| 2
def mdec (f w : Int32) : Int32 := pt (pt (pt (gby f w) 4 (if w &&& 15 = 15 then 1 else 0)) 2 (if w = 127 then 1 else 0)) 1 1
theorem p_decC : zpc (fX5_oneLess σ v) (fun r => r = (zsi σ 36 1 (cdec (σ.1 36 1) ((v - 1) &&& 255)), (v - 1) &&& 255)) := by
  unfold fX5_oneLess fX5_oneLess_41 fX5_oneLess_53 cdec
  refine zpc_bv (fun u eu => zpc_ck (zpc_bi p_byC (fun t x et => ?_)))
  cases et
  subst eu
  refine zpc_if (fun q => zpc_if (fun q2 => zpc_ck (zpc_bv (fun t et => zpc_some ?_))) (fun q2 => zpc_ck (zpc_bv (fun t et => zpc_some ?_)))) (fun q => zpc_if (fun q2 => zpc_ck (zpc_bv (fun t et => zpc_some ?_))) (fun q2 => zpc_ck (zpc_bv (fun t et => zpc_some ?_))))
  · rw [et, if_pos q, if_pos q2]; rfl
  · rw [et, if_pos q, if_neg q2]; rfl
  · rw [et, if_neg q, if_pos q2]; rfl
  · rw [et, if_neg q, if_neg q2]; rfl
theorem p_decM : zpc (fX12_singles_84 (zsi μ 3 1 f) y 5 w 15 (w &&& 15) 4) (fun r => r = (zsi μ 3 1 (pt (pt (pt f 4 (if w &&& 15 = 15 then 1 else 0)) 2 (if w = 127 then 1 else 0)) 1 1), if y = 6 then 11 else 4)) := by
  unfold fX12_singles_84
  refine zpc_j (K := fun h => fX12_singles_92 (zsi μ 3 1 f) y 5 w h 4) (a := 1) (b := 0) (fun h eh => ?_)
  unfold fX12_singles_92
  refine zpc_bu p_put (fun t et => ?_)
  subst et
  refine zpc_if (fun q => absurd q (by decide)) (fun _ => ?_)
  unfold fX12_singles_111
  refine zpc_j (K := fun g => fX12_singles_119 (zsi μ 3 1 (pt f 4 h)) y 5 g 2) (a := 1) (b := 0) (fun g eg => ?_)
  unfold fX12_singles_119
  refine zpc_bu p_put (fun t et => ?_)
  subst et
  refine zpc_if (fun _ => ?_) (fun q => absurd rfl q)
  unfold fX12_singles_134 fX12_singles_149
  refine zpc_bu p_put (fun t et => ?_)
  subst et
  refine zpc_if (fun q => zpc_some ?_) (fun q => zpc_some ?_)
  · rw [if_pos q, eh, eg]
  · rw [if_neg q, eh, eg]
theorem v_decf : ∀ i : Fin 256, ∀ c : Fin 2, zfl (d7 (Int32.ofNat i.val)) (d6 (Int32.ofNat i.val)) (d5 (Int32.ofNat i.val)) (bc (if (Int32.ofNat i.val) &&& 15 = 15 then 1 else 0)) (d3 (Int32.ofNat i.val)) (bc (if Int32.ofNat i.val = 127 then 1 else 0)) true (bc (Int32.ofNat c.val)) = ((((Int32.ofNat c.val) ||| cby (Int32.ofNat i.val)) ||| (if (Int32.ofNat i.val) &&& 15 = 15 then 16 else 0)) ||| (if Int32.ofNat i.val = 127 then 4 else 0)) ||| 2 := by decide +kernel
theorem v_dec (hf : zr 0 255 f) (hw : zr 0 255 w) : mdec f w = cdec f w := by
  have e : mdec f w = zfl (d7 w) (d6 w) (d5 w) (bc (if w &&& 15 = 15 then 1 else 0)) (d3 w) (bc (if w = 127 then 1 else 0)) true (bc (f &&& 1)) := by
    unfold mdec
    rw [fl_of hf, fl_by, pt_4, pt_2, pt_1, ← fl_of hf]
    rfl
  rw [e]
  unfold cdec
  obtain ⟨c, ec⟩ := z_bit1 (z_r1 f)
  obtain ⟨i, ei⟩ := z_byteF hw
  rw [ec]
  subst ei
  exact v_decf i c
theorem r_dec (hf : zr 0 255 f) (hw : zr 0 255 w) : zr 0 255 (cdec f w) := by
  rw [← v_dec hf hw]
  unfold mdec
  rw [fl_of hf, fl_by, pt_4, pt_2, pt_1]
  exact zfl_r _ _ _ _ _ _ _ _
end ZID
section ZID2
variable {I : zSt → zSt → Prop} {σ μ : zSt}
theorem t_inc (hI : zIoK I) (h : zTT I σ μ) (hF : zF σ μ) (hW : zWzz σ μ) (hp : zPlc σ μ) {y : Int32} (hy : zr 0 7 y) : zp2 (zbi (fX5_one σ y) (fun s v => zbi (fX5_oneMore s v) (fun s2 w => zbu (fX5_putOne s2 y w) (fun s3 => if y = 6 then fX5_firstQuarter_143 s3 11 else fX5_firstQuarter_143 s3 4)))) (fX12_singles μ y 4) (zEnq I) := by
  have hf : zr 0 255 (σ.1 36 1) := h.b (by decide)
  unfold fX12_singles
  refine zp2_ifr (fun q => absurd q (by decide)) (fun _ => zp2_ifr (fun q => absurd q (by decide)) (fun _ => zp2_bii (t_one h hp hy) (fun s v t v' q => ?_)))
  obtain ⟨q1, q2, q3, q4⟩ := q
  have q1 : s = σ := q1
  have q2 : t = μ := q2
  have q3 : v' = v := q3
  subst q1
  subst q2
  subst q3
  refine zp2_ifr (fun _ => ?_) (fun q => absurd rfl q)
  unfold fX12_singles_50
  refine zp2_bil p_incC (fun s2 w2 e2 => zp2_bvr (fun u eu => ?_))
  cases e2
  have eu : u = (v' + 1) &&& 255 := eu
  subst eu
  have hu : zr 0 255 ((v' + 1) &&& 255) := z_r8 _
  generalize (v' + 1) &&& 255 = u at hu
  refine zp2_buu (t_putOne hI (h.onC hI (Or.inl rfl) (zrg_b (Or.inl (by decide)) (r_inc hf hu))) (hp.of rfl rfl rfl rfl rfl) hy (z_m255 hu) hu) (fun s3 t3 q => ?_)
  obtain ⟨a1, a2, a3⟩ := q
  refine zp2_bur p_by' (fun t4 e4 => ?_)
  subst e4
  refine zp2_ifr (fun _ => ?_) (fun q => absurd rfl q)
  unfold fX5_firstQuarter_143
  have fin : ∀ bts : Int32, zEnq I (s3, bts) (zsi t3 3 1 (minc (t3.1 3 1) u), bts) := fun bts => by
    refine ⟨a1.onM hI (Or.inl rfl), ?_, ?_, rfl⟩
    · show minc (t3.1 3 1) u = s3.1 36 1
      rw [a3.1 3 1 rfl, a2.1 36 1 rfl, show t.1 3 1 = s.1 36 1 from hF, v_inc hf hu]
      rfl
    · show t3.1 3 20 = s3.1 36 20
      rw [a3.1 3 20 rfl, a2.1 36 20 rfl]
      exact hW
  intro r r' er er'
  have em := p_incM (μ := t3) (f := gby (t3.1 3 1) u) (y := y) (w := u) _ er'
  by_cases y6 : y = 6
  · rw [if_pos y6] at er em
    cases er
    rw [em]
    exact fin 11
  · rw [if_neg y6] at er em
    cases er
    rw [em]
    exact fin 4
theorem t_dec (hI : zIoK I) (h : zTT I σ μ) (hF : zF σ μ) (hW : zWzz σ μ) (hp : zPlc σ μ) {y : Int32} (hy : zr 0 7 y) : zp2 (zbi (fX5_one σ y) (fun s v => zbi (fX5_oneLess s v) (fun s2 w => zbu (fX5_putOne s2 y w) (fun s3 => if y = 6 then fX5_firstQuarter_170 s3 11 else fX5_firstQuarter_170 s3 4)))) (fX12_singles μ y 5) (zEnq I) := by
  have hf : zr 0 255 (σ.1 36 1) := h.b (by decide)
  unfold fX12_singles
  refine zp2_ifr (fun q => absurd q (by decide)) (fun _ => zp2_ifr (fun q => absurd q (by decide)) (fun _ => zp2_bii (t_one h hp hy) (fun s v t v' q => ?_)))
  obtain ⟨q1, q2, q3, q4⟩ := q
  have q1 : s = σ := q1
  have q2 : t = μ := q2
  have q3 : v' = v := q3
  subst q1
  subst q2
  subst q3
  refine zp2_ifr (fun q => absurd q (by decide)) (fun _ => ?_)
  unfold fX12_singles_50
  refine zp2_bil p_decC (fun s2 w2 e2 => zp2_bvr (fun u eu => ?_))
  cases e2
  have eu : u = (v' - 1) &&& 255 := by rw [eu, Int32.sub_eq_add_neg]
  subst eu
  have hu : zr 0 255 ((v' - 1) &&& 255) := z_r8 _
  generalize (v' - 1) &&& 255 = u at hu
  refine zp2_buu (t_putOne hI (h.onC hI (Or.inl rfl) (zrg_b (Or.inl (by decide)) (r_dec hf hu))) (hp.of rfl rfl rfl rfl rfl) hy (z_m255 hu) hu) (fun s3 t3 q => ?_)
  obtain ⟨a1, a2, a3⟩ := q
  refine zp2_bur p_by' (fun t4 e4 => ?_)
  subst e4
  refine zp2_ifr (fun q => absurd q (by decide)) (fun _ => ?_)
  unfold fX5_firstQuarter_170
  have fin : ∀ bts : Int32, zEnq I (s3, bts) (zsi t3 3 1 (mdec (t3.1 3 1) u), bts) := fun bts => by
    refine ⟨a1.onM hI (Or.inl rfl), ?_, ?_, rfl⟩
    · show mdec (t3.1 3 1) u = s3.1 36 1
      rw [a3.1 3 1 rfl, a2.1 36 1 rfl, show t.1 3 1 = s.1 36 1 from hF, v_dec hf hu]
      rfl
    · show t3.1 3 20 = s3.1 36 20
      rw [a3.1 3 20 rfl, a2.1 36 20 rfl]
      exact hW
  intro r r' er er'
  have em := p_decM (μ := t3) (f := gby (t3.1 3 1) u) (y := y) (w := u) _ er'
  by_cases y6 : y = 6
  · rw [if_pos y6] at er em
    cases er
    rw [em]
    exact fin 11
  · rw [if_neg y6] at er em
    cases er
    rw [em]
    exact fin 4
end ZID2
/-! TURNING -/
def crot (w o : Int32) : Int32 := (cby w ||| cpar w) ||| o
section ZRT
variable {μ σ : zSt} {v : Int32}
theorem p_rotC0 : zpc (fX5_turn σ 0 v) (fun r => r = (zsi σ 36 1 (crot (((v <<< ((1 : Int32) &&& 31)) &&& 255) ||| (v >>> ((7 : Int32) &&& 31))) (v >>> ((7 : Int32) &&& 31))), ((v <<< ((1 : Int32) &&& 31)) &&& 255) ||| (v >>> ((7 : Int32) &&& 31)))) := by
  have f136 : ∀ (g w : Int32), zpc (fX5_turn_136 σ g w) (fun r => r = (zsi σ 36 1 (crot w g), w)) := fun g w => by
    unfold fX5_turn_136 crot
    refine zpc_bi p_byC (fun t x et => ?_)
    cases et
    refine zpc_bi p_parC (fun t x et => ?_)
    cases et
    exact zpc_ck (zpc_bv (fun t et => zpc_some (by rw [et]; rfl)))
  unfold fX5_turn fX5_turn_11 fX5_turn_26 fX5_turn_72 fX5_turn_79 fX5_turn_107 fX5_turn_110
  refine zpc_if (fun _ => zpc_if (fun q => absurd q (by decide)) (fun _ => ?_)) (fun q => absurd (by decide) q)
  exact zpc_if (fun _ => zpc_if (fun q => absurd q (by decide)) (fun _ => f136 _ _)) (fun q => absurd rfl q)
theorem p_rotM0 : zpc (fX12_turned μ 0 v) (fun r => r = (zsi μ 3 1 (pt (μ.1 3 1) 0 (if v >>> ((7 : Int32) &&& 31) = 1 then 1 else 0)), ((v <<< ((1 : Int32) &&& 31)) &&& 255) ||| (v >>> ((7 : Int32) &&& 31)))) := by
  have f74 : ∀ (g c : Int32), zpc (fX12_turned_74 μ v 1 g c) (fun r => r = (zsi μ 3 1 (pt (μ.1 3 1) 0 (if g = 1 then 1 else 0)), ((v <<< ((1 : Int32) &&& 31)) &&& 255) ||| c)) := fun g c => by
    unfold fX12_turned_74
    refine zpc_j (K := fun u => fX12_turned_89 μ v 1 c u 0) (a := 1) (b := 0) (fun u eu => ?_)
    unfold fX12_turned_89 fX12_turned_118
    refine zpc_bu p_put' (fun t et => ?_)
    rw [et, eu]
    exact zpc_if (fun q => absurd q (by decide)) (fun _ => zpc_some rfl)
  unfold fX12_turned fX12_turned_11 fX12_turned_26
  refine zpc_ck (zpc_if (fun _ => zpc_if (fun q => absurd q (by decide)) (fun _ => ?_)) (fun q => absurd (by decide) q))
  exact zpc_if (fun q => absurd q (by decide)) (fun _ => f74 _ _)
theorem p_rotC1 : zpc (fX5_turn σ 1 v) (fun r => r = (zsi σ 36 1 (crot ((v >>> ((1 : Int32) &&& 31)) ||| ((v &&& 1) <<< ((7 : Int32) &&& 31))) (v &&& 1)), (v >>> ((1 : Int32) &&& 31)) ||| ((v &&& 1) <<< ((7 : Int32) &&& 31)))) := by
  have f136 : ∀ (g w : Int32), zpc (fX5_turn_136 σ g w) (fun r => r = (zsi σ 36 1 (crot w g), w)) := fun g w => by
    unfold fX5_turn_136 crot
    refine zpc_bi p_byC (fun t x et => ?_)
    cases et
    refine zpc_bi p_parC (fun t x et => ?_)
    cases et
    exact zpc_ck (zpc_bv (fun t et => zpc_some (by rw [et]; rfl)))
  unfold fX5_turn fX5_turn_11 fX5_turn_26 fX5_turn_72 fX5_turn_79 fX5_turn_107 fX5_turn_110
  refine zpc_if (fun q => absurd q (by decide)) (fun _ => zpc_if (fun _ => ?_) (fun q => absurd rfl q))
  exact zpc_if (fun q => absurd q (by decide)) (fun _ => zpc_if (fun _ => zpc_if (fun _ => f136 _ _) (fun q => absurd rfl q)) (fun q => absurd rfl q))
theorem p_rotM1 : zpc (fX12_turned μ 1 v) (fun r => r = (zsi μ 3 1 (pt (μ.1 3 1) 0 (if v &&& 1 = 1 then 1 else 0)), (v >>> ((1 : Int32) &&& 31)) ||| ((v &&& 1) <<< ((7 : Int32) &&& 31)))) := by
  have f74 : ∀ (g c : Int32), zpc (fX12_turned_74 μ v 0 g c) (fun r => r = (zsi μ 3 1 (pt (μ.1 3 1) 0 (if g = 1 then 1 else 0)), (v >>> ((1 : Int32) &&& 31)) ||| (c <<< ((7 : Int32) &&& 31)))) := fun g c => by
    unfold fX12_turned_74
    refine zpc_j (K := fun u => fX12_turned_89 μ v 0 c u 0) (a := 1) (b := 0) (fun u eu => ?_)
    unfold fX12_turned_89 fX12_turned_118
    refine zpc_bu p_put' (fun t et => ?_)
    rw [et, eu]
    exact zpc_if (fun _ => zpc_some rfl) (fun q => absurd rfl q)
  unfold fX12_turned fX12_turned_11 fX12_turned_26
  refine zpc_ck (zpc_if (fun q => absurd q (by decide)) (fun _ => zpc_if (fun _ => ?_) (fun q => absurd rfl q)))
  exact zpc_if (fun q => absurd q (by decide)) (fun _ => f74 _ _)
theorem p_rotC2 : zpc (fX5_turn σ 2 v) (fun r => r = (zsi σ 36 1 (crot (((v <<< ((1 : Int32) &&& 31)) &&& 255) ||| (σ.1 36 1 &&& 1)) (v >>> ((7 : Int32) &&& 31))), ((v <<< ((1 : Int32) &&& 31)) &&& 255) ||| (σ.1 36 1 &&& 1))) := by
  have f136 : ∀ (g w : Int32), zpc (fX5_turn_136 σ g w) (fun r => r = (zsi σ 36 1 (crot w g), w)) := fun g w => by
    unfold fX5_turn_136 crot
    refine zpc_bi p_byC (fun t x et => ?_)
    cases et
    refine zpc_bi p_parC (fun t x et => ?_)
    cases et
    exact zpc_ck (zpc_bv (fun t et => zpc_some (by rw [et]; rfl)))
  unfold fX5_turn fX5_turn_11 fX5_turn_26 fX5_turn_72 fX5_turn_79 fX5_turn_107 fX5_turn_110
  refine zpc_if (fun _ => zpc_if (fun q => absurd q (by decide)) (fun _ => ?_)) (fun q => absurd (by decide) q)
  exact zpc_if (fun q => absurd q (by decide)) (fun _ => zpc_if (fun q => absurd q (by decide)) (fun _ => zpc_if (fun _ => zpc_ck (zpc_bv (fun u eu => by subst eu; exact zpc_if (fun q => absurd q (by decide)) (fun _ => f136 _ _)))) (fun q => absurd rfl q)))
theorem p_rotM2 : zpc (fX12_turned μ 2 v) (fun r => r = (zsi μ 3 1 (pt (μ.1 3 1) 0 (if v >>> ((7 : Int32) &&& 31) = 1 then 1 else 0)), ((v <<< ((1 : Int32) &&& 31)) &&& 255) ||| ((μ.1 3 1 >>> ((0 : Int32) &&& 31)) &&& 1))) := by
  have f74 : ∀ (g c : Int32), zpc (fX12_turned_74 μ v 1 g c) (fun r => r = (zsi μ 3 1 (pt (μ.1 3 1) 0 (if g = 1 then 1 else 0)), ((v <<< ((1 : Int32) &&& 31)) &&& 255) ||| c)) := fun g c => by
    unfold fX12_turned_74
    refine zpc_j (K := fun u => fX12_turned_89 μ v 1 c u 0) (a := 1) (b := 0) (fun u eu => ?_)
    unfold fX12_turned_89 fX12_turned_118
    refine zpc_bu p_put' (fun t et => ?_)
    rw [et, eu]
    exact zpc_if (fun q => absurd q (by decide)) (fun _ => zpc_some rfl)
  unfold fX12_turned fX12_turned_11 fX12_turned_26
  refine zpc_ck (zpc_if (fun _ => zpc_if (fun q => absurd q (by decide)) (fun _ => ?_)) (fun q => absurd (by decide) q))
  refine zpc_if (fun _ => zpc_if (fun q => absurd q (by decide)) (fun _ => zpc_bi p_flag (fun t u et => ?_))) (fun q => absurd (by decide) q)
  cases et
  exact f74 _ _
theorem p_rotC3 : zpc (fX5_turn σ 3 v) (fun r => r = (zsi σ 36 1 (crot ((v >>> ((1 : Int32) &&& 31)) ||| ((σ.1 36 1 &&& 1) <<< ((7 : Int32) &&& 31))) (v &&& 1)), (v >>> ((1 : Int32) &&& 31)) ||| ((σ.1 36 1 &&& 1) <<< ((7 : Int32) &&& 31)))) := by
  have f136 : ∀ (g w : Int32), zpc (fX5_turn_136 σ g w) (fun r => r = (zsi σ 36 1 (crot w g), w)) := fun g w => by
    unfold fX5_turn_136 crot
    refine zpc_bi p_byC (fun t x et => ?_)
    cases et
    refine zpc_bi p_parC (fun t x et => ?_)
    cases et
    exact zpc_ck (zpc_bv (fun t et => zpc_some (by rw [et]; rfl)))
  unfold fX5_turn fX5_turn_11 fX5_turn_26 fX5_turn_72 fX5_turn_79 fX5_turn_107 fX5_turn_110
  refine zpc_if (fun q => absurd q (by decide)) (fun _ => zpc_if (fun _ => ?_) (fun q => absurd rfl q))
  exact zpc_if (fun q => absurd q (by decide)) (fun _ => zpc_if (fun q => absurd q (by decide)) (fun _ => zpc_if (fun q => absurd q (by decide)) (fun _ => zpc_if (fun _ => zpc_ck (zpc_bv (fun u eu => by subst eu; exact zpc_if (fun _ => f136 _ _) (fun q => absurd rfl q)))) (fun q => absurd rfl q))))
theorem p_rotM3 : zpc (fX12_turned μ 3 v) (fun r => r = (zsi μ 3 1 (pt (μ.1 3 1) 0 (if v &&& 1 = 1 then 1 else 0)), (v >>> ((1 : Int32) &&& 31)) ||| (((μ.1 3 1 >>> ((0 : Int32) &&& 31)) &&& 1) <<< ((7 : Int32) &&& 31)))) := by
  have f74 : ∀ (g c : Int32), zpc (fX12_turned_74 μ v 0 g c) (fun r => r = (zsi μ 3 1 (pt (μ.1 3 1) 0 (if g = 1 then 1 else 0)), (v >>> ((1 : Int32) &&& 31)) ||| (c <<< ((7 : Int32) &&& 31)))) := fun g c => by
    unfold fX12_turned_74
    refine zpc_j (K := fun u => fX12_turned_89 μ v 0 c u 0) (a := 1) (b := 0) (fun u eu => ?_)
    unfold fX12_turned_89 fX12_turned_118
    refine zpc_bu p_put' (fun t et => ?_)
    rw [et, eu]
    exact zpc_if (fun _ => zpc_some rfl) (fun q => absurd rfl q)
  unfold fX12_turned fX12_turned_11 fX12_turned_26
  refine zpc_ck (zpc_if (fun q => absurd q (by decide)) (fun _ => zpc_if (fun _ => ?_) (fun q => absurd rfl q)))
  refine zpc_if (fun _ => zpc_if (fun q => absurd q (by decide)) (fun _ => zpc_bi p_flag (fun t u et => ?_))) (fun q => absurd (by decide) q)
  cases et
  exact f74 _ _
theorem p_rotC4 : zpc (fX5_turn σ 4 v) (fun r => r = (zsi σ 36 1 (crot (((v <<< ((1 : Int32) &&& 31)) &&& 255) ||| 0) (v >>> ((7 : Int32) &&& 31))), ((v <<< ((1 : Int32) &&& 31)) &&& 255) ||| 0)) := by
  have f136 : ∀ (g w : Int32), zpc (fX5_turn_136 σ g w) (fun r => r = (zsi σ 36 1 (crot w g), w)) := fun g w => by
    unfold fX5_turn_136 crot
    refine zpc_bi p_byC (fun t x et => ?_)
    cases et
    refine zpc_bi p_parC (fun t x et => ?_)
    cases et
    exact zpc_ck (zpc_bv (fun t et => zpc_some (by rw [et]; rfl)))
  unfold fX5_turn fX5_turn_11 fX5_turn_26 fX5_turn_72 fX5_turn_79 fX5_turn_107 fX5_turn_110
  refine zpc_if (fun _ => zpc_if (fun q => absurd q (by decide)) (fun _ => ?_)) (fun q => absurd (by decide) q)
  exact zpc_if (fun q => absurd q (by decide)) (fun _ => zpc_if (fun q => absurd q (by decide)) (fun _ => zpc_if (fun q => absurd q (by decide)) (fun _ => zpc_if (fun q => absurd q (by decide)) (fun _ => zpc_if (fun _ => zpc_if (fun q => absurd q (by decide)) (fun _ => f136 _ _)) (fun q => absurd rfl q)))))
theorem p_rotM4 : zpc (fX12_turned μ 4 v) (fun r => r = (zsi μ 3 1 (pt (μ.1 3 1) 0 (if v >>> ((7 : Int32) &&& 31) = 1 then 1 else 0)), ((v <<< ((1 : Int32) &&& 31)) &&& 255) ||| 0)) := by
  have f74 : ∀ (g c : Int32), zpc (fX12_turned_74 μ v 1 g c) (fun r => r = (zsi μ 3 1 (pt (μ.1 3 1) 0 (if g = 1 then 1 else 0)), ((v <<< ((1 : Int32) &&& 31)) &&& 255) ||| c)) := fun g c => by
    unfold fX12_turned_74
    refine zpc_j (K := fun u => fX12_turned_89 μ v 1 c u 0) (a := 1) (b := 0) (fun u eu => ?_)
    unfold fX12_turned_89 fX12_turned_118
    refine zpc_bu p_put' (fun t et => ?_)
    rw [et, eu]
    exact zpc_if (fun q => absurd q (by decide)) (fun _ => zpc_some rfl)
  unfold fX12_turned fX12_turned_11 fX12_turned_26
  refine zpc_ck (zpc_if (fun _ => zpc_if (fun q => absurd q (by decide)) (fun _ => ?_)) (fun q => absurd (by decide) q))
  exact zpc_if (fun _ => zpc_if (fun _ => zpc_if (fun q => absurd q (by decide)) (fun _ => zpc_if (fun q => absurd q (by decide)) (fun _ => f74 _ _))) (fun q => absurd (by decide) q)) (fun q => absurd (by decide) q)
theorem p_rotC5 : zpc (fX5_turn σ 5 v) (fun r => r = (zsi σ 36 1 (crot ((v >>> ((1 : Int32) &&& 31)) ||| ((v >>> ((7 : Int32) &&& 31)) <<< ((7 : Int32) &&& 31))) (v &&& 1)), (v >>> ((1 : Int32) &&& 31)) ||| ((v >>> ((7 : Int32) &&& 31)) <<< ((7 : Int32) &&& 31)))) := by
  have f136 : ∀ (g w : Int32), zpc (fX5_turn_136 σ g w) (fun r => r = (zsi σ 36 1 (crot w g), w)) := fun g w => by
    unfold fX5_turn_136 crot
    refine zpc_bi p_byC (fun t x et => ?_)
    cases et
    refine zpc_bi p_parC (fun t x et => ?_)
    cases et
    exact zpc_ck (zpc_bv (fun t et => zpc_some (by rw [et]; rfl)))
  unfold fX5_turn fX5_turn_11 fX5_turn_26 fX5_turn_72 fX5_turn_79 fX5_turn_107 fX5_turn_110
  refine zpc_if (fun q => absurd q (by decide)) (fun _ => zpc_if (fun _ => ?_) (fun q => absurd rfl q))
  exact zpc_if (fun q => absurd q (by decide)) (fun _ => zpc_if (fun q => absurd q (by decide)) (fun _ => zpc_if (fun q => absurd q (by decide)) (fun _ => zpc_if (fun q => absurd q (by decide)) (fun _ => zpc_if (fun q => absurd q (by decide)) (fun _ => zpc_if (fun _ => zpc_bv (fun u eu => by subst eu; exact zpc_if (fun _ => f136 _ _) (fun q => absurd rfl q))) (fun q => absurd rfl q))))))
theorem p_rotM5 : zpc (fX12_turned μ 5 v) (fun r => r = (zsi μ 3 1 (pt (μ.1 3 1) 0 (if v &&& 1 = 1 then 1 else 0)), (v >>> ((1 : Int32) &&& 31)) ||| ((v >>> ((7 : Int32) &&& 31)) <<< ((7 : Int32) &&& 31)))) := by
  have f74 : ∀ (g c : Int32), zpc (fX12_turned_74 μ v 0 g c) (fun r => r = (zsi μ 3 1 (pt (μ.1 3 1) 0 (if g = 1 then 1 else 0)), (v >>> ((1 : Int32) &&& 31)) ||| (c <<< ((7 : Int32) &&& 31)))) := fun g c => by
    unfold fX12_turned_74
    refine zpc_j (K := fun u => fX12_turned_89 μ v 0 c u 0) (a := 1) (b := 0) (fun u eu => ?_)
    unfold fX12_turned_89 fX12_turned_118
    refine zpc_bu p_put' (fun t et => ?_)
    rw [et, eu]
    exact zpc_if (fun _ => zpc_some rfl) (fun q => absurd rfl q)
  unfold fX12_turned fX12_turned_11 fX12_turned_26
  refine zpc_ck (zpc_if (fun q => absurd q (by decide)) (fun _ => zpc_if (fun _ => ?_) (fun q => absurd rfl q)))
  exact zpc_if (fun _ => zpc_if (fun _ => zpc_if (fun _ => f74 _ _) (fun q => absurd rfl q)) (fun q => absurd (by decide) q)) (fun q => absurd (by decide) q)
theorem p_rotC6 : zpc (fX5_turn σ 6 v) (fun r => r = (zsi σ 36 1 (crot (((v <<< ((1 : Int32) &&& 31)) &&& 255) ||| 1) (v >>> ((7 : Int32) &&& 31))), ((v <<< ((1 : Int32) &&& 31)) &&& 255) ||| 1)) := by
  have f136 : ∀ (g w : Int32), zpc (fX5_turn_136 σ g w) (fun r => r = (zsi σ 36 1 (crot w g), w)) := fun g w => by
    unfold fX5_turn_136 crot
    refine zpc_bi p_byC (fun t x et => ?_)
    cases et
    refine zpc_bi p_parC (fun t x et => ?_)
    cases et
    exact zpc_ck (zpc_bv (fun t et => zpc_some (by rw [et]; rfl)))
  unfold fX5_turn fX5_turn_11 fX5_turn_26 fX5_turn_72 fX5_turn_79 fX5_turn_107 fX5_turn_110
  refine zpc_if (fun _ => zpc_if (fun q => absurd q (by decide)) (fun _ => ?_)) (fun q => absurd (by decide) q)
  exact zpc_if (fun q => absurd q (by decide)) (fun _ => zpc_if (fun q => absurd q (by decide)) (fun _ => zpc_if (fun q => absurd q (by decide)) (fun _ => zpc_if (fun q => absurd q (by decide)) (fun _ => zpc_if (fun q => absurd q (by decide)) (fun _ => zpc_if (fun q => absurd q (by decide)) (fun _ => zpc_if (fun _ => zpc_if (fun q => absurd q (by decide)) (fun _ => f136 _ _)) (fun q => absurd rfl q)))))))
theorem p_rotM6 : zpc (fX12_turned μ 6 v) (fun r => r = (zsi μ 3 1 (pt (μ.1 3 1) 0 (if v >>> ((7 : Int32) &&& 31) = 1 then 1 else 0)), ((v <<< ((1 : Int32) &&& 31)) &&& 255) ||| 1)) := by
  have f74 : ∀ (g c : Int32), zpc (fX12_turned_74 μ v 1 g c) (fun r => r = (zsi μ 3 1 (pt (μ.1 3 1) 0 (if g = 1 then 1 else 0)), ((v <<< ((1 : Int32) &&& 31)) &&& 255) ||| c)) := fun g c => by
    unfold fX12_turned_74
    refine zpc_j (K := fun u => fX12_turned_89 μ v 1 c u 0) (a := 1) (b := 0) (fun u eu => ?_)
    unfold fX12_turned_89 fX12_turned_118
    refine zpc_bu p_put' (fun t et => ?_)
    rw [et, eu]
    exact zpc_if (fun q => absurd q (by decide)) (fun _ => zpc_some rfl)
  unfold fX12_turned fX12_turned_11 fX12_turned_26
  refine zpc_ck (zpc_if (fun _ => zpc_if (fun q => absurd q (by decide)) (fun _ => ?_)) (fun q => absurd (by decide) q))
  exact zpc_if (fun _ => zpc_if (fun _ => zpc_if (fun q => absurd q (by decide)) (fun _ => zpc_if (fun _ => f74 _ _) (fun q => absurd rfl q))) (fun q => absurd (by decide) q)) (fun q => absurd (by decide) q)
theorem p_rotC7 : zpc (fX5_turn σ 7 v) (fun r => r = (zsi σ 36 1 (crot ((v >>> ((1 : Int32) &&& 31)) ||| (0 <<< ((7 : Int32) &&& 31))) (v &&& 1)), (v >>> ((1 : Int32) &&& 31)) ||| (0 <<< ((7 : Int32) &&& 31)))) := by
  have f136 : ∀ (g w : Int32), zpc (fX5_turn_136 σ g w) (fun r => r = (zsi σ 36 1 (crot w g), w)) := fun g w => by
    unfold fX5_turn_136 crot
    refine zpc_bi p_byC (fun t x et => ?_)
    cases et
    refine zpc_bi p_parC (fun t x et => ?_)
    cases et
    exact zpc_ck (zpc_bv (fun t et => zpc_some (by rw [et]; rfl)))
  unfold fX5_turn fX5_turn_11 fX5_turn_26 fX5_turn_72 fX5_turn_79 fX5_turn_107 fX5_turn_110
  refine zpc_if (fun q => absurd q (by decide)) (fun _ => zpc_if (fun _ => ?_) (fun q => absurd rfl q))
  exact zpc_if (fun q => absurd q (by decide)) (fun _ => zpc_if (fun q => absurd q (by decide)) (fun _ => zpc_if (fun q => absurd q (by decide)) (fun _ => zpc_if (fun q => absurd q (by decide)) (fun _ => zpc_if (fun q => absurd q (by decide)) (fun _ => zpc_if (fun q => absurd q (by decide)) (fun _ => zpc_if (fun q => absurd q (by decide)) (fun _ => zpc_if (fun _ => f136 _ _) (fun q => absurd rfl q))))))))
theorem p_rotM7 : zpc (fX12_turned μ 7 v) (fun r => r = (zsi μ 3 1 (pt (μ.1 3 1) 0 (if v &&& 1 = 1 then 1 else 0)), (v >>> ((1 : Int32) &&& 31)) ||| (0 <<< ((7 : Int32) &&& 31)))) := by
  have f74 : ∀ (g c : Int32), zpc (fX12_turned_74 μ v 0 g c) (fun r => r = (zsi μ 3 1 (pt (μ.1 3 1) 0 (if g = 1 then 1 else 0)), (v >>> ((1 : Int32) &&& 31)) ||| (c <<< ((7 : Int32) &&& 31)))) := fun g c => by
    unfold fX12_turned_74
    refine zpc_j (K := fun u => fX12_turned_89 μ v 0 c u 0) (a := 1) (b := 0) (fun u eu => ?_)
    unfold fX12_turned_89 fX12_turned_118
    refine zpc_bu p_put' (fun t et => ?_)
    rw [et, eu]
    exact zpc_if (fun _ => zpc_some rfl) (fun q => absurd rfl q)
  unfold fX12_turned fX12_turned_11 fX12_turned_26
  refine zpc_ck (zpc_if (fun q => absurd q (by decide)) (fun _ => zpc_if (fun _ => ?_) (fun q => absurd rfl q)))
  exact zpc_if (fun _ => zpc_if (fun _ => zpc_if (fun q => absurd q (by decide)) (fun _ => zpc_if (fun q => absurd q (by decide)) (fun _ => f74 _ _))) (fun q => absurd (by decide) q)) (fun q => absurd (by decide) q)
end ZRT
theorem v_rotf0 : ∀ i : Fin 256, ∀ c : Fin 2, (0 ≤ ((((Int32.ofNat i.val) <<< ((1 : Int32) &&& 31)) &&& 255) ||| ((Int32.ofNat i.val) >>> ((7 : Int32) &&& 31))).toInt ∧ ((((Int32.ofNat i.val) <<< ((1 : Int32) &&& 31)) &&& 255) ||| ((Int32.ofNat i.val) >>> ((7 : Int32) &&& 31))).toInt ≤ 255) ∧ (0 ≤ ((Int32.ofNat i.val) >>> ((7 : Int32) &&& 31)).toInt ∧ ((Int32.ofNat i.val) >>> ((7 : Int32) &&& 31)).toInt ≤ 1) := by decide +kernel
theorem v_rotf1 : ∀ i : Fin 256, ∀ c : Fin 2, (0 ≤ (((Int32.ofNat i.val) >>> ((1 : Int32) &&& 31)) ||| (((Int32.ofNat i.val) &&& 1) <<< ((7 : Int32) &&& 31))).toInt ∧ (((Int32.ofNat i.val) >>> ((1 : Int32) &&& 31)) ||| (((Int32.ofNat i.val) &&& 1) <<< ((7 : Int32) &&& 31))).toInt ≤ 255) ∧ (0 ≤ ((Int32.ofNat i.val) &&& 1).toInt ∧ ((Int32.ofNat i.val) &&& 1).toInt ≤ 1) := by decide +kernel
theorem v_rotf2 : ∀ i : Fin 256, ∀ c : Fin 2, (0 ≤ ((((Int32.ofNat i.val) <<< ((1 : Int32) &&& 31)) &&& 255) ||| (Int32.ofNat c.val)).toInt ∧ ((((Int32.ofNat i.val) <<< ((1 : Int32) &&& 31)) &&& 255) ||| (Int32.ofNat c.val)).toInt ≤ 255) ∧ (0 ≤ ((Int32.ofNat i.val) >>> ((7 : Int32) &&& 31)).toInt ∧ ((Int32.ofNat i.val) >>> ((7 : Int32) &&& 31)).toInt ≤ 1) := by decide +kernel
theorem v_rotf3 : ∀ i : Fin 256, ∀ c : Fin 2, (0 ≤ (((Int32.ofNat i.val) >>> ((1 : Int32) &&& 31)) ||| ((Int32.ofNat c.val) <<< ((7 : Int32) &&& 31))).toInt ∧ (((Int32.ofNat i.val) >>> ((1 : Int32) &&& 31)) ||| ((Int32.ofNat c.val) <<< ((7 : Int32) &&& 31))).toInt ≤ 255) ∧ (0 ≤ ((Int32.ofNat i.val) &&& 1).toInt ∧ ((Int32.ofNat i.val) &&& 1).toInt ≤ 1) := by decide +kernel
theorem v_rotf4 : ∀ i : Fin 256, ∀ c : Fin 2, (0 ≤ ((((Int32.ofNat i.val) <<< ((1 : Int32) &&& 31)) &&& 255) ||| 0).toInt ∧ ((((Int32.ofNat i.val) <<< ((1 : Int32) &&& 31)) &&& 255) ||| 0).toInt ≤ 255) ∧ (0 ≤ ((Int32.ofNat i.val) >>> ((7 : Int32) &&& 31)).toInt ∧ ((Int32.ofNat i.val) >>> ((7 : Int32) &&& 31)).toInt ≤ 1) := by decide +kernel
theorem v_rotf5 : ∀ i : Fin 256, ∀ c : Fin 2, (0 ≤ (((Int32.ofNat i.val) >>> ((1 : Int32) &&& 31)) ||| (((Int32.ofNat i.val) >>> ((7 : Int32) &&& 31)) <<< ((7 : Int32) &&& 31))).toInt ∧ (((Int32.ofNat i.val) >>> ((1 : Int32) &&& 31)) ||| (((Int32.ofNat i.val) >>> ((7 : Int32) &&& 31)) <<< ((7 : Int32) &&& 31))).toInt ≤ 255) ∧ (0 ≤ ((Int32.ofNat i.val) &&& 1).toInt ∧ ((Int32.ofNat i.val) &&& 1).toInt ≤ 1) := by decide +kernel
theorem v_rotf6 : ∀ i : Fin 256, ∀ c : Fin 2, (0 ≤ ((((Int32.ofNat i.val) <<< ((1 : Int32) &&& 31)) &&& 255) ||| 1).toInt ∧ ((((Int32.ofNat i.val) <<< ((1 : Int32) &&& 31)) &&& 255) ||| 1).toInt ≤ 255) ∧ (0 ≤ ((Int32.ofNat i.val) >>> ((7 : Int32) &&& 31)).toInt ∧ ((Int32.ofNat i.val) >>> ((7 : Int32) &&& 31)).toInt ≤ 1) := by decide +kernel
theorem v_rotf7 : ∀ i : Fin 256, ∀ c : Fin 2, (0 ≤ (((Int32.ofNat i.val) >>> ((1 : Int32) &&& 31)) ||| (0 <<< ((7 : Int32) &&& 31))).toInt ∧ (((Int32.ofNat i.val) >>> ((1 : Int32) &&& 31)) ||| (0 <<< ((7 : Int32) &&& 31))).toInt ≤ 255) ∧ (0 ≤ ((Int32.ofNat i.val) &&& 1).toInt ∧ ((Int32.ofNat i.val) &&& 1).toInt ≤ 1) := by decide +kernel
theorem v_rtf : ∀ i : Fin 256, ∀ k : Fin 2, zfl (d7 (Int32.ofNat i.val)) (d6 (Int32.ofNat i.val)) (d5 (Int32.ofNat i.val)) false (d3 (Int32.ofNat i.val)) (bc (gev (Int32.ofNat i.val))) false (bc (if Int32.ofNat k.val = 1 then 1 else 0)) = crot (Int32.ofNat i.val) (Int32.ofNat k.val) := by decide +kernel
theorem v_rt {w g : Int32} (hw : zr 0 255 w) (hg : zr 0 1 g) : zfl (d7 w) (d6 w) (d5 w) false (d3 w) (bc (gev w)) false (bc (if g = 1 then 1 else 0)) = crot w g := by
  obtain ⟨i, ei⟩ := z_byteF hw
  obtain ⟨k, ek⟩ := z_bit1 hg
  subst ei
  subst ek
  exact v_rtf i k
theorem v_r41 : ∀ i : Fin 256, ∀ k : Fin 2, crot (Int32.ofNat i.val) (Int32.ofNat k.val) &&& 41 = ((bif d5 (Int32.ofNat i.val) then 32 else 0) ||| (bif d3 (Int32.ofNat i.val) then 8 else 0)) ||| (bif bc (if Int32.ofNat k.val = 1 then 1 else 0) then 1 else 0) := by decide +kernel
theorem v_196 : ∀ i : Fin 256, Int32.ofNat i.val &&& 196 = ((bif decide (¬ Int32.ofNat i.val &&& 128 = 0) then 128 else 0) ||| (bif decide (¬ Int32.ofNat i.val &&& 64 = 0) then 64 else 0)) ||| (bif decide (¬ Int32.ofNat i.val &&& 4 = 0) then 4 else 0) := by decide +kernel
theorem v_acB : ∀ b7 b6 b5 b3 b2 b0 : Bool, zfl b7 b6 b5 false b3 b2 false b0 = (((bif b7 then 128 else 0) ||| (bif b6 then 64 else 0)) ||| (bif b2 then 4 else 0)) ||| (((bif b5 then 32 else 0) ||| (bif b3 then 8 else 0)) ||| (bif b0 then 1 else 0)) := by decide
/-- the flags behind RLCA and its like -/
theorem v_ac {f w g : Int32} (hf : zr 0 255 f) (hw : zr 0 255 w) (hg : zr 0 1 g) : pt (pt (gxy (pt f 0 (if g = 1 then 1 else 0)) w) 4 0) 1 0 = (f &&& 196) ||| (crot w g &&& 41) := by
  have e : pt (pt (gxy (pt f 0 (if g = 1 then 1 else 0)) w) 4 0) 1 0 = zfl (decide (¬ f &&& 128 = 0)) (decide (¬ f &&& 64 = 0)) (d5 w) false (d3 w) (decide (¬ f &&& 4 = 0)) false (bc (if g = 1 then 1 else 0)) := by
    rw [fl_of hf, pt_0, fl_xy, pt_4, pt_1, ← fl_of hf]
    rfl
  rw [e, v_acB]
  obtain ⟨i, ei⟩ := z_byteF hw
  obtain ⟨k, ek⟩ := z_bit1 hg
  obtain ⟨l, el⟩ := z_byteF hf
  subst ei
  subst ek
  subst el
  rw [v_r41 i k, v_196 l]
