/-! CONDITIONS -/
theorem v_b0 : ∀ i : Fin 256, ((Int32.ofNat i.val) >>> ((0 : Int32) &&& 31)) &&& 1 = if Int32.ofNat i.val &&& 1 = 0 then 0 else 1 := by decide +kernel
theorem z_bt0 {f : Int32} (h : zr 0 255 f) : (f >>> ((0 : Int32) &&& 31)) &&& 1 = if f &&& 1 = 0 then 0 else 1 := by
  obtain ⟨i, ei⟩ := z_byteF h
  subst ei
  exact v_b0 i
theorem v_b1 : ∀ i : Fin 256, ((Int32.ofNat i.val) >>> ((1 : Int32) &&& 31)) &&& 1 = if Int32.ofNat i.val &&& 2 = 0 then 0 else 1 := by decide +kernel
theorem z_bt1 {f : Int32} (h : zr 0 255 f) : (f >>> ((1 : Int32) &&& 31)) &&& 1 = if f &&& 2 = 0 then 0 else 1 := by
  obtain ⟨i, ei⟩ := z_byteF h
  subst ei
  exact v_b1 i
theorem v_b2 : ∀ i : Fin 256, ((Int32.ofNat i.val) >>> ((2 : Int32) &&& 31)) &&& 1 = if Int32.ofNat i.val &&& 4 = 0 then 0 else 1 := by decide +kernel
theorem z_bt2 {f : Int32} (h : zr 0 255 f) : (f >>> ((2 : Int32) &&& 31)) &&& 1 = if f &&& 4 = 0 then 0 else 1 := by
  obtain ⟨i, ei⟩ := z_byteF h
  subst ei
  exact v_b2 i
theorem v_b3 : ∀ i : Fin 256, ((Int32.ofNat i.val) >>> ((3 : Int32) &&& 31)) &&& 1 = if Int32.ofNat i.val &&& 8 = 0 then 0 else 1 := by decide +kernel
theorem z_bt3 {f : Int32} (h : zr 0 255 f) : (f >>> ((3 : Int32) &&& 31)) &&& 1 = if f &&& 8 = 0 then 0 else 1 := by
  obtain ⟨i, ei⟩ := z_byteF h
  subst ei
  exact v_b3 i
theorem v_b4 : ∀ i : Fin 256, ((Int32.ofNat i.val) >>> ((4 : Int32) &&& 31)) &&& 1 = if Int32.ofNat i.val &&& 16 = 0 then 0 else 1 := by decide +kernel
theorem z_bt4 {f : Int32} (h : zr 0 255 f) : (f >>> ((4 : Int32) &&& 31)) &&& 1 = if f &&& 16 = 0 then 0 else 1 := by
  obtain ⟨i, ei⟩ := z_byteF h
  subst ei
  exact v_b4 i
theorem v_b5 : ∀ i : Fin 256, ((Int32.ofNat i.val) >>> ((5 : Int32) &&& 31)) &&& 1 = if Int32.ofNat i.val &&& 32 = 0 then 0 else 1 := by decide +kernel
theorem z_bt5 {f : Int32} (h : zr 0 255 f) : (f >>> ((5 : Int32) &&& 31)) &&& 1 = if f &&& 32 = 0 then 0 else 1 := by
  obtain ⟨i, ei⟩ := z_byteF h
  subst ei
  exact v_b5 i
theorem v_b6 : ∀ i : Fin 256, ((Int32.ofNat i.val) >>> ((6 : Int32) &&& 31)) &&& 1 = if Int32.ofNat i.val &&& 64 = 0 then 0 else 1 := by decide +kernel
theorem z_bt6 {f : Int32} (h : zr 0 255 f) : (f >>> ((6 : Int32) &&& 31)) &&& 1 = if f &&& 64 = 0 then 0 else 1 := by
  obtain ⟨i, ei⟩ := z_byteF h
  subst ei
  exact v_b6 i
theorem v_b7 : ∀ i : Fin 256, ((Int32.ofNat i.val) >>> ((7 : Int32) &&& 31)) &&& 1 = if Int32.ofNat i.val &&& 128 = 0 then 0 else 1 := by decide +kernel
theorem z_bt7 {f : Int32} (h : zr 0 255 f) : (f >>> ((7 : Int32) &&& 31)) &&& 1 = if f &&& 128 = 0 then 0 else 1 := by
  obtain ⟨i, ei⟩ := z_byteF h
  subst ei
  exact v_b7 i
section ZCC
variable {I : zSt → zSt → Prop} {σ μ : zSt}
theorem t_cc (hF : zF σ μ) (hf : zr 0 255 (σ.1 36 1)) {y : Int32} (hy : zr 0 7 y) : zp2 (fX5_holds σ y) (fX12_cc μ y) (fun r r' => r.1 = σ ∧ r'.1 = μ ∧ r'.2 = r.2 ∧ zr 0 1 r.2) := by
  have ef : μ.1 3 1 = σ.1 36 1 := hF
  have r0 : zr 0 1 (0 : Int32) := zr_c (by decide)
  have r1 : zr 0 1 (1 : Int32) := zr_c (by decide)
  unfold fX5_holds fX12_cc fX5_holds_24 fX5_holds_36 fX5_holds_44 fX12_cc_32
  rcases zr_hd (c := 0) hy rfl with e | hy
  · subst e
    refine zp2_ckl (zp2_ckl ?_)
    refine zp2_ifr (fun q => absurd q (by decide)) (fun _ => ?_)
    refine zp2_bir p_flag (fun t u et => ?_)
    cases et
    rw [ef, z_bt6 hf]
    unfold fX12_cc_44 fX12_cc_56 fX12_cc_64
    by_cases q : σ.1 36 1 &&& 64 = 0
    · refine zp2_ifl (fun _ => ?_) (fun r => absurd (show σ.1 36 1 &&& 64 = 0 from q) r)
      refine zp2_ifl (fun q => absurd q (by decide)) (fun _ => ?_)
      refine zp2_ifl (fun _ => zp2_ckl ?_) (fun r => absurd rfl r)
      rw [if_pos q]
      refine zp2_ifr (fun q => absurd q (by decide)) (fun _ => zp2_ckr ?_)
      refine zp2_ifr (fun q => absurd q (by decide)) (fun _ => ?_)
      exact zp2_ifr (fun _ => zp2_ckr (zp2_some ⟨rfl, rfl, rfl, r1⟩)) (fun r => absurd rfl r)
    · refine zp2_ifl (fun r => absurd (show σ.1 36 1 &&& 64 = 0 from r) q) (fun _ => ?_)
      refine zp2_ifl (fun q => absurd q (by decide)) (fun _ => ?_)
      refine zp2_ifl (fun q => absurd q (by decide)) (fun _ => zp2_ckl ?_)
      rw [if_neg q]
      refine zp2_ifr (fun _ => zp2_ckr ?_) (fun r => absurd rfl r)
      refine zp2_ifr (fun q => absurd q (by decide)) (fun _ => ?_)
      exact zp2_ifr (fun q => absurd q (by decide)) (fun _ => zp2_ckr (zp2_some ⟨rfl, rfl, rfl, r0⟩))
  rcases zr_hd (c := 1) hy rfl with e | hy
  · subst e
    refine zp2_ckl (zp2_ckl ?_)
    refine zp2_ifr (fun q => absurd q (by decide)) (fun _ => ?_)
    refine zp2_bir p_flag (fun t u et => ?_)
    cases et
    rw [ef, z_bt6 hf]
    unfold fX12_cc_44 fX12_cc_56 fX12_cc_64
    by_cases q : σ.1 36 1 &&& 64 = 0
    · refine zp2_ifl (fun _ => ?_) (fun r => absurd (show σ.1 36 1 &&& 64 = 0 from q) r)
      refine zp2_ifl (fun _ => ?_) (fun r => absurd (by decide) r)
      refine zp2_ifl (fun q => absurd q (by decide)) (fun _ => zp2_ckl ?_)
      rw [if_pos q]
      refine zp2_ifr (fun q => absurd q (by decide)) (fun _ => zp2_ckr ?_)
      refine zp2_ifr (fun _ => ?_) (fun r => absurd (by decide) r)
      exact zp2_ifr (fun q => absurd q (by decide)) (fun _ => zp2_ckr (zp2_some ⟨rfl, rfl, rfl, r0⟩))
    · refine zp2_ifl (fun r => absurd (show σ.1 36 1 &&& 64 = 0 from r) q) (fun _ => ?_)
      refine zp2_ifl (fun _ => ?_) (fun r => absurd (by decide) r)
      refine zp2_ifl (fun _ => zp2_ckl ?_) (fun r => absurd rfl r)
      rw [if_neg q]
      refine zp2_ifr (fun _ => zp2_ckr ?_) (fun r => absurd rfl r)
      refine zp2_ifr (fun _ => ?_) (fun r => absurd (by decide) r)
      exact zp2_ifr (fun _ => zp2_ckr (zp2_some ⟨rfl, rfl, rfl, r1⟩)) (fun r => absurd rfl r)
  rcases zr_hd (c := 2) hy rfl with e | hy
  · subst e
    refine zp2_ckl (zp2_ckl ?_)
    refine zp2_ifr (fun _ => zp2_ifr (fun q => absurd q (by decide)) (fun _ => ?_)) (fun q => absurd (by decide) q)
    refine zp2_bir p_flag (fun t u et => ?_)
    cases et
    rw [ef, z_bt0 hf]
    unfold fX12_cc_44 fX12_cc_56 fX12_cc_64
    by_cases q : σ.1 36 1 &&& 1 = 0
    · refine zp2_ifl (fun _ => ?_) (fun r => absurd (show σ.1 36 1 &&& 1 = 0 from q) r)
      refine zp2_ifl (fun q => absurd q (by decide)) (fun _ => ?_)
      refine zp2_ifl (fun _ => zp2_ckl ?_) (fun r => absurd rfl r)
      rw [if_pos q]
      refine zp2_ifr (fun q => absurd q (by decide)) (fun _ => zp2_ckr ?_)
      refine zp2_ifr (fun q => absurd q (by decide)) (fun _ => ?_)
      exact zp2_ifr (fun _ => zp2_ckr (zp2_some ⟨rfl, rfl, rfl, r1⟩)) (fun r => absurd rfl r)
    · refine zp2_ifl (fun r => absurd (show σ.1 36 1 &&& 1 = 0 from r) q) (fun _ => ?_)
      refine zp2_ifl (fun q => absurd q (by decide)) (fun _ => ?_)
      refine zp2_ifl (fun q => absurd q (by decide)) (fun _ => zp2_ckl ?_)
      rw [if_neg q]
      refine zp2_ifr (fun _ => zp2_ckr ?_) (fun r => absurd rfl r)
      refine zp2_ifr (fun q => absurd q (by decide)) (fun _ => ?_)
      exact zp2_ifr (fun q => absurd q (by decide)) (fun _ => zp2_ckr (zp2_some ⟨rfl, rfl, rfl, r0⟩))
  rcases zr_hd (c := 3) hy rfl with e | hy
  · subst e
    refine zp2_ckl (zp2_ckl ?_)
    refine zp2_ifr (fun _ => zp2_ifr (fun q => absurd q (by decide)) (fun _ => ?_)) (fun q => absurd (by decide) q)
    refine zp2_bir p_flag (fun t u et => ?_)
    cases et
    rw [ef, z_bt0 hf]
    unfold fX12_cc_44 fX12_cc_56 fX12_cc_64
    by_cases q : σ.1 36 1 &&& 1 = 0
    · refine zp2_ifl (fun _ => ?_) (fun r => absurd (show σ.1 36 1 &&& 1 = 0 from q) r)
      refine zp2_ifl (fun _ => ?_) (fun r => absurd (by decide) r)
      refine zp2_ifl (fun q => absurd q (by decide)) (fun _ => zp2_ckl ?_)
      rw [if_pos q]
      refine zp2_ifr (fun q => absurd q (by decide)) (fun _ => zp2_ckr ?_)
      refine zp2_ifr (fun _ => ?_) (fun r => absurd (by decide) r)
      exact zp2_ifr (fun q => absurd q (by decide)) (fun _ => zp2_ckr (zp2_some ⟨rfl, rfl, rfl, r0⟩))
    · refine zp2_ifl (fun r => absurd (show σ.1 36 1 &&& 1 = 0 from r) q) (fun _ => ?_)
      refine zp2_ifl (fun _ => ?_) (fun r => absurd (by decide) r)
      refine zp2_ifl (fun _ => zp2_ckl ?_) (fun r => absurd rfl r)
      rw [if_neg q]
      refine zp2_ifr (fun _ => zp2_ckr ?_) (fun r => absurd rfl r)
      refine zp2_ifr (fun _ => ?_) (fun r => absurd (by decide) r)
      exact zp2_ifr (fun _ => zp2_ckr (zp2_some ⟨rfl, rfl, rfl, r1⟩)) (fun r => absurd rfl r)
  rcases zr_hd (c := 4) hy rfl with e | hy
  · subst e
    refine zp2_ckl (zp2_ckl ?_)
    refine zp2_ifr (fun _ => zp2_ifr (fun _ => zp2_ifr (fun q => absurd q (by decide)) (fun _ => ?_)) (fun q => absurd (by decide) q)) (fun q => absurd (by decide) q)
    refine zp2_bir p_flag (fun t u et => ?_)
    cases et
    rw [ef, z_bt2 hf]
    unfold fX12_cc_44 fX12_cc_56 fX12_cc_64
    by_cases q : σ.1 36 1 &&& 4 = 0
    · refine zp2_ifl (fun _ => ?_) (fun r => absurd (show σ.1 36 1 &&& 4 = 0 from q) r)
      refine zp2_ifl (fun q => absurd q (by decide)) (fun _ => ?_)
      refine zp2_ifl (fun _ => zp2_ckl ?_) (fun r => absurd rfl r)
      rw [if_pos q]
      refine zp2_ifr (fun q => absurd q (by decide)) (fun _ => zp2_ckr ?_)
      refine zp2_ifr (fun q => absurd q (by decide)) (fun _ => ?_)
      exact zp2_ifr (fun _ => zp2_ckr (zp2_some ⟨rfl, rfl, rfl, r1⟩)) (fun r => absurd rfl r)
    · refine zp2_ifl (fun r => absurd (show σ.1 36 1 &&& 4 = 0 from r) q) (fun _ => ?_)
      refine zp2_ifl (fun q => absurd q (by decide)) (fun _ => ?_)
      refine zp2_ifl (fun q => absurd q (by decide)) (fun _ => zp2_ckl ?_)
      rw [if_neg q]
      refine zp2_ifr (fun _ => zp2_ckr ?_) (fun r => absurd rfl r)
      refine zp2_ifr (fun q => absurd q (by decide)) (fun _ => ?_)
      exact zp2_ifr (fun q => absurd q (by decide)) (fun _ => zp2_ckr (zp2_some ⟨rfl, rfl, rfl, r0⟩))
  rcases zr_hd (c := 5) hy rfl with e | hy
  · subst e
    refine zp2_ckl (zp2_ckl ?_)
    refine zp2_ifr (fun _ => zp2_ifr (fun _ => zp2_ifr (fun q => absurd q (by decide)) (fun _ => ?_)) (fun q => absurd (by decide) q)) (fun q => absurd (by decide) q)
    refine zp2_bir p_flag (fun t u et => ?_)
    cases et
    rw [ef, z_bt2 hf]
    unfold fX12_cc_44 fX12_cc_56 fX12_cc_64
    by_cases q : σ.1 36 1 &&& 4 = 0
    · refine zp2_ifl (fun _ => ?_) (fun r => absurd (show σ.1 36 1 &&& 4 = 0 from q) r)
      refine zp2_ifl (fun _ => ?_) (fun r => absurd (by decide) r)
      refine zp2_ifl (fun q => absurd q (by decide)) (fun _ => zp2_ckl ?_)
      rw [if_pos q]
      refine zp2_ifr (fun q => absurd q (by decide)) (fun _ => zp2_ckr ?_)
      refine zp2_ifr (fun _ => ?_) (fun r => absurd (by decide) r)
      exact zp2_ifr (fun q => absurd q (by decide)) (fun _ => zp2_ckr (zp2_some ⟨rfl, rfl, rfl, r0⟩))
    · refine zp2_ifl (fun r => absurd (show σ.1 36 1 &&& 4 = 0 from r) q) (fun _ => ?_)
      refine zp2_ifl (fun _ => ?_) (fun r => absurd (by decide) r)
      refine zp2_ifl (fun _ => zp2_ckl ?_) (fun r => absurd rfl r)
      rw [if_neg q]
      refine zp2_ifr (fun _ => zp2_ckr ?_) (fun r => absurd rfl r)
      refine zp2_ifr (fun _ => ?_) (fun r => absurd (by decide) r)
      exact zp2_ifr (fun _ => zp2_ckr (zp2_some ⟨rfl, rfl, rfl, r1⟩)) (fun r => absurd rfl r)
  rcases zr_hd (c := 6) hy rfl with e | hy
  · subst e
    refine zp2_ckl (zp2_ckl ?_)
    refine zp2_ifr (fun _ => zp2_ifr (fun _ => zp2_ifr (fun _ => ?_) (fun q => absurd (by decide) q)) (fun q => absurd (by decide) q)) (fun q => absurd (by decide) q)
    refine zp2_bir p_flag (fun t u et => ?_)
    cases et
    rw [ef, z_bt7 hf]
    unfold fX12_cc_44 fX12_cc_56 fX12_cc_64
    by_cases q : σ.1 36 1 &&& 128 = 0
    · refine zp2_ifl (fun _ => ?_) (fun r => absurd (show σ.1 36 1 &&& 128 = 0 from q) r)
      refine zp2_ifl (fun q => absurd q (by decide)) (fun _ => ?_)
      refine zp2_ifl (fun _ => zp2_ckl ?_) (fun r => absurd rfl r)
      rw [if_pos q]
      refine zp2_ifr (fun q => absurd q (by decide)) (fun _ => zp2_ckr ?_)
      refine zp2_ifr (fun q => absurd q (by decide)) (fun _ => ?_)
      exact zp2_ifr (fun _ => zp2_ckr (zp2_some ⟨rfl, rfl, rfl, r1⟩)) (fun r => absurd rfl r)
    · refine zp2_ifl (fun r => absurd (show σ.1 36 1 &&& 128 = 0 from r) q) (fun _ => ?_)
      refine zp2_ifl (fun q => absurd q (by decide)) (fun _ => ?_)
      refine zp2_ifl (fun q => absurd q (by decide)) (fun _ => zp2_ckl ?_)
      rw [if_neg q]
      refine zp2_ifr (fun _ => zp2_ckr ?_) (fun r => absurd rfl r)
      refine zp2_ifr (fun q => absurd q (by decide)) (fun _ => ?_)
      exact zp2_ifr (fun q => absurd q (by decide)) (fun _ => zp2_ckr (zp2_some ⟨rfl, rfl, rfl, r0⟩))
  rcases zr_hd (c := 7) hy rfl with e | hy
  · subst e
    refine zp2_ckl (zp2_ckl ?_)
    refine zp2_ifr (fun _ => zp2_ifr (fun _ => zp2_ifr (fun _ => ?_) (fun q => absurd (by decide) q)) (fun q => absurd (by decide) q)) (fun q => absurd (by decide) q)
    refine zp2_bir p_flag (fun t u et => ?_)
    cases et
    rw [ef, z_bt7 hf]
    unfold fX12_cc_44 fX12_cc_56 fX12_cc_64
    by_cases q : σ.1 36 1 &&& 128 = 0
    · refine zp2_ifl (fun _ => ?_) (fun r => absurd (show σ.1 36 1 &&& 128 = 0 from q) r)
      refine zp2_ifl (fun _ => ?_) (fun r => absurd (by decide) r)
      refine zp2_ifl (fun q => absurd q (by decide)) (fun _ => zp2_ckl ?_)
      rw [if_pos q]
      refine zp2_ifr (fun q => absurd q (by decide)) (fun _ => zp2_ckr ?_)
      refine zp2_ifr (fun _ => ?_) (fun r => absurd (by decide) r)
      exact zp2_ifr (fun q => absurd q (by decide)) (fun _ => zp2_ckr (zp2_some ⟨rfl, rfl, rfl, r0⟩))
    · refine zp2_ifl (fun r => absurd (show σ.1 36 1 &&& 128 = 0 from r) q) (fun _ => ?_)
      refine zp2_ifl (fun _ => ?_) (fun r => absurd (by decide) r)
      refine zp2_ifl (fun _ => zp2_ckl ?_) (fun r => absurd rfl r)
      rw [if_neg q]
      refine zp2_ifr (fun _ => zp2_ckr ?_) (fun r => absurd rfl r)
      refine zp2_ifr (fun _ => ?_) (fun r => absurd (by decide) r)
      exact zp2_ifr (fun _ => zp2_ckr (zp2_some ⟨rfl, rfl, rfl, r1⟩)) (fun r => absurd rfl r)
  exact zr_no9 hy (by decide)
end ZCC
