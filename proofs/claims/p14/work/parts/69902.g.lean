/-! a write into both memories -/
def zFw (σ σ' : zSt) : Prop := (∀ k, ¬ k = 15 → ¬ k = 17 → ¬ k = 19 → σ'.1 k = σ.1 k) ∧ σ'.2 = σ.2
def zFv (μ μ' : zSt) : Prop := (∀ k, ¬ k = 3 → ¬ k = 5 → ¬ k = 6 → μ'.1 k = μ.1 k) ∧ (∀ j, j < 29 ∨ 32 < j → μ'.1 3 j = μ.1 3 j) ∧ μ'.2 = μ.2
theorem zFw.rf {σ : zSt} : zFw σ σ := ⟨fun _ _ _ _ => rfl, rfl⟩
theorem zFv.rf {μ : zSt} : zFv μ μ := ⟨fun _ _ _ _ => rfl, fun _ _ => rfl, rfl⟩
theorem zFw.tr {a b c : zSt} (h : zFw a b) (k : zFw b c) : zFw a c := ⟨fun i x y z => (k.1 i x y z).trans (h.1 i x y z), k.2.trans h.2⟩
theorem zFv.tr {a b c : zSt} (h : zFv a b) (k : zFv b c) : zFv a c := ⟨fun i x y z => (k.1 i x y z).trans (h.1 i x y z), fun j hj => (k.2.1 j hj).trans (h.2.1 j hj), k.2.2.trans h.2.2⟩
theorem zFw.w {σ : zSt} {k j : Nat} {v : Int32} (c : k = 15 ∨ k = 17 ∨ k = 19) : zFw σ (zsi σ k j v) := ⟨fun i x y z => zsi_ne (by omega), rfl⟩
theorem zFv.w5 {μ : zSt} {k j : Nat} {v : Int32} (c : k = 5 ∨ k = 6) : zFv μ (zsi μ k j v) := ⟨fun i x y z => zsi_ne (by omega), fun j hj => by rw [zsi_ne (by omega)], rfl⟩
theorem zFv.w3 {μ : zSt} {j : Nat} {v : Int32} (c : 29 ≤ j ∧ j ≤ 32) : zFv μ (zsi μ 3 j v) := ⟨fun i x y z => zsi_ne x, fun i hi => zsi_nj (by omega), rfl⟩
/-- cartridge: kept by such writes -/
theorem zMe.cart {σ σ' μ μ' : zSt} (h : zCart σ μ ∧ zFil μ) (a : zFw σ σ') (b : zFv μ μ') : zCart σ' μ' ∧ zFil μ' := by
  have r1 : σ'.1 1 = σ.1 1 := a.1 1 (by decide) (by decide) (by decide)
  have m0 : μ'.1 0 = μ.1 0 := b.1 0 (by decide) (by decide) (by decide)
  have m2 : μ'.1 2 = μ.1 2 := b.1 2 (by decide) (by decide) (by decide)
  refine ⟨h.1.keep (fun j _ => by rw [r1]) (a.1 _ ?_ ?_ ?_) (fun j _ => by rw [m0]) m2, ?_⟩
  · rcases z_tp13 (σ.1 1 1) with e | e <;> rw [e] <;> decide
  · rcases z_tp13 (σ.1 1 1) with e | e <;> rw [e] <;> decide
  · rcases z_tp13 (σ.1 1 1) with e | e <;> rw [e] <;> decide
  · unfold zFil
    rw [m0, m2]
    exact h.2
theorem zMe.ram {σ μ : zSt} (h : zMe σ μ) {i : Nat} {x y : Int32} (e : x = y &&& 255) : zMe (zsi σ 15 i x) (zsi μ 5 i y) := by
  obtain ⟨h1, h2, h3, h4, h5⟩ := h
  refine ⟨fun j hj => ?_, fun j hj => ?_, fun j hj => ?_, ?_, zMe.cart h5 (zFw.w (Or.inl rfl)) (zFv.w5 (Or.inl rfl))⟩
  · by_cases q : j = i
    · rw [q, zsi_ej, zsi_ej]; exact e
    · rw [zsi_nj q, zsi_nj q]; exact h1 j hj
  · rw [zsi_ne (by decide), zsi_ne (by decide)]; exact h2 j hj
  · rw [zsi_ne (by decide), zsi_ne (by decide)]; exact h3 j hj
  · rw [zsi_ne (by decide), zsi_ne (by decide)]; exact h4
theorem zMe.bat {σ μ : zSt} (h : zMe σ μ) {i : Nat} {x y : Int32} (e : x = y &&& 255) : zMe (zsi σ 17 i x) (zsi μ 6 i y) := by
  obtain ⟨h1, h2, h3, h4, h5⟩ := h
  refine ⟨fun j hj => ?_, fun j hj => ?_, fun j hj => ?_, ?_, zMe.cart h5 (zFw.w (Or.inr (Or.inl rfl))) (zFv.w5 (Or.inr rfl))⟩
  · rw [zsi_ne (by decide), zsi_ne (by decide)]; exact h1 j hj
  · by_cases q : j = i
    · rw [q, zsi_ej, zsi_ej]; exact e
    · rw [zsi_nj q, zsi_nj q]; exact h2 j hj
  · rw [zsi_ne (by decide), zsi_ne (by decide)]; exact h3 j hj
  · rw [zsi_ne (by decide), zsi_ne (by decide)]; exact h4
theorem zMe.page {σ μ : zSt} (h : zMe σ μ) {i : Nat} {x : Int32} (hi : i ≤ 3) : zMe (zsi σ 19 i x) (zsi μ 3 (29 + i) x) := by
  obtain ⟨h1, h2, h3, h4, h5⟩ := h
  refine ⟨fun j hj => ?_, fun j hj => ?_, fun j hj => ?_, ?_, zMe.cart h5 (zFw.w (Or.inr (Or.inr rfl))) (zFv.w3 (by omega))⟩
  · rw [zsi_ne (by decide), zsi_ne (by decide)]; exact h1 j hj
  · rw [zsi_ne (by decide), zsi_ne (by decide)]; exact h2 j hj
  · by_cases q : j = i
    · rw [q, zsi_ej, zsi_ej]
    · rw [zsi_nj q, zsi_nj (by omega)]; exact h3 j hj
  · by_cases q : (3 : Nat) = i
    · rw [← q, zsi_ej]
      exact zsi_ej.symm
    · rw [zsi_nj q, zsi_nj (by omega)]; exact h4
def zWq (σ μ : zSt) (r r' : zSt) : Prop := zMe r r' ∧ zFw σ r ∧ zFv μ r'
theorem z2_w22 {σ μ : zSt} {v x : Int32} (h : zMe σ μ) (hr : zMr σ μ) (hv : zr 0 65535 v) (hx : zr 0 255 x) : zp2 (fX2_write_22 σ x v) (fX12_write_31 μ v x) (zWq σ μ) := by
  have h' := h
  obtain ⟨hram, hbat, hpg, hk, hc, hf⟩ := h
  have hr' := hr
  obtain ⟨r3, r4, r6, r7, ryp, rpg⟩ := hr
  obtain ⟨d4, d5, d6, d7, db, _⟩ := hc
  have v0 := hv.1
  have v1 := hv.2
  have c2 : (65532 : Int32).toInt = 65532 := rfl
  have c3 : (65533 : Int32).toInt = 65533 := rfl
  have c8 : (32768 : Int32).toInt = 32768 := rfl
  have c9 : (49152 : Int32).toInt = 49152 := rfl
  have c0 : (0 : Int32).toInt = 0 := rfl
  have c6 : (16384 : Int32).toInt = 16384 := rfl
  have stay : zWq σ μ σ μ := ⟨h', zFw.rf, zFv.rf⟩
  have hxx : x = vp_nar .byte (x.toInt8.toInt32) &&& 255 := by
    rw [z_nar, z_i8]
    exact Int32.toInt_inj.mp (by rw [z_mask (k := 8) hx.1 rfl (by decide)]; have := hx.1; have := hx.2; show x.toInt = x.toInt % 256; omega)
  unfold fX2_write_22 fX12_write_31
  rw [show zgi σ 1 6 = μ.1 0 7 from d6]
  refine zp2_bir p_isBat (fun μ5 v6 p => ?_)
  obtain ⟨p1, p2⟩ := p
  have p1 : μ5 = μ := p1
  subst p1
  by_cases z1 : μ5.1 0 7 = 1
  · have n2 : ¬ μ5.1 0 7 = 2 := fun r => by rw [r] at z1; exact absurd z1 (by decide)
    have n3 : ¬ μ5.1 0 7 = 3 := fun r => by rw [r] at z1; exact absurd z1 (by decide)
    have done : ∀ (σ1 μ1 : zSt), zWq σ μ5 σ1 μ1 → zp2 (fX2_write_151 σ1 ) (fX12_write_103 μ1 v x) (zWq σ μ5) := fun σ1 μ1 hq => by
      unfold fX2_write_151 fX12_write_103 fX12_write_140 fX12_write_163
      have m : zgi μ1 0 7 = μ5.1 0 7 := congrFun (hq.2.2.1 0 (by decide) (by decide) (by decide)) 7
      rw [m]
      exact zp2_ifr (fun r => absurd r n2) (fun _ => zp2_ifr (fun r => absurd r n3) (fun _ => zp2_some hq))
    have low : v.toInt < 65532 → ∀ (σ1 μ1 : zSt), zWq σ μ5 σ1 μ1 → zp2 (fX2_write_151 σ1 ) (fX12_write_52 μ1 v x) (zWq σ μ5) := fun hl σ1 μ1 hq => by
      unfold fX12_write_52 fX12_write_75
      have m : zgi μ1 0 7 = μ5.1 0 7 := congrFun (hq.2.2.1 0 (by decide) (by decide) (by decide)) 7
      rw [m]
      refine zp2_ifr (fun _ => zp2_ifr (fun r => ?_) (fun _ => zp2_ifr (fun _ => zp2_ifr (fun _ => done σ1 μ1 hq) (fun r => ?_)) (fun r => absurd z1 r))) (fun r => absurd z1 r)
      · rw [r] at hl; exfalso; omega
      · have := Int32.lt_iff_toInt_lt.mp (z_nle r); exfalso; omega
    refine zp2_ifl (fun _ => zp2_ifl (fun q => ?_) (fun q => ?_)) (fun r => absurd z1 r)
    · have q1 := Int32.lt_iff_toInt_lt.mp q
      refine zp2_ifl (fun a => ?_) (fun a => zp2_ifl (fun b => ?_) (fun b => ?_))
      · have a1 := Int32.lt_iff_toInt_lt.mp a
        have nb : v6 = 0 := by
          rcases p2 with ⟨y, _⟩ | ⟨_, e⟩
          · have := y.2.2.1; exfalso; omega
          · exact e
        exact zp2_ifr (fun _ => low (by omega) σ μ5 stay) (fun r => absurd nb r)
      · have b1 := Int32.le_iff_toInt_le.mp b
        have nb : v6 = 0 := by
          rcases p2 with ⟨y, _⟩ | ⟨_, e⟩
          · have := y.2.2.2; exfalso; omega
          · exact e
        exact zp2_ifr (fun _ => low (by omega) σ μ5 stay) (fun r => absurd nb r)
      · have a1 := Int32.le_iff_toInt_le.mp (z_nlt a)
        have b1 := Int32.lt_iff_toInt_lt.mp (z_nle b)
        refine zp2_bil p_batIn (fun σ4 v5 bb => ?_)
        obtain ⟨s1, s2⟩ := bb
        have s1 : σ4 = σ := s1
        subst s1
        rw [d6, hk] at s2
        rcases p2 with ⟨y, y2⟩ | ⟨y, y2⟩
        · have y2 : v6 = 1 := y2
          have v5e : v5 = 1 := by
            rcases s2 with ⟨_, e⟩ | ⟨n, _⟩
            · exact e
            · exact absurd ⟨y.1, y.2.1⟩ n
          refine zp2_ifl (fun r => absurd (v5e.symm.trans r) (by decide)) (fun _ => zp2_ifr (fun r => absurd (y2.symm.trans r) (by decide)) (fun _ => ?_))
          refine zp2_bii (z2_batAt h' hr' y.2.2.1 y.2.2.2) (fun σ6 w7 μ7 w8 s => ?_)
          obtain ⟨t1, t2, t3, t4⟩ := s
          have t1 : σ6 = σ4 := t1
          have t2 : μ7 = μ5 := t2
          have t3 : w7 = w8 := t3
          subst t1
          subst t2
          subst t3
          refine zp2_ckl (zp2_bvl (fun σ8 e8 => zp2_ckr (zp2_bvr (fun μ9 e9 => ?_))))
          exact low (by omega) σ8 μ9 ⟨by rw [e8, e9]; exact h'.bat hxx, by rw [e8]; exact zFw.w (Or.inr (Or.inl rfl)), by rw [e9]; exact zFv.w5 (Or.inr rfl)⟩
        · have y2 : v6 = 0 := y2
          have v5e : v5 = 0 := by
            rcases s2 with ⟨z, _⟩ | ⟨_, e⟩
            · exact absurd ⟨z.1, z.2, by omega, by omega⟩ y
            · exact e
          exact zp2_ifl (fun _ => zp2_ifr (fun _ => low (by omega) σ4 μ5 stay) (fun r => absurd y2 r)) (fun r => absurd v5e r)
    · have q1 := Int32.le_iff_toInt_le.mp (z_nlt q)
      have nb : v6 = 0 := by
        rcases p2 with ⟨y, _⟩ | ⟨_, e⟩
        · have := y.2.2.2; exfalso; omega
        · exact e
      refine zp2_ifr (fun _ => ?_) (fun r => absurd nb r)
      unfold fX2_write_54 fX12_write_52 fX12_write_75
      rw [show zgi μ5 0 7 = μ5.1 0 7 from rfl]
      refine zp2_ifr (fun _ => ?_) (fun r => absurd z1 r)
      refine zp2_if (fun a => ?_) (fun a => ?_)
      · refine zp2_ckl (zp2_bvl (fun σ1 e1 => zp2_ckr (zp2_bvr (fun μ4 e4 => ?_))))
        have hq : zWq σ μ5 σ1 μ4 := ⟨by rw [e1, e4]; exact h'.page (i := 3) (by decide), by rw [e1]; exact zFw.w (Or.inr (Or.inr rfl)), by rw [e4]; exact zFv.w3 (by decide)⟩
        have m : zgi μ4 0 7 = μ5.1 0 7 := congrFun (hq.2.2.1 0 (by decide) (by decide) (by decide)) 7
        rw [m]
        exact zp2_ifr (fun _ => zp2_ifr (fun _ => done σ1 μ4 hq) (fun r => absurd (by rw [a]; decide) r)) (fun r => absurd z1 r)
      · refine zp2_ifr (fun _ => zp2_ifr (fun r => ?_) (fun _ => ?_)) (fun r => absurd z1 r)
        · have := Int32.le_iff_toInt_le.mp r
          exact absurd (Int32.toInt_inj.mp (by omega)) a
        · have a1 : ¬ v.toInt = 65532 := fun r => a (Int32.toInt_inj.mp (r.trans c2.symm))
          have t1 : (v - 65533).toInt = v.toInt - (65533 : Int32).toInt := z_tsub hv (zr_c (lo := 65533) (hi := 65533) (by decide)) (by decide)
          have t2 : (29 + v).toInt = (29 : Int32).toInt + v.toInt := z_tadd (zr_c (lo := 29) (hi := 29) (by decide)) hv (by decide)
          have t3 : ((29 + v) - 65533).toInt = (29 + v).toInt - (65533 : Int32).toInt := z_tsub (zr_add (lo := 29) (hi := 65564) (zr_c (lo := 29) (hi := 29) (by decide)) hv (by decide)) (zr_c (lo := 65533) (hi := 65533) (by decide)) (by decide)
          have c29 : (29 : Int32).toInt = 29 := rfl
          have k1 := z_clamp (x := v - 65533) (by omega)
          have k3 := z_clamp (x := (29 + v) - 65533) (by omega)
          refine zp2_ckl (zp2_bvl (fun σ1 e1 => zp2_ckr (zp2_bvr (fun μ3 e3 => ?_))))
          rw [show ((29 + v) - 65533).toNatClampNeg = 29 + (v - 65533).toNatClampNeg by omega] at e3
          exact done σ1 μ3 ⟨by rw [e1, e3]; exact h'.page (by omega), by rw [e1]; exact zFw.w (Or.inr (Or.inr rfl)), by rw [e3]; exact zFv.w3 (by omega)⟩
  · have nb : v6 = 0 := by
      rcases p2 with ⟨y, _⟩ | ⟨_, e⟩
      · exact absurd y.1 z1
      · exact e
    refine zp2_ifl (fun r => absurd r z1) (fun _ => zp2_ifr (fun _ => ?_) (fun r => absurd nb r))
    unfold fX12_write_52 fX12_write_75
    rw [show zgi μ5 0 7 = μ5.1 0 7 from rfl]
    refine zp2_ifr (fun r => absurd r z1) (fun _ => zp2_ifr (fun r => absurd r z1) (fun _ => ?_))
    -- paging 3 or none
    have last : ∀ (σ1 μ1 : zSt), ¬ μ5.1 0 7 = 3 → zWq σ μ5 σ1 μ1 → zp2 (fX2_write_151 σ1 ) (fX12_write_140 μ1 v x) (zWq σ μ5) := fun σ1 μ1 n3 hq => by
      unfold fX2_write_151 fX12_write_140 fX12_write_163
      have m : zgi μ1 0 7 = μ5.1 0 7 := congrFun (hq.2.2.1 0 (by decide) (by decide) (by decide)) 7
      rw [m]
      exact zp2_ifr (fun r => absurd r n3) (fun _ => zp2_some hq)
    have both : zp2 (fX2_write_130 σ x v) (fX12_write_140 μ5 v x) (zWq σ μ5) := by
      unfold fX2_write_130 fX2_write_151 fX12_write_140 fX12_write_163
      rw [show zgi σ 1 6 = zgi μ5 0 7 from d6]
      refine zp2_if (fun _ => zp2_if (fun _ => zp2_ckl (zp2_bvl (fun σ1 e1 => zp2_ckr (zp2_bvr (fun μ3 e3 => zp2_some ?_))))) (fun _ => zp2_some stay)) (fun _ => zp2_some stay)
      exact ⟨by rw [e1, e3]; exact h'.page (i := 2) (by decide), by rw [e1]; exact zFw.w (Or.inr (Or.inr rfl)), by rw [e3]; exact zFv.w3 (by decide)⟩
    unfold fX12_write_103
    rw [show zgi μ5 0 7 = μ5.1 0 7 from rfl]
    refine zp2_if (fun z2 => ?_) (fun z2 => both)
    have n3 : ¬ μ5.1 0 7 = 3 := fun r => by rw [r] at z2; exact absurd z2 (by decide)
    -- paging 2: one of three places, or none
    have hit : v.toInt < 49152 → v.toInt % 16384 = 0 → zp2 (fX2_write_117 σ x v) (if 49152 ≤ v then fX12_write_140 μ5 v x else zck (decide (¬ 16384 = 0)) (if (zrem v 16384) = 0 then zck (decide (¬ 16384 = 0)) (zck (zin (29 + (v / 16384)) 1048) (zbv (zsi μ5 3 ((29 + (v / 16384)).toNatClampNeg) x) (fun σ2 => fX12_write_140 σ2 v x))) else fX12_write_140 μ5 v x)) (zWq σ μ5) := fun hl hm => by
      obtain ⟨th, tr, td⟩ := z_third (v := v) ⟨v0, by omega⟩
      have rem := z_trem (y := (16384 : Int32)) 16384 rfl hv (by decide)
      have tr0 := tr.1
      have tr2 := tr.2
      have kt := z_clamp tr0
      have ta : (29 + v / 16384).toInt = (29 : Int32).toInt + (v / 16384).toInt := z_tadd (zr_c (lo := 29) (hi := 29) (by decide)) tr (by decide)
      have c29 : (29 : Int32).toInt = 29 := rfl
      have ka := z_clamp (x := 29 + v / 16384) (by omega)
      unfold fX2_write_117
      rw [th]
      refine zp2_ifr (fun r => ?_) (fun _ => zp2_ckr (zp2_ifr (fun _ => ?_) (fun r => ?_)))
      · have := Int32.le_iff_toInt_le.mp r; exfalso; omega
      · refine zp2_ckl (zp2_bvl (fun σ3 e3 => zp2_ckr (zp2_ckr (zp2_bvr (fun μ2 e2 => ?_)))))
        rw [show (29 + v / 16384).toNatClampNeg = 29 + (v / 16384).toNatClampNeg by omega] at e2
        exact last σ3 μ2 n3 ⟨by rw [e3, e2]; exact h'.page (by omega), by rw [e3]; exact zFw.w (Or.inr (Or.inr rfl)), by rw [e2]; exact zFv.w3 (by omega)⟩
      · exact absurd (Int32.toInt_inj.mp (by rw [rem, hm]; rfl)) r
    have miss : (49152 ≤ v.toInt ∨ ¬ v.toInt % 16384 = 0) → zp2 (fX2_write_130 σ x v) (if 49152 ≤ v then fX12_write_140 μ5 v x else zck (decide (¬ 16384 = 0)) (if (zrem v 16384) = 0 then zck (decide (¬ 16384 = 0)) (zck (zin (29 + (v / 16384)) 1048) (zbv (zsi μ5 3 ((29 + (v / 16384)).toNatClampNeg) x) (fun σ2 => fX12_write_140 σ2 v x))) else fX12_write_140 μ5 v x)) (zWq σ μ5) := fun hm => by
      have rem := z_trem (y := (16384 : Int32)) 16384 rfl hv (by decide)
      refine zp2_ifr (fun _ => both) (fun r => zp2_ckr (zp2_ifr (fun s => ?_) (fun _ => both)))
      have r1 := Int32.lt_iff_toInt_lt.mp (z_nle r)
      rw [s, c0] at rem
      exfalso
      omega
    refine zp2_ifl (fun a => ?_) (fun a => zp2_ifl (fun b => ?_) (fun b => zp2_ifl (fun c => ?_) (fun c => ?_)))
    · exact hit (by rw [a, c0]; decide) (by rw [a, c0]; decide)
    · exact hit (by rw [b, c6]; decide) (by rw [b, c6]; decide)
    · exact hit (by rw [c, c8]; decide) (by rw [c, c8]; decide)
    · refine miss ?_
      have a1 : ¬ v.toInt = 0 := fun r => a (Int32.toInt_inj.mp (r.trans c0.symm))
      have b1 : ¬ v.toInt = 16384 := fun r => b (Int32.toInt_inj.mp (r.trans c6.symm))
      have d1 : ¬ v.toInt = 32768 := fun r => c (Int32.toInt_inj.mp (r.trans c8.symm))
      omega
theorem z2_write {σ μ : zSt} {x y : Int32} (h : zMe σ μ) (hr : zMr σ μ) (hy : zr 0 255 y) : zp2 (fX2_write σ x y) (fX12_write μ x y) (zWq σ μ) := by
  unfold fX2_write fX12_write
  refine zp2_bvl (fun v ev => zp2_bvr (fun w ew => zp2_bvr (fun u eu => ?_)))
  have e : w = v := by rw [ev, ew]
  subst e
  have hv : zr 0 65535 w := by rw [ew]; exact zr_andr (lo := 0) (hi := 65535) (zr_c (lo := 65535) (hi := 65535) (by decide)) (by decide)
  have y0 := hy.1
  have y1 := hy.2
  have eu2 : u = y := by
    rw [eu]
    exact Int32.toInt_inj.mp (by rw [z_mask (k := 8) y0 rfl (by decide)]; show y.toInt % 256 = y.toInt; omega)
  subst eu2
  have v0 := hv.1
  refine zp2_if (fun _ => z2_w22 h hr hv hy) (fun _ => ?_)
  have e8 := z_8 v0
  have tr := z_trem (y := (8192 : Int32)) 8192 rfl hv (by decide)
  have same : w &&& 8191 = zrem w 8192 := Int32.toInt_inj.mp (by rw [e8, tr])
  rw [same]
  refine zp2_ckl (zp2_bvl (fun σ1 e1 => zp2_ckr (zp2_ckr (zp2_bvr (fun μ1 f1 => ?_)))))
  have hxx : u = vp_nar .byte (u.toInt8.toInt32) &&& 255 := by
    rw [z_nar, z_i8]
    exact Int32.toInt_inj.mp (by rw [z_mask (k := 8) y0 rfl (by decide)]; show u.toInt = u.toInt % 256; omega)
  have h1 : zMe σ1 μ1 := by rw [e1, f1]; exact h.ram hxx
  have a1 : zFw σ σ1 := by rw [e1]; exact zFw.w (Or.inl rfl)
  have b1 : zFv μ μ1 := by rw [f1]; exact zFv.w5 (Or.inl rfl)
  have r1 : zMr σ1 μ1 := by
    obtain ⟨r3, r4, r6, r7, ryp, rpg⟩ := hr
    have s1 : σ1.1 1 = σ.1 1 := a1.1 1 (by decide) (by decide) (by decide)
    have m0 : μ1.1 0 = μ.1 0 := b1.1 0 (by decide) (by decide) (by decide)
    have m3 : μ1.1 3 = μ.1 3 := by rw [f1]; exact zsi_ne (by decide)
    unfold zMr
    rw [s1, m0, m3]
    exact ⟨r3, r4, r6, r7, ryp, rpg⟩
  exact zp2_mono (z2_w22 h1 r1 hv hy) (fun _ _ q => ⟨q.1, a1.tr q.2.1, b1.tr q.2.2⟩)
