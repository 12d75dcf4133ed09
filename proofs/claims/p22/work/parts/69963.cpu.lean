section ZJN0
/-! THE PAINTER, 4: LOOPS OVER A LINE -/
section ZT4
variable {σ μ s t : zSt} {O : Option zSt} {Q : zSt → zSt → Prop}
theorem z_of0 : Int32.ofNat 0 = 0 := rfl
/-- the reference: a line made empty -/
theorem m_35 {L bk : Int32} {o : zSt} : ∀ (n i : Nat) (t : zSt), i ≤ 256 → zdM μ t → t.1 3 = o.1 3 → t.1 9 = o.1 9 → (∀ j : Nat, j < i → t.1 22 j = bk ∧ t.1 23 j = 0 ∧ t.1 24 j = 0 ∧ t.1 25 j = 0) → (∀ t : zSt, zdM μ t → t.1 3 = o.1 3 → t.1 9 = o.1 9 → (∀ j : Nat, j < 256 → t.1 22 j = bk ∧ t.1 23 j = 0 ∧ t.1 24 j = 0 ∧ t.1 25 j = 0) → zp2 O (zbi (fX12_bit t 1 6) (fun σ25 v26 => if v26 = 1 then zbi (fX12_mode σ25 ) (fun σ27 v28 => if v28 = 4 then fX12_draws_97 zfuel σ27 L bk 0 else fX12_draws_200 σ27 L bk) else fX12_draws_200 σ25 L bk)) Q) → zp2 O (fX12_draws_35 n t L bk (Int32.ofNat i)) Q := by
  intro n
  induction n with
  | zero => intro i t _ _ _ _ _ _; exact zp2_nr
  | succ n ih =>
    intro i t hi hd e3 e9 hin k
    show zp2 O (fX12_draws_35_body (fX12_draws_35 n) t L bk (Int32.ofNat i)) Q
    unfold fX12_draws_35_body
    refine zp2_ifr (fun q => ?_) (fun q => ?_)
    · have := (z_ofL (k := 256) (by omega) rfl).mp q
      exact k t hd e3 e9 (fun j hj => hin j (by omega))
    have hi2 : i < 256 := by
      have : ¬ 256 ≤ i := fun z => q ((z_ofL (c := 256) (k := 256) (i := i) (by omega) rfl).mpr z)
      omega
    rw [z_ofC (by omega), z_ofS (by omega)]
    refine zp2_ckr (zp2_bvr (fun t1 g1 => zp2_ckr (zp2_bvr (fun t2 g2 => zp2_ckr (zp2_bvr (fun t3 g3 => zp2_ckr (zp2_bvr (fun t4 g4 => zp2_bvr (fun v ev => ?_)))))))))
    subst ev
    have g4 : t4 = zsi (zsi (zsi (zsi t 22 i bk) 23 i 0) 24 i 0) 25 i 0 := by rw [g4, g3, g2, g1]; rfl
    refine ih (i + 1) t4 (by omega) (by rw [g4]; exact zQ.wi (zQ.wi (zQ.wi (zQ.wi hd rfl) rfl) rfl) rfl) (by rw [g4, zsi_ne (by decide), zsi_ne (by decide), zsi_ne (by decide), zsi_ne (by decide)]; exact e3) (by rw [g4, zsi_ne (by decide), zsi_ne (by decide), zsi_ne (by decide), zsi_ne (by decide)]; exact e9) (fun j hj => ?_) k
    have c22 : t4.1 22 j = (zsi t 22 i bk).1 22 j := by rw [g4, zsi_ne (by decide), zsi_ne (by decide), zsi_ne (by decide)]
    have c23 : t4.1 23 j = (zsi (zsi t 22 i bk) 23 i 0).1 23 j := by rw [g4, zsi_ne (by decide), zsi_ne (by decide)]
    have c24 : t4.1 24 j = (zsi (zsi (zsi t 22 i bk) 23 i 0) 24 i 0).1 24 j := by rw [g4, zsi_ne (by decide)]
    have c25 : t4.1 25 j = (zsi (zsi (zsi (zsi t 22 i bk) 23 i 0) 24 i 0) 25 i 0).1 25 j := by rw [g4]
    rw [c22, c23, c24, c25]
    by_cases z : j = i
    · rw [z, zsi_ej, zsi_ej, zsi_ej, zsi_ej]
      exact ⟨rfl, rfl, rfl, rfl⟩
    · rw [zsi_nj z, zsi_nj z, zsi_nj z, zsi_nj z, zsi_ne (by decide), zsi_ne (by decide), zsi_ne (by decide), zsi_ne (by decide), zsi_ne (by decide), zsi_ne (by decide)]
      exact hin j (by omega)
/-- the reference: a line's tiles -/
theorem m_97 (h : zVe σ μ) {L bk : Int32} {o : zSt} (hL : zr 0 239 L) : ∀ (n i : Nat) (t : zSt), i ≤ 256 → zdM μ t → t.1 3 = o.1 3 → t.1 9 = o.1 9 → (∀ j : Nat, j < 256 → t.1 24 j = 0 ∧ t.1 25 j = 0) → (∀ j : Nat, j < i → t.1 22 j = tNu σ (tNm σ) (tAc σ L) (tSt σ) (tDn σ L) L (Int32.ofNat j) + o16 (tBi σ (tNm σ) (tAc σ L) (tSt σ) (tDn σ L) L (Int32.ofNat j)) ∧ t.1 23 j = oAh (tNu σ (tNm σ) (tAc σ L) (tSt σ) (tDn σ L) L (Int32.ofNat j)) (tBi σ (tNm σ) (tAc σ L) (tSt σ) (tDn σ L) L (Int32.ofNat j))) → (∀ t : zSt, zdM μ t → t.1 3 = o.1 3 → t.1 9 = o.1 9 → (∀ j : Nat, j < 256 → t.1 24 j = 0 ∧ t.1 25 j = 0) → (∀ j : Nat, j < 256 → t.1 22 j = tNu σ (tNm σ) (tAc σ L) (tSt σ) (tDn σ L) L (Int32.ofNat j) + o16 (tBi σ (tNm σ) (tAc σ L) (tSt σ) (tDn σ L) L (Int32.ofNat j)) ∧ t.1 23 j = oAh (tNu σ (tNm σ) (tAc σ L) (tSt σ) (tDn σ L) L (Int32.ofNat j)) (tBi σ (tNm σ) (tAc σ L) (tSt σ) (tDn σ L) L (Int32.ofNat j))) → zp2 O (zbu (fX12_sprites t L) (fun σ22 => fX12_draws_123 zfuel σ22 L bk 0)) Q) → zp2 O (fX12_draws_97 n t L bk (Int32.ofNat i)) Q := by
  intro n
  induction n with
  | zero => intro i t _ _ _ _ _ _ _; exact zp2_nr
  | succ n ih =>
    intro i t hi hd e3 e9 h0 hin k
    show zp2 O (fX12_draws_97_body (fX12_draws_97 n) t L bk (Int32.ofNat i)) Q
    unfold fX12_draws_97_body
    refine zp2_ifr (fun q => ?_) (fun q => ?_)
    · have := (z_ofL (k := 256) (by omega) rfl).mp q
      exact k t hd e3 e9 h0 (fun j hj => hin j (by omega))
    have hi2 : i < 256 := by
      have : ¬ 256 ≤ i := fun z => q ((z_ofL (c := 256) (k := 256) (i := i) (by omega) rfl).mpr z)
      omega
    refine zp2_bur (m_tile h hd hL) (fun t1 g1 => zp2_bvr (fun v ev => ?_))
    rw [z_ofS (by omega)] at ev
    subst ev
    rw [z_ofC (by omega)] at g1
    refine ih (i + 1) t1 (by omega) (by rw [g1]; exact zQ.wi (zQ.wi hd rfl) rfl) (by rw [g1, zsi_ne (by decide), zsi_ne (by decide)]; exact e3) (by rw [g1, zsi_ne (by decide), zsi_ne (by decide)]; exact e9) (fun j hj => by rw [g1, zsi_ne (by decide), zsi_ne (by decide), zsi_ne (by decide), zsi_ne (by decide)]; exact h0 j hj) (fun j hj => ?_) k
    rw [g1, zsi_ne (k1 := 22) (by decide), zsi_at, zsi_at, zsi_ne (k1 := 23) (by decide)]
    by_cases z : j = i
    · rw [if_pos ⟨rfl, z⟩, if_pos ⟨rfl, z⟩, z]
      exact ⟨rfl, rfl⟩
    · rw [if_neg (fun y => z y.2), if_neg (fun y => z y.2)]
      exact hin j (by omega)
/-- the reference: sprites over tiles -/
theorem m_123 {L bk : Int32} {o : zSt} : ∀ (n i : Nat) (t : zSt), i ≤ 256 → zdM μ t → t.1 23 = o.1 23 → t.1 24 = o.1 24 → t.1 3 = o.1 3 → t.1 9 = o.1 9 → (∀ j : Nat, j < i → t.1 22 j = if o.1 24 j ≤ 0 then o.1 22 j else if o.1 23 j = 0 then o.1 24 j else o.1 22 j) → (∀ j : Nat, i ≤ j → t.1 22 j = o.1 22 j) → (∀ t : zSt, zdM μ t → t.1 3 = o.1 3 → t.1 9 = o.1 9 → (∀ j : Nat, j < 256 → t.1 22 j = if o.1 24 j ≤ 0 then o.1 22 j else if o.1 23 j = 0 then o.1 24 j else o.1 22 j) → zp2 O (fX12_draws_168 zfuel t L bk 0) Q) → zp2 O (fX12_draws_123 n t L bk (Int32.ofNat i)) Q := by
  intro n
  induction n with
  | zero => intro i t _ _ _ _ _ _ _ _ _; exact zp2_nr
  | succ n ih =>
    intro i t hi hd e23 e24 e3 e9 hin hout k
    show zp2 O (fX12_draws_123_body (fX12_draws_123 n) t L bk (Int32.ofNat i)) Q
    unfold fX12_draws_123_body fX12_draws_160
    refine zp2_ifr (fun q => ?_) (fun q => ?_)
    · have := (z_ofL (k := 256) (by omega) rfl).mp q
      exact k t hd e3 e9 (fun j hj => hin j (by omega))
    have hi2 : i < 256 := by
      have : ¬ 256 ≤ i := fun z => q ((z_ofL (c := 256) (k := 256) (i := i) (by omega) rfl).mpr z)
      omega
    rw [z_ofC (by omega), z_ofS (by omega)]
    have c24 : zgi t 24 i = o.1 24 i := by show t.1 24 i = _; rw [e24]
    have c23 : zgi t 23 i = o.1 23 i := by show t.1 23 i = _; rw [e23]
    rw [c24, c23]
    have stay : t.1 22 i = (if o.1 24 i ≤ 0 then o.1 22 i else if o.1 23 i = 0 then o.1 24 i else o.1 22 i) → zp2 O (zbv (Int32.ofNat (i + 1)) (fun v16 => fX12_draws_123 n t L bk v16)) Q := fun y => zp2_bvr (fun v ev => by
      subst ev
      refine ih (i + 1) t (by omega) hd e23 e24 e3 e9 (fun j hj => ?_) (fun j hj => hout j (by omega)) k
      by_cases z : j = i
      · rw [z]; exact y
      · exact hin j (by omega))
    refine zp2_ckr (zp2_ifr (fun p => stay (by rw [if_pos p]; exact hout i (by omega))) (fun p => zp2_ckr (zp2_ifr (fun p2 => zp2_ckr (zp2_ckr (zp2_bvr (fun t1 g1 => zp2_bvr (fun v ev => ?_))))) (fun p2 => stay (by rw [if_neg p, if_neg p2]; exact hout i (by omega))))))
    subst ev
    refine ih (i + 1) t1 (by omega) (by rw [g1]; exact zQ.wi hd rfl) (by rw [g1, zsi_ne (by decide)]; exact e23) (by rw [g1, zsi_ne (by decide)]; exact e24) (by rw [g1, zsi_ne (by decide)]; exact e3) (by rw [g1, zsi_ne (by decide)]; exact e9) (fun j hj => ?_) (fun j hj => by rw [g1, zsi_nj (by omega)]; exact hout j (by omega)) k
    by_cases z : j = i
    · rw [z, g1, zsi_ej, if_neg p, if_pos p2]
    · rw [g1, zsi_nj z]
      exact hin j (by omega)
/-- the reference: the left column -/
theorem m_168 (h : zVe σ μ) {L bk : Int32} {o : zSt} : ∀ (n i : Nat) (t : zSt), i ≤ 8 → zdM μ t → t.1 3 = o.1 3 → t.1 9 = o.1 9 → (i = 0 ∨ ¬ σ.1 23 0 &&& 32 = 0) → (∀ j : Nat, j < i → t.1 22 j = bk) → (∀ j : Nat, i ≤ j → t.1 22 j = o.1 22 j) → (∀ t : zSt, zdM μ t → t.1 3 = o.1 3 → t.1 9 = o.1 9 → (∀ j : Nat, j < 256 → t.1 22 j = if j < 8 ∧ ¬ σ.1 23 0 &&& 32 = 0 then bk else o.1 22 j) → zp2 O (fX12_draws_302 zfuel t L 0) Q) → zp2 O (fX12_draws_168 n t L bk (Int32.ofNat i)) Q := by
  intro n
  induction n with
  | zero => intro i t _ _ _ _ _ _ _ _; exact zp2_nr
  | succ n ih =>
    intro i t hi hd e3 e9 hb hin hout k
    show zp2 O (fX12_draws_168_body (fX12_draws_168 n) t L bk (Int32.ofNat i)) Q
    unfold fX12_draws_168_body fX12_draws_197 fX12_draws_300
    refine zp2_ifr (fun q => ?_) (fun q => ?_)
    · have := (z_ofL (k := 8) (by omega) rfl).mp q
      refine k t hd e3 e9 (fun j hj => ?_)
      by_cases z : j < 8
      · rw [if_pos ⟨z, hb.resolve_left (by omega)⟩]; exact hin j (by omega)
      · rw [if_neg (fun y => z y.1)]; exact hout j (by omega)
    have hi2 : i < 8 := by
      have : ¬ 8 ≤ i := fun z => q ((z_ofL (c := 8) (k := 8) (i := i) (by omega) rfl).mpr z)
      omega
    have f0 : t.1 3 47 = σ.1 23 0 := h.ej hd (j := 0) (by decide)
    have b5 := p_bit_0_5 (μ := t) (by rw [f0]; exact h.r0)
    rw [f0] at b5
    refine zp2_bir b5 (fun t0 v0 e0 => ?_)
    cases e0
    by_cases p : σ.1 23 0 &&& 32 = 0
    · rw [if_pos p]
      refine zp2_ifr (fun z => absurd z (by decide)) (fun _ => k t hd e3 e9 (fun j hj => ?_))
      rw [if_neg (fun y => y.2 p)]
      exact hout j (by rcases hb with z | z; omega; exact absurd p z)
    · rw [if_neg p]
      refine zp2_ifr (fun _ => ?_) (fun z => absurd rfl z)
      rw [z_ofC (by omega), z_ofS (by omega)]
      refine zp2_ckr (zp2_bvr (fun t1 g1 => zp2_bvr (fun v ev => ?_)))
      subst ev
      refine ih (i + 1) t1 (by omega) (by rw [g1]; exact zQ.wi hd rfl) (by rw [g1, zsi_ne (by decide)]; exact e3) (by rw [g1, zsi_ne (by decide)]; exact e9) (Or.inr p) (fun j hj => ?_) (fun j hj => by rw [g1, zsi_nj (by omega)]; exact hout j (by omega)) k
      by_cases z : j = i
      · rw [z, g1, zsi_ej]
      · rw [g1, zsi_nj z]
        exact hin j (by omega)
/-- the reference: sprites of the old modes -/
theorem m_266 {L : Int32} {o : zSt} : ∀ (n i : Nat) (t : zSt), i ≤ 256 → zdM μ t → t.1 24 = o.1 24 → t.1 3 = o.1 3 → t.1 9 = o.1 9 → (∀ j : Nat, j < i → t.1 22 j = if o.1 24 j ≤ 0 then o.1 22 j else o.1 24 j) → (∀ j : Nat, i ≤ j → t.1 22 j = o.1 22 j) → (∀ t : zSt, zdM μ t → t.1 3 = o.1 3 → t.1 9 = o.1 9 → (∀ j : Nat, j < 256 → t.1 22 j = if o.1 24 j ≤ 0 then o.1 22 j else o.1 24 j) → zp2 O (fX12_draws_302 zfuel t L 0) Q) → zp2 O (fX12_draws_266 n t L (Int32.ofNat i)) Q := by
  intro n
  induction n with
  | zero => intro i t _ _ _ _ _ _ _ _; exact zp2_nr
  | succ n ih =>
    intro i t hi hd e24 e3 e9 hin hout k
    show zp2 O (fX12_draws_266_body (fX12_draws_266 n) t L (Int32.ofNat i)) Q
    unfold fX12_draws_266_body fX12_draws_294 fX12_draws_300
    refine zp2_ifr (fun q => ?_) (fun q => ?_)
    · have := (z_ofL (k := 256) (by omega) rfl).mp q
      exact k t hd e3 e9 (fun j hj => hin j (by omega))
    have hi2 : i < 256 := by
      have : ¬ 256 ≤ i := fun z => q ((z_ofL (c := 256) (k := 256) (i := i) (by omega) rfl).mpr z)
      omega
    rw [z_ofC (by omega), z_ofS (by omega)]
    have c24 : zgi t 24 i = o.1 24 i := by show t.1 24 i = _; rw [e24]
    rw [c24]
    refine zp2_ckr (zp2_ifr (fun p => zp2_bvr (fun v ev => ?_)) (fun p => zp2_ckr (zp2_ckr (zp2_bvr (fun t1 g1 => zp2_bvr (fun v ev => ?_))))))
    · subst ev
      refine ih (i + 1) t (by omega) hd e24 e3 e9 (fun j hj => ?_) (fun j hj => hout j (by omega)) k
      by_cases z : j = i
      · rw [z, if_pos p]; exact hout i (by omega)
      · exact hin j (by omega)
    · subst ev
      refine ih (i + 1) t1 (by omega) (by rw [g1]; exact zQ.wi hd rfl) (by rw [g1, zsi_ne (by decide)]; exact e24) (by rw [g1, zsi_ne (by decide)]; exact e3) (by rw [g1, zsi_ne (by decide)]; exact e9) (fun j hj => ?_) (fun j hj => by rw [g1, zsi_nj (by omega)]; exact hout j (by omega)) k
      by_cases z : j = i
      · rw [z, g1, zsi_ej, if_neg p]
      · rw [g1, zsi_nj z]
        exact hin j (by omega)
/-! the class's loops -/
theorem c_147 {o : zSt} : ∀ (n i : Nat) (s : zSt), i ≤ 256 → zdC σ s → s.1 28 = o.1 28 → s.1 23 = o.1 23 → s.1 25 = o.1 25 → (∀ j : Nat, j < i → s.1 27 j = if o.1 28 j ≤ 0 then o.1 27 j else if o.1 27 j &&& 256 = 0 then 16 + o.1 28 j else o.1 27 j) → (∀ j : Nat, i ≤ j → s.1 27 j = o.1 27 j) → zpc (fX3_drawSprites_147 n s (Int32.ofNat i)) (fun r => zdC σ r ∧ r.1 23 = o.1 23 ∧ r.1 25 = o.1 25 ∧ ∀ j : Nat, j < 256 → r.1 27 j = if o.1 28 j ≤ 0 then o.1 27 j else if o.1 27 j &&& 256 = 0 then 16 + o.1 28 j else o.1 27 j) := by
  intro n
  induction n with
  | zero => intro i s _ _ _ _ _ _ _; exact zpc_none
  | succ n ih =>
    intro i s hi hd e28 e23 e25 hin hout
    show zpc (fX3_drawSprites_147_body (fX3_drawSprites_147 n) s (Int32.ofNat i)) _
    unfold fX3_drawSprites_147_body fX3_drawSprites_196
    refine zpc_if (fun q => zpc_some ?_) (fun q => ?_)
    · have := (z_ofL (k := 256) (by omega) rfl).mp q
      exact ⟨hd, e23, e25, fun j hj => hin j (by omega)⟩
    have hi2 : i < 256 := by
      have : ¬ 256 ≤ i := fun z => q ((z_ofL (c := 256) (k := 256) (i := i) (by omega) rfl).mpr z)
      omega
    rw [z_ofC (by omega), z_ofS (by omega)]
    have c28 : zgi s 28 i = o.1 28 i := by show s.1 28 i = _; rw [e28]
    have c27 : zgi s 27 i = o.1 27 i := hout i (by omega)
    rw [c28, c27]
    have stay : o.1 27 i = (if o.1 28 i ≤ 0 then o.1 27 i else if o.1 27 i &&& 256 = 0 then 16 + o.1 28 i else o.1 27 i) → zpc (zbv (Int32.ofNat (i + 1)) (fun v1 => fX3_drawSprites_147 n s v1)) (fun r => zdC σ r ∧ r.1 23 = o.1 23 ∧ r.1 25 = o.1 25 ∧ ∀ j : Nat, j < 256 → r.1 27 j = if o.1 28 j ≤ 0 then o.1 27 j else if o.1 27 j &&& 256 = 0 then 16 + o.1 28 j else o.1 27 j) := fun y => zpc_bv (fun v ev => by
      subst ev
      refine ih (i + 1) s (by omega) hd e28 e23 e25 (fun j hj => ?_) (fun j hj => hout j (by omega))
      by_cases z : j = i
      · rw [z, hout i (by omega)]; exact y
      · exact hin j (by omega))
    refine zpc_ck (zpc_if (fun p => stay (by rw [if_pos p])) (fun p => zpc_ck (zpc_if (fun p2 => zpc_ck (zpc_ck (zpc_bv (fun s1 g1 => zpc_bv (fun v ev => ?_))))) (fun p2 => stay (by rw [if_neg p, if_neg p2])))))
    subst ev
    refine ih (i + 1) s1 (by omega) (by rw [g1]; exact zQ.wi hd rfl) (by rw [g1, zsi_ne (by decide)]; exact e28) (by rw [g1, zsi_ne (by decide)]; exact e23) (by rw [g1, zsi_ne (by decide)]; exact e25) (fun j hj => ?_) (fun j hj => by rw [g1, zsi_nj (by omega)]; exact hout j (by omega))
    by_cases z : j = i
    · rw [z, g1, zsi_ej, if_neg p, if_pos p2]
    · rw [g1, zsi_nj z]
      exact hin j (by omega)
end ZT4
end ZJN0
section ZJN1
/-! THE PAINTER, 5: SPRITES -/
theorem zp2_ubi {o : Option (zSt × Int32)} {f : zSt → Int32 → Option zSt} {C0 : zSt → Option zSt} {p : Option zSt} {Q : zSt → zSt → Prop} {s : zSt} {v : Int32} (h : zpc o (fun r => r = (s, v))) (k : zp2 (zbu (f s v) C0) p Q) : zp2 (zbu (zbi o f) C0) p Q := by
  cases e : o with
  | none => exact zp2_nl
  | some r =>
    have z := h r e
    subst z
    exact k
theorem zp2_ubu {o : Option zSt} {f : zSt → Option zSt} {C0 : zSt → Option zSt} {p : Option zSt} {Q : zSt → zSt → Prop} {P : zSt → Prop} (h : zpc o P) (k : ∀ s, P s → zp2 (zbu (f s) C0) p Q) : zp2 (zbu (zbu o f) C0) p Q := by
  cases e : o with
  | none => exact zp2_nl
  | some r => exact k r (h r e)
section ZT5
variable {σ μ s t s0 t0 : zSt}
theorem c_fill28 {v : Int32} : ∀ (n i : Nat) (s : zSt), i ≤ 256 → zdC σ s → s.1 27 = s0.1 27 → s.1 25 = s0.1 25 → s.1 23 = s0.1 23 → (∀ j : Nat, j < i → s.1 28 j = v) → zpc (fJ7_fill_53178_k28_5 n s v (Int32.ofNat i) 256) (fun r => zdC σ r ∧ r.1 27 = s0.1 27 ∧ r.1 25 = s0.1 25 ∧ r.1 23 = s0.1 23 ∧ ∀ j : Nat, j < 256 → r.1 28 j = v) := by
  intro n
  induction n with
  | zero => intro i s _ _ _ _ _ _; exact zpc_none
  | succ n ih =>
    intro i s hi hd e27 e25 e23 hin
    show zpc (fJ7_fill_53178_k28_5_body (fJ7_fill_53178_k28_5 n) s v (Int32.ofNat i) 256) _
    unfold fJ7_fill_53178_k28_5_body
    refine zpc_if (fun q => zpc_some ?_) (fun q => ?_)
    · have := (z_ofL (k := 256) (by omega) rfl).mp q
      exact ⟨hd, e27, e25, e23, fun j hj => hin j (by omega)⟩
    have hi2 : i < 256 := by
      have : ¬ 256 ≤ i := fun z => q ((z_ofL (c := 256) (k := 256) (i := i) (by omega) rfl).mpr z)
      omega
    rw [z_ofC (by omega), z_ofS (by omega)]
    refine zpc_ck (zpc_bv (fun s1 g1 => zpc_bv (fun x ex => ?_)))
    subst ex
    refine ih (i + 1) s1 (by omega) (by rw [g1]; exact zQ.wi hd rfl) (by rw [g1, zsi_ne (by decide)]; exact e27) (by rw [g1, zsi_ne (by decide)]; exact e25) (by rw [g1, zsi_ne (by decide)]; exact e23) (fun j hj => ?_)
    by_cases z : j = i
    · rw [z, g1, zsi_ej]
    · rw [g1, zsi_nj z]; exact hin j (by omega)
def zSr (s t : zSt) : Prop := ∀ j : Nat, j < 256 → zr 0 15 (s.1 28 j) ∧ t.1 24 j = (if s.1 28 j ≤ 0 then 0 else 16 + s.1 28 j)
def zStt (s t : zSt) : Prop := t.1 3 62 = s.1 23 15 ∧ zr 0 255 (s.1 23 15)
def zSi (σ μ s0 t0 s t : zSt) : Prop := zdC σ s ∧ zdM μ t ∧ s.1 27 = s0.1 27 ∧ s.1 25 = s0.1 25 ∧ t.1 22 = t0.1 22 ∧ t.1 23 = t0.1 23 ∧ t.1 9 = t0.1 9 ∧ zSr s t ∧ zStt s t
/-- the painter's own cells 7 and 8 -/
theorem zSi.pl (h : zSi σ μ s0 t0 s t) {v : Int32} : zSi σ μ s0 t0 (zsi s 3 7 v) t := by
  obtain ⟨h1, h2, h3, h4, h5, h6, h7, h8, h9⟩ := h
  exact ⟨zQ.wi h1 rfl, h2, by rw [zsi_ne (by decide)]; exact h3, by rw [zsi_ne (by decide)]; exact h4, h5, h6, h7, fun j hj => by rw [zsi_ne (by decide)]; exact h8 j hj, h9⟩
/-- a status bit -/
theorem zSi.st (h : zSi σ μ s0 t0 s t) {v : Int32} (hv : zr 0 255 v) : zSi σ μ s0 t0 (zsi s 23 15 v) (zsi t 3 62 v) := by
  obtain ⟨h1, h2, h3, h4, h5, h6, h7, h8, h9⟩ := h
  refine ⟨zQ.wi h1 rfl, zQ.wi h2 rfl, by rw [zsi_ne (by decide)]; exact h3, by rw [zsi_ne (by decide)]; exact h4, by rw [zsi_ne (by decide)]; exact h5, by rw [zsi_ne (by decide)]; exact h6, by rw [zsi_ne (by decide)]; exact h7, fun j hj => by rw [zsi_ne (by decide), zsi_ne (by decide)]; exact h8 j hj, ?_, ?_⟩
  · rw [zsi_ej, zsi_ej]
  · rw [zsi_ej]; exact hv
/-- a dot of a sprite -/
theorem zSi.dot (h : zSi σ μ s0 t0 s t) {j : Nat} {N : Int32} (hN : zr 1 15 N) : zSi σ μ s0 t0 (zsi s 28 j N) (zsi t 24 j (16 + N)) := by
  obtain ⟨h1, h2, h3, h4, h5, h6, h7, h8, h9⟩ := h
  refine ⟨zQ.wi h1 rfl, zQ.wi h2 rfl, by rw [zsi_ne (by decide)]; exact h3, by rw [zsi_ne (by decide)]; exact h4, by rw [zsi_ne (by decide)]; exact h5, by rw [zsi_ne (by decide)]; exact h6, by rw [zsi_ne (by decide)]; exact h7, fun i hi => ?_, ?_⟩
  · by_cases z : i = j
    · rw [z, zsi_ej, zsi_ej]
      refine ⟨zr_w hN (by decide), ?_⟩
      rw [if_neg (zq_lef hN rfl (by decide))]
    · rw [zsi_nj z, zsi_nj z]
      exact h8 i hi
  · unfold zStt
    rw [zsi_ne (by decide), zsi_ne (by decide)]
    exact h9
theorem zSi.dot0 (h : zSi σ μ s0 t0 s t) {j : Nat} (hj : j < 256) : t.1 24 j ≤ 0 ↔ s.1 28 j ≤ 0 := by
  obtain ⟨r, e⟩ := h.2.2.2.2.2.2.2.1 j hj
  rw [e]
  by_cases q : s.1 28 j ≤ 0
  · rw [if_pos q]
    exact ⟨fun _ => q, fun _ => by decide⟩
  · rw [if_neg q]
    refine ⟨fun z => absurd z ?_, fun z => absurd z q⟩
    exact zq_lef (zr_add (lo := 16) (hi := 31) (zr_c (lo := 16) (hi := 16) (x := 16) (by decide)) r (by decide)) rfl (by decide)
theorem v_tw0 : ∀ i : Fin 16, Int32.ofNat i.val >>> ((0 : Int32) &&& 31) = Int32.ofNat i.val / 1 := by decide +kernel
theorem v_tw1 : ∀ i : Fin 16, Int32.ofNat i.val >>> ((1 : Int32) &&& 31) = Int32.ofNat i.val / 2 ∧ 0 ≤ (Int32.ofNat i.val / 2).toInt ∧ (Int32.ofNat i.val / 2).toInt ≤ 7 := by decide +kernel
theorem v_tw2 : ∀ i : Fin 8, 0 ≤ (Int32.ofNat i.val / 1).toInt ∧ (Int32.ofNat i.val / 1).toInt ≤ 7 := by decide +kernel
/-- zoom: the class's shift, the reference's factor -/
def zZm (tw zm : Int32) : Prop := (tw = 0 ∧ zm = 1) ∨ (tw = 1 ∧ zm = 2)
theorem zZm.w {tw zm : Int32} (h : zZm tw zm) : 8 <<< (tw &&& 31) = 8 * zm ∧ zr 8 16 (8 * zm) ∧ ¬ zm = 0 := by
  rcases h with ⟨a, b⟩ | ⟨a, b⟩ <;> subst a <;> subst b
  · exact ⟨by decide, zr_c (by decide), by decide⟩
  · exact ⟨by decide, zr_c (by decide), by decide⟩
theorem zZm.p {tw zm : Int32} (h : zZm tw zm) {i : Nat} (hi : ¬ 8 * zm ≤ Int32.ofNat i) (h16 : i < 100000) : Int32.ofNat i >>> (tw &&& 31) = Int32.ofNat i / zm ∧ zr 0 7 (Int32.ofNat i / zm) ∧ i < 16 := by
  have hi' : (Int32.ofNat i).toInt < (8 * zm).toInt := Int32.lt_iff_toInt_lt.mp (z_nle hi)
  rw [z_ofI h16] at hi'
  rcases h with ⟨a, b⟩ | ⟨a, b⟩ <;> subst a <;> subst b
  · rw [show (8 * (1 : Int32)).toInt = 8 from rfl] at hi'
    exact ⟨v_tw0 ⟨i, by omega⟩, v_tw2 ⟨i, by omega⟩, by omega⟩
  · rw [show (8 * (2 : Int32)).toInt = 16 from rfl] at hi'
    exact ⟨(v_tw1 ⟨i, by omega⟩).1, (v_tw1 ⟨i, by omega⟩).2, by omega⟩
theorem z_le0e {N : Int32} (h : zr 0 15 N) : N ≤ 0 ↔ N = 0 := by
  rw [Int32.le_iff_toInt_le, ← Int32.toInt_inj, show (0 : Int32).toInt = 0 from rfl]
  have := h.1
  omega
abbrev zK8 := zSt → Int32 → Int32 → Int32 → Int32 → Int32 → Int32 → Int32 → Option zSt
/-- a sprite's dots, both sides -/
theorem t_111 (h : zVe σ μ) {C0 : zSt → Option zSt} {Q : zSt → zSt → Prop} {k73 : zK8} {L tb zm hg f e nn rw_ ti le tw A : Int32} (hz : zZm tw zm) (hA : A = (32 * ti) + (4 * (zrem (rw_ / zm) 8))) (k : ∀ s t, zSi σ μ s0 t0 s t → zp2 (C0 s) (fX12_sprites_349 k73 t L tb zm hg f e nn) Q) : ∀ (n m i : Nat) (s t : zSt), i ≤ 16 → zSi σ μ s0 t0 s t → s.1 3 7 = gPl σ A → zp2 (zbu (fX3_drawSprite_111 n s le tw (Int32.ofNat i)) C0) (fX12_sprites_250 k73 m t L tb zm hg f e nn rw_ ti le (Int32.ofNat i)) Q := by
  intro n
  induction n with
  | zero => intro m i s t _ _ _; exact zp2_nl
  | succ n ih =>
    intro m i s t hi hS hp
    cases m with
    | zero => exact zp2_nr
    | succ m =>
      show zp2 (zbu (fX3_drawSprite_111_body (fX3_drawSprite_111 n) s le tw (Int32.ofNat i)) C0) (fX12_sprites_250_body k73 (fX12_sprites_250 k73 m) t L tb zm hg f e nn rw_ ti le (Int32.ofNat i)) Q
      unfold fX3_drawSprite_111_body fX12_sprites_250_body
      rw [hz.w.1]
      by_cases q : 8 * zm ≤ Int32.ofNat i
      · rw [if_pos q, if_pos q]
        exact k s t hS
      rw [if_neg q, if_neg q]
      obtain ⟨z1, z2, z3⟩ := hz.p q (by omega)
      have next : ∀ s t : zSt, zSi σ μ s0 t0 s t → s.1 3 7 = gPl σ A → zp2 (zbu (fX3_drawSprite_190 (fX3_drawSprite_111 n) s le tw (Int32.ofNat i)) C0) (fX12_sprites_343 k73 (fX12_sprites_250 k73 m) t L tb zm hg f e nn rw_ ti le (Int32.ofNat i)) Q := fun s t a b => by
        unfold fX3_drawSprite_190 fX12_sprites_343
        rw [z_ofS (by omega)]
        exact ih m (i + 1) s t (by omega) a b
      have hM := hS.2.1
      refine zp2_ckr (zp2_ckr (zp2_ckr (zp2_bir (p_tdot h.1 hM.v) (fun t1 v1 e1 => ?_))))
      cases e1
      rw [← hA]
      obtain ⟨eN, rN⟩ := z_gnum h.1 (x := A) z2
      obtain ⟨N, hN⟩ : ∃ N, N = gTd σ A (Int32.ofNat i / zm) := ⟨_, rfl⟩
      rw [← hN] at eN rN
      rw [← hN]
      refine zp2_bvr (fun v5 e5 => ?_)
      show zp2 (zbu (zbi (fX3_numberIn s (zgi s 3 7) (Int32.ofNat i >>> (tw &&& 31))) (fun σ3 v4 => if v4 ≤ 0 then fX3_drawSprite_190 (fX3_drawSprite_111 n) σ3 le tw (Int32.ofNat i) else if le + Int32.ofNat i < 0 then fX3_drawSprite_190 (fX3_drawSprite_111 n) σ3 le tw (Int32.ofNat i) else if 256 ≤ le + Int32.ofNat i then fX3_drawSprite_190 (fX3_drawSprite_111 n) σ3 le tw (Int32.ofNat i) else zck (zin (le + Int32.ofNat i) 256) (if (zgi σ3 28 (le + Int32.ofNat i).toNatClampNeg) ≤ 0 then zck (zin (le + Int32.ofNat i) 256) (zbv (zsi σ3 28 ((le + Int32.ofNat i).toNatClampNeg) v4) (fun σ5 => fX3_drawSprite_190 (fX3_drawSprite_111 n) σ5 le tw (Int32.ofNat i))) else zbu (fX9_mark σ3 32) (fun σ6 => fX3_drawSprite_190 (fX3_drawSprite_111 n) σ6 le tw (Int32.ofNat i))))) C0) _ Q
      have hn : zpc (fX3_numberIn s (zgi s 3 7) (Int32.ofNat i >>> (tw &&& 31))) (fun r => r = (s, N)) := by
        have z := p_numC (σ := s) (x := zgi s 3 7) (p := Int32.ofNat i >>> (tw &&& 31))
        rw [show zgi s 3 7 = gPl σ A from hp, z1, eN] at z
        rw [show zgi s 3 7 = gPl σ A from hp, z1]
        exact z
      refine zp2_ubi hn ?_
      rw [e5]
      obtain ⟨X, eX⟩ : ∃ X, X = le + Int32.ofNat i := ⟨_, rfl⟩
      rw [← eX]
      by_cases n0 : N = 0
      · rw [if_pos ((z_le0e rN).mpr n0), if_pos n0]
        exact next s t hS hp
      rw [if_neg (fun z => n0 ((z_le0e rN).mp z)), if_neg n0]
      by_cases x0 : X < 0
      · rw [if_pos x0, if_pos x0]
        exact next s t hS hp
      rw [if_neg x0, if_neg x0]
      have x0' := Int32.le_iff_toInt_le.mp (z_nlt x0)
      rw [show (0 : Int32).toInt = 0 from rfl] at x0'
      have e255 : 256 ≤ X ↔ ¬ X ≤ 255 := by
        rw [Int32.le_iff_toInt_le, Int32.le_iff_toInt_le, show (256 : Int32).toInt = 256 from rfl, show (255 : Int32).toInt = 255 from rfl]
        omega
      by_cases x1 : 256 ≤ X
      · rw [if_pos x1, if_neg (e255.mp x1)]
        exact next s t hS hp
      have x1' : X ≤ 255 := Decidable.byContradiction (fun z => x1 (e255.mpr z))
      rw [if_neg x1, if_pos x1']
      have x2 := Int32.le_iff_toInt_le.mp x1'
      rw [show (255 : Int32).toInt = 255 from rfl] at x2
      have kX := z_clamp (x := X) x0'
      have jX : X.toNatClampNeg < 256 := by omega
      have d0 := hS.dot0 jX
      rw [z_uck]
      refine zp2_ckl (zp2_ckr ?_)
      by_cases y : zgi s 28 X.toNatClampNeg ≤ 0
      · rw [if_pos y, if_pos (show zgi t 24 X.toNatClampNeg ≤ 0 from d0.mpr y), z_uck]
        refine zp2_ckl (zp2_ckr (zp2_bvr (fun t6 g6 => ?_)))
        rw [g6]
        have rN1 : zr 1 15 N := ⟨by have := rN.1; have : ¬ N.toInt = 0 := fun z => n0 (Int32.toInt_inj.mp z); omega, rN.2⟩
        exact next _ _ (hS.dot rN1) (by rw [zsi_ne (by decide)]; exact hp)
      · rw [if_neg y, if_neg (show ¬ zgi t 24 X.toNatClampNeg ≤ 0 from fun z => y (d0.mp z))]
        refine zp2_ckr (zp2_ckr (zp2_bvr (fun t6 g6 => ?_)))
        have e62 : zgi t 3 (62 : Int32).toNatClampNeg = s.1 23 15 := hS.2.2.2.2.2.2.2.2.1
        rw [e62] at g6
        have r15 : zr 0 255 (s.1 23 15) := hS.2.2.2.2.2.2.2.2.2
        have r15' : zr 0 255 (s.1 23 15 ||| 32) := zr_or (lo := 0) (hi := 255) 8 r15 (zr_c (lo := 32) (hi := 32) (x := 32) (by decide)) (by decide)
        refine zp2_ubu (P := fun r => r = zsi s 23 15 (s.1 23 15 ||| 32)) (by unfold fX9_mark; exact zpc_ck (zpc_ck (zpc_bv (fun s1 f1 => zpc_some f1)))) (fun s1 f1 => ?_)
        rw [f1, g6]
        exact next _ _ (hS.st r15') (by rw [zsi_ne (by decide)]; exact hp)
end ZT5
end ZJN1
section ZJN2
/-! THE PAINTER, 6: ALL SPRITES OF A LINE -/
theorem zp2_usub {o o' : Option zSt} {C0 : zSt → Option zSt} {p : Option zSt} {Q : zSt → zSt → Prop} (hs : zpc o (fun r => o' = some r)) (h : zp2 (zbu o' C0) p Q) : zp2 (zbu o C0) p Q := by
  cases e : o with
  | none => exact zp2_nl
  | some r =>
    have z := hs r e
    rw [z] at h
    exact h
section ZT6
variable {σ μ s t s0 t0 : zSt}
def zSe (σ μ s0 t0 r t : zSt) : Prop := zdC σ r ∧ zdM μ t ∧ r.1 25 = s0.1 25 ∧ t.1 22 = t0.1 22 ∧ t.1 23 = t0.1 23 ∧ t.1 9 = t0.1 9 ∧ zStt r t ∧ ∀ j : Nat, j < 256 → zr 0 31 (t.1 24 j) ∧ r.1 27 j = (if t.1 24 j ≤ 0 then s0.1 27 j else if s0.1 27 j &&& 256 = 0 then t.1 24 j else s0.1 27 j)
theorem t_144 (h : zSi σ μ s0 t0 s t) : zp2 (fX3_drawSprites_144 s ) (some t) (zSe σ μ s0 t0) := by
  obtain ⟨h1, h2, h3, h4, h5, h6, h7, h8, h9⟩ := h
  unfold fX3_drawSprites_144
  refine zp2_of (c_147 (σ := σ) (o := s) zfuel 0 s (by decide) h1 rfl rfl rfl (fun j hj => absurd hj (by omega)) (fun _ _ => rfl)) (zpc_some (Q := fun r => r = t) rfl) (fun r t' q e => ?_)
  obtain ⟨q1, q2, q3, q4⟩ := q
  subst e
  refine ⟨q1, h2, q3.trans h4, h5, h6, h7, ?_, fun j hj => ?_⟩
  · unfold zStt
    rw [q2]
    exact h9
  · obtain ⟨r8, e8⟩ := h8 j hj
    rw [q4 j hj, e8, h3]
    by_cases z : s.1 28 j ≤ 0
    · rw [if_pos z, if_pos z, if_pos (by decide)]
      exact ⟨zr_c (by decide), rfl⟩
    · have z2 : ¬ (16 + s.1 28 j) ≤ 0 := zq_lef (zr_add (lo := 16) (hi := 31) (zr_c (lo := 16) (hi := 16) (x := 16) (by decide)) r8 (by decide)) rfl (by decide)
      rw [if_neg z, if_neg z, if_neg z2]
      exact ⟨zr_add (zr_c (lo := 16) (hi := 16) (x := 16) (by decide)) r8 (by decide), rfl⟩
/-- which row of a sprite lies on the line -/
def gRow (sh L u : Int32) : Int32 := if sh &&& 1 = 0 then ((L - u) - 1) &&& 255 else (((L - u) - 1) &&& 255) >>> ((1 : Int32) &&& 31)
def gHg (sh : Int32) : Int32 := if sh &&& 2 = 0 then 8 else 16
def gZm (sh : Int32) : Int32 := if sh &&& 1 = 0 then 1 else 2
theorem p_row {L u : Int32} : zpc (fX3_rowOfSprite s L u) (fun r => r = (s, if gHg (s.1 23 1) ≤ gRow (s.1 23 1) L u then -1 else gRow (s.1 23 1) L u)) := by
  unfold fX3_rowOfSprite
  refine zpc_bi (p_held (x := 1) (zr_c (by decide))) (fun s1 v e => zpc_bv (fun v3 e3 => ?_))
  cases e
  rw [show s.1 23 (1 : Int32).toNatClampNeg = s.1 23 1 from rfl]
  have go : ∀ w, w = gRow (s.1 23 1) L u → zpc (fX3_rowOfSprite_32 s (s.1 23 1) w) (fun r => r = (s, if gHg (s.1 23 1) ≤ gRow (s.1 23 1) L u then -1 else gRow (s.1 23 1) L u)) := fun w ew => by
    unfold fX3_rowOfSprite_32 fX3_rowOfSprite_47 fX3_rowOfSprite_56 gHg
    rw [ew]
    refine zpc_if (fun q => zpc_if (fun q2 => zpc_some ?_) (fun q2 => zpc_some ?_)) (fun q => zpc_if (fun q2 => zpc_some ?_) (fun q2 => zpc_some ?_))
    · rw [if_pos q, if_pos q2]
    · rw [if_pos q, if_neg q2]
    · rw [if_neg q, if_pos q2]
    · rw [if_neg q, if_neg q2]
  refine zpc_if (fun q => go _ ?_) (fun q => zpc_bv (fun v4 e4 => go _ ?_))
  · unfold gRow; rw [if_pos q, e3]
  · unfold gRow; rw [if_neg q, e4, e3]
/-- the reference's comparison is the same; its row, divided by the zoom, too -/
theorem v_row : ∀ c : Fin 256, ((8 ≤ Int32.ofNat c.val ↔ ¬ Int32.ofNat c.val < 8 * 1) ∧ (16 ≤ Int32.ofNat c.val ↔ ¬ Int32.ofNat c.val < 16 * 1) ∧ Int32.ofNat c.val / 1 = Int32.ofNat c.val) ∧ ((8 ≤ Int32.ofNat c.val >>> ((1 : Int32) &&& 31) ↔ ¬ Int32.ofNat c.val < 8 * 2) ∧ (16 ≤ Int32.ofNat c.val >>> ((1 : Int32) &&& 31) ↔ ¬ Int32.ofNat c.val < 16 * 2) ∧ Int32.ofNat c.val / 2 = Int32.ofNat c.val >>> ((1 : Int32) &&& 31)) ∧ (0 ≤ (Int32.ofNat c.val >>> ((1 : Int32) &&& 31)).toInt) := by decide +kernel
theorem z_row {sh L u : Int32} : (gHg sh ≤ gRow sh L u ↔ ¬ (((L - u) - 1) &&& 255) < gHg sh * gZm sh) ∧ (((L - u) - 1) &&& 255) / gZm sh = gRow sh L u ∧ zr 0 255 (gRow sh L u) := by
  have r : zr 0 255 (((L - u) - 1) &&& 255) := z_r8 _
  obtain ⟨c, ec⟩ := z_byteF r
  obtain ⟨⟨a1, a2, a3⟩, ⟨b1, b2, b3⟩, b4⟩ := v_row c
  unfold gHg gRow gZm
  rw [ec]
  by_cases q : sh &&& 1 = 0
  · rw [if_pos q, if_pos q]
    rw [ec] at r
    by_cases p : sh &&& 2 = 0
    · rw [if_pos p]; exact ⟨a1, a3, r⟩
    · rw [if_neg p]; exact ⟨a2, a3, r⟩
  · rw [if_neg q, if_neg q]
    have r2 : zr 0 255 (Int32.ofNat c.val >>> ((1 : Int32) &&& 31)) := ⟨b4, by
      have z := b3
      have h1 := z_quo (x := Int32.ofNat c.val) (s := (1 : Int32) &&& 31) (k := 1) (by rw [z_ofI (by omega)]; omega) rfl
      rw [h1, z_ofI (by omega)]
      omega⟩
    by_cases p : sh &&& 2 = 0
    · rw [if_pos p]; exact ⟨b1, b3, r2⟩
    · rw [if_neg p]; exact ⟨b2, b3, r2⟩
def gLe (σ : zSt) (x : Int32) : Int32 := vb σ x - (if σ.1 23 0 &&& 8 = 0 then 0 else 8)
def gTi (σ : zSt) (x : Int32) : Int32 := vb σ (x + 1) + (if σ.1 23 6 &&& 4 = 0 then 0 else 256)
def gTe (σ : zSt) (x : Int32) : Int32 := if σ.1 23 1 &&& 2 = 0 then gTi σ x else gTi σ x &&& (-2)
theorem v_and1 : ∀ c : Fin 256, (Int32.ofNat c.val &&& 1 = 0 ∨ Int32.ofNat c.val &&& 1 = 1) := by decide +kernel
/-- the class: a sprite up to its dots -/
theorem c_sprite (h : zVe σ μ) (hs : zdC σ s) {x row : Int32} : zpc (fX3_drawSprite s x row) (fun r => fX3_drawSprite_111 zfuel (zsi s 3 7 (gPl σ ((32 * gTe σ x) + (4 * row)))) (gLe σ x) (σ.1 23 1 &&& 1) 0 = some r) := by
  have v := hs.v
  have g0 : s.1 23 (0 : Int32).toNatClampNeg = σ.1 23 0 := hs.r (j := 0) (by decide)
  have g1 : s.1 23 (1 : Int32).toNatClampNeg = σ.1 23 1 := hs.r (j := 1) (by decide)
  have g6 : s.1 23 (6 : Int32).toNatClampNeg = σ.1 23 6 := hs.r (j := 6) (by decide)
  have l100 : ∀ y, y = gTe σ x → zpc (fX3_drawSprite_100 s row (gLe σ x) (σ.1 23 1 &&& 1) y 32) (fun r => fX3_drawSprite_111 zfuel (zsi s 3 7 (gPl σ ((32 * gTe σ x) + (4 * row)))) (gLe σ x) (σ.1 23 1 &&& 1) 0 = some r) := fun y ey => by
    unfold fX3_drawSprite_100
    rw [ey]
    refine zpc_bu p_planes (fun s1 e1 => ?_)
    rw [e1, show gPl s ((32 * gTe σ x) + (4 * row)) = gPl σ ((32 * gTe σ x) + (4 * row)) by unfold gPl; rw [vb_of v, vb_of v, vb_of v, vb_of v]]
    exact fun r er => er
  have l61 : ∀ y z, z + y = gTi σ x → zpc (fX3_drawSprite_61 s row (gLe σ x) y z) (fun r => fX3_drawSprite_111 zfuel (zsi s 3 7 (gPl σ ((32 * gTe σ x) + (4 * row)))) (gLe σ x) (σ.1 23 1 &&& 1) 0 = some r) := fun y z e => by
    unfold fX3_drawSprite_61
    refine zpc_bv (fun v8 e8 => zpc_bi (p_held (x := 1) (zr_c (by decide))) (fun s1 v1 e1 => zpc_bv (fun v11 e11 => ?_)))
    cases e1
    rw [e] at e8
    rw [g1] at e11
    rw [g1, e11, e8]
    refine zpc_if (fun q => l100 _ ?_) (fun q => l100 _ ?_)
    · unfold gTe; rw [if_pos q]
    · unfold gTe; rw [if_neg q]
  have l28 : ∀ y, vb σ x - y = gLe σ x → zpc (fX3_drawSprite_28 s x row y (vb σ x)) (fun r => fX3_drawSprite_111 zfuel (zsi s 3 7 (gPl σ ((32 * gTe σ x) + (4 * row)))) (gLe σ x) (σ.1 23 1 &&& 1) 0 = some r) := fun y e => by
    unfold fX3_drawSprite_28
    refine zpc_bv (fun v12 e12 => zpc_bi p_vb (fun s1 v1 e1 => ?_))
    cases e1
    refine zpc_bi (p_held (x := 6) (zr_c (by decide))) (fun s1 v1 e1 => ?_)
    cases e1
    rw [e] at e12
    rw [g6, e12, vb_of v]
    refine zpc_if (fun q => l61 _ _ ?_) (fun q => l61 _ _ ?_)
    · unfold gTi; rw [if_pos q]
    · unfold gTi; rw [if_neg q]
  unfold fX3_drawSprite
  refine zpc_bi p_vb (fun s1 v1 e1 => ?_)
  cases e1
  refine zpc_bi (p_held (x := 0) (zr_c (by decide))) (fun s1 v1 e1 => ?_)
  cases e1
  rw [g0, vb_of v]
  refine zpc_if (fun q => l28 _ ?_) (fun q => l28 _ ?_)
  · unfold gLe; rw [if_pos q]
  · unfold gLe; rw [if_neg q]
theorem v_r16 : ∀ c : Fin 16, 32 * (Int32.ofNat c.val / 8) + 4 * (zrem (Int32.ofNat c.val) 8) = 4 * Int32.ofNat c.val := by decide +kernel
theorem v_r8 : ∀ c : Fin 8, zrem (Int32.ofNat c.val) 8 = Int32.ofNat c.val := by decide +kernel
theorem v_512 : ∀ c : Fin 512, Int32.ofNat c.val &&& 510 = Int32.ofNat c.val &&& (-2) := by decide +kernel
theorem gTi_r (h : zVe σ μ) {x : Int32} : zr 0 511 (gTi σ x) := by
  unfold gTi
  by_cases q : σ.1 23 6 &&& 4 = 0
  · rw [if_pos q]; exact zr_add (vb_r h.1 _) (zr_c (lo := 0) (hi := 0) (x := 0) (by decide)) (by decide)
  · rw [if_neg q]; exact zr_add (vb_r h.1 _) (zr_c (lo := 256) (hi := 256) (x := 256) (by decide)) (by decide)
/-- the reference: a sprite up to its dots -/
theorem m_sprite (h : zVe σ μ) (hd : zdM μ t) {k73 : zK8} {L tb f e nn u : Int32} (hlt : ¬ gHg (σ.1 23 1) ≤ gRow (σ.1 23 1) L u) : ∃ ti : Int32, (32 * gTe σ ((tb + 128) + (2 * nn))) + (4 * gRow (σ.1 23 1) L u) = (32 * ti) + (4 * (zrem ((((L - u) - 1) &&& 255) / gZm (σ.1 23 1)) 8)) ∧ zpc (zbi (fX12_video8 t ((tb + 129) + (2 * nn))) (fun σ16 v17 => zbi (fX12_bit σ16 6 2) (fun σ18 v19 => if v19 = 1 then fX12_sprites_183 k73 σ18 L tb (gZm (σ.1 23 1)) (gHg (σ.1 23 1)) f e nn (((L - u) - 1) &&& 255) 256 v17 else fX12_sprites_183 k73 σ18 L tb (gZm (σ.1 23 1)) (gHg (σ.1 23 1)) f e nn (((L - u) - 1) &&& 255) 0 v17))) (fun r => fX12_sprites_250 k73 zfuel t L tb (gZm (σ.1 23 1)) (gHg (σ.1 23 1)) f e nn (((L - u) - 1) &&& 255) ti (gLe σ ((tb + 128) + (2 * nn))) 0 = some r) := by
  obtain ⟨X, eX⟩ : ∃ X, X = (tb + 128) + (2 * nn) := ⟨_, rfl⟩
  obtain ⟨Y, eY⟩ : ∃ Y, Y = ((L - u) - 1) &&& 255 := ⟨_, rfl⟩
  have ea : (tb + 129) + (2 * nn) = X + 1 := by
    rw [eX, Int32.add_assoc (tb + 128), Int32.add_comm (2 * nn) 1, ← Int32.add_assoc (tb + 128), Int32.add_assoc tb 128 1]
    rfl
  obtain ⟨z1, z2, z3⟩ := z_row (sh := σ.1 23 1) (L := L) (u := u)
  rw [← eY] at z1 z2
  rw [← eX, ← eY, ea, z2]
  have f0 : t.1 3 47 = σ.1 23 0 := h.ej hd (j := 0) (by decide)
  have f6 : t.1 3 53 = σ.1 23 6 := h.ej hd (j := 6) (by decide)
  have b3 := p_bit_0_3 (μ := t) (by rw [f0]; exact h.r0)
  have b62 := p_bit_6_2 (μ := t) (by rw [f6]; exact h.rj (j := 6) (by decide))
  rw [f0] at b3
  rw [f6] at b62
  have l212 : ∀ y, zpc (fX12_sprites_212 k73 t L tb (gZm (σ.1 23 1)) (gHg (σ.1 23 1)) f e nn Y y) (fun r => fX12_sprites_250 k73 zfuel t L tb (gZm (σ.1 23 1)) (gHg (σ.1 23 1)) f e nn Y y (gLe σ X) 0 = some r) := fun y => by
    unfold fX12_sprites_212 fX12_sprites_244
    rw [← eX]
    refine zpc_bi (p_v8 h.1 hd.v) (fun t1 v1 e1 => ?_)
    cases e1
    refine zpc_bit b3 (fun q => zpc_if (fun z => absurd z (by decide)) (fun _ => zpc_bv (fun v8 e8 => ?_))) (fun q => zpc_if (fun _ => zpc_bv (fun v8 e8 => ?_)) (fun z => absurd rfl z))
    · rw [e8, show vb σ X - 0 = gLe σ X by unfold gLe; rw [if_pos q]]
      exact fun r er => er
    · rw [e8, show vb σ X - 8 = gLe σ X by unfold gLe; rw [if_neg q]]
      exact fun r er => er
  have low : ∀ ti, (∀ y z, z + y = gTi σ X → zpc (fX12_sprites_183 k73 t L tb (gZm (σ.1 23 1)) (gHg (σ.1 23 1)) f e nn Y y z) (fun r => fX12_sprites_250 k73 zfuel t L tb (gZm (σ.1 23 1)) (gHg (σ.1 23 1)) f e nn Y ti (gLe σ X) 0 = some r)) → zpc (zbi (fX12_video8 t (X + 1)) (fun σ16 v17 => zbi (fX12_bit σ16 6 2) (fun σ18 v19 => if v19 = 1 then fX12_sprites_183 k73 σ18 L tb (gZm (σ.1 23 1)) (gHg (σ.1 23 1)) f e nn Y 256 v17 else fX12_sprites_183 k73 σ18 L tb (gZm (σ.1 23 1)) (gHg (σ.1 23 1)) f e nn Y 0 v17))) (fun r => fX12_sprites_250 k73 zfuel t L tb (gZm (σ.1 23 1)) (gHg (σ.1 23 1)) f e nn Y ti (gLe σ X) 0 = some r) := fun ti H => by
    refine zpc_bi (p_v8 h.1 hd.v) (fun t1 v1 e1 => ?_)
    cases e1
    refine zpc_bit b62 (fun q => zpc_if (fun z => absurd z (by decide)) (fun _ => H _ _ ?_)) (fun q => zpc_if (fun _ => H _ _ ?_) (fun z => absurd rfl z))
    · unfold gTi; rw [if_pos q]
    · unfold gTi; rw [if_neg q]
  have rT := gTi_r h (x := X)
  have hl : (gRow (σ.1 23 1) L u).toInt < (gHg (σ.1 23 1)).toInt := Int32.lt_iff_toInt_lt.mp (z_nle hlt)
  by_cases p : σ.1 23 1 &&& 2 = 0
  · have eH : gHg (σ.1 23 1) = 8 := by unfold gHg; rw [if_pos p]
    rw [eH, show (8 : Int32).toInt = 8 from rfl] at hl
    obtain ⟨c, ec⟩ := z_F (m := 8) (b := 7) (x := gRow (σ.1 23 1) L u) ⟨z3.1, by omega⟩ (by decide)
    refine ⟨gTi σ X, ?_, low _ (fun y z eyz => ?_)⟩
    · unfold gTe
      rw [if_pos p, ec, v_r8 c]
    · unfold fX12_sprites_183
      refine zpc_bv (fun v13 e13 => ?_)
      rw [eyz] at e13
      rw [e13, eH]
      refine zpc_if (fun z => absurd z (by decide)) (fun _ => ?_)
      have z := l212 (gTi σ X)
      rw [eH] at z
      exact z
  · have eH : gHg (σ.1 23 1) = 16 := by unfold gHg; rw [if_neg p]
    rw [eH, show (16 : Int32).toInt = 16 from rfl] at hl
    obtain ⟨c, ec⟩ := z_F (m := 16) (b := 15) (x := gRow (σ.1 23 1) L u) ⟨z3.1, by omega⟩ (by decide)
    obtain ⟨d, ed⟩ := z_F (m := 512) (b := 511) (x := gTi σ X) rT (by decide)
    refine ⟨(gTi σ X &&& 510) + ((gRow (σ.1 23 1) L u) / 8), ?_, low _ (fun y z eyz => ?_)⟩
    · unfold gTe
      rw [if_neg p, show gTi σ X &&& 510 = gTi σ X &&& (-2) by rw [ed]; exact v_512 d, Int32.mul_add, Int32.add_assoc, ec, v_r16 c]
    · unfold fX12_sprites_183
      refine zpc_bv (fun v13 e13 => ?_)
      rw [eyz] at e13
      rw [e13, eH, z2]
      refine zpc_if (fun _ => zpc_ck (zpc_ck ?_)) (fun z => absurd rfl z)
      have z := l212 ((gTi σ X &&& 510) + ((gRow (σ.1 23 1) L u) / 8))
      rw [eH] at z
      exact z
/-- all sprites -/
theorem t_51 (h : zVe σ μ) {L tb e : Int32} : ∀ (n m i : Nat) (s t : zSt) (f : Int32), i ≤ 64 → zr 0 8 f → zSi σ μ s0 t0 s t → zp2 (fX3_drawSprites_51 n s L tb e f (Int32.ofNat i)) (fX12_sprites_73 m t L tb (gZm (σ.1 23 1)) (gHg (σ.1 23 1)) f e (Int32.ofNat i)) (zSe σ μ s0 t0) := by
  intro n
  induction n with
  | zero => intro m i s t f _ _ _; exact zp2_nl
  | succ n ih =>
    intro m i s t f hi hf hS
    cases m with
    | zero => exact zp2_nr
    | succ m =>
      show zp2 (fX3_drawSprites_51_body (fX3_drawSprites_51 n) s L tb e f (Int32.ofNat i)) (fX12_sprites_73_body (fX12_sprites_73 m) t L tb (gZm (σ.1 23 1)) (gHg (σ.1 23 1)) f e (Int32.ofNat i)) _
      unfold fX3_drawSprites_51_body fX12_sprites_73_body
      have hs := hS.1
      have hd := hS.2.1
      refine zp2_if (fun _ => t_144 hS) (fun q => ?_)
      have hi2 : i < 64 := by
        have : ¬ 64 ≤ i := fun z => q ((z_ofL (c := 64) (k := 64) (i := i) (by omega) rfl).mpr z)
        omega
      refine zp2_bil p_vb (fun s1 u e1 => ?_)
      cases e1
      refine zp2_bir (p_v8 h.1 hd.v) (fun t1 u e1 => ?_)
      cases e1
      rw [vb_of hs.v]
      obtain ⟨u, eu⟩ : ∃ u, u = vb σ (tb + Int32.ofNat i) := ⟨_, rfl⟩
      rw [← eu]
      have g1 : s.1 23 1 = σ.1 23 1 := hs.r (by decide)
      have next : ∀ (s t : zSt) (f : Int32), zr 0 8 f → zSi σ μ s0 t0 s t → zp2 (fX3_drawSprites_138 (fX3_drawSprites_51 n) s L tb e f (Int32.ofNat i)) (fX12_sprites_349 (fX12_sprites_73 m) t L tb (gZm (σ.1 23 1)) (gHg (σ.1 23 1)) f e (Int32.ofNat i)) (zSe σ μ s0 t0) := fun s t f a b => by
        unfold fX3_drawSprites_138 fX12_sprites_349
        rw [z_ofS (by omega)]
        exact zp2_bvl (fun v ev => zp2_bvr (fun w ew => by rw [ev, ew]; exact ih m (i + 1) s t f (by omega) a b))
      have main : zp2 (fX3_drawSprites_86 (fX3_drawSprites_51 n) s L tb e f (Int32.ofNat i) u) (fX12_sprites_104 (fX12_sprites_73 m) t L tb (gZm (σ.1 23 1)) (gHg (σ.1 23 1)) f e (Int32.ofNat i) u) (zSe σ μ s0 t0) := by
        obtain ⟨z1, z2, z3⟩ := z_row (sh := σ.1 23 1) (L := L) (u := u)
        unfold fX3_drawSprites_86 fX12_sprites_104
        refine zp2_bil p_row (fun s1 v1 e1 => zp2_bvr (fun v14 e14 => ?_))
        cases e1
        rw [g1]
        subst e14
        by_cases p : gHg (σ.1 23 1) ≤ gRow (σ.1 23 1) L u
        · rw [if_pos p]
          refine zp2_ifl (fun _ => zp2_ifr (fun z => absurd z (z1.mp p)) (fun _ => next s t f hf hS)) (fun z => absurd (by decide) z)
        rw [if_neg p]
        have lt : (((L - u) - 1) &&& 255) < gHg (σ.1 23 1) * gZm (σ.1 23 1) := Decidable.byContradiction (fun z => p (z1.mpr z))
        refine zp2_ifl (fun z => absurd z (zq_lt z3 rfl (by decide))) (fun _ => zp2_ifr (fun _ => ?_) (fun z => absurd lt z))
        refine zp2_bvl (fun v6 e6 => ?_)
        have tf : (f + 1).toInt = f.toInt + 1 := z_tadd hf (zr_c (lo := 1) (hi := 1) (x := 1) (by decide)) (by decide)
        have f0 := hf.1
        have f8 := hf.2
        have e8 : v6 ≤ 8 ↔ ¬ f = 8 := by
          rw [e6, Int32.le_iff_toInt_le, ← Int32.toInt_inj, tf, show (8 : Int32).toInt = 8 from rfl]
          omega
        refine zp2_ifn e8 (fun _ c8 => ?_) (fun _ c8 => ?_)
        · have rf : zr 0 8 (f + 1) := ⟨by omega, by have : ¬ f.toInt = 8 := fun z => c8 (Int32.toInt_inj.mp z); omega⟩
          subst e6
          refine zp2_bvr (fun v15 e15 => ?_)
          subst e15
          obtain ⟨ti, eA, pM⟩ := m_sprite h hd (k73 := fX12_sprites_73 m) (tb := tb) (f := f + 1) (e := e) (nn := Int32.ofNat i) p
          refine zp2_subr pM (zp2_usub (c_sprite h hs) ?_)
          have hz : zZm (σ.1 23 1 &&& 1) (gZm (σ.1 23 1)) := by
            unfold gZm
            obtain ⟨c, ec⟩ := z_byteF h.r1
            rcases v_and1 c with z | z
            · rw [← ec] at z
              rw [if_pos z]
              exact Or.inl ⟨z, rfl⟩
            · rw [← ec] at z
              rw [if_neg (by rw [z]; decide)]
              exact Or.inr ⟨z, rfl⟩
          exact t_111 h hz eA (fun s' t' q' => next s' t' (f + 1) rf q') zfuel zfuel 0 _ t (by decide) hS.pl zsi_ej
        · have r15 : zr 0 255 (s.1 23 15) := hS.2.2.2.2.2.2.2.2.2
          have e62 : zgi t 3 (62 : Int32).toNatClampNeg = s.1 23 15 := hS.2.2.2.2.2.2.2.2.1
          refine zp2_bul (P := fun r => r = zsi s 23 15 (s.1 23 15 ||| 64)) (by unfold fX9_mark; exact zpc_ck (zpc_ck (zpc_bv (fun s1 f1 => zpc_some f1)))) (fun s1 f1 => zp2_ckr (zp2_ckr (zp2_bvr (fun t1 g1 => ?_))))
          rw [e62] at g1
          rw [f1, g1]
          exact t_144 (hS.st (zr_or (lo := 0) (hi := 255) 8 r15 (zr_c (lo := 64) (hi := 64) (x := 64) (by decide)) (by decide)))
      exact zp2_if (fun _ => main) (fun _ => zp2_if (fun _ => t_144 hS) (fun _ => main))
theorem v_tab : ∀ c : Fin 256, 256 * (zrem (Int32.ofNat c.val / 2) 64) = 256 * ((Int32.ofNat c.val >>> ((1 : Int32) &&& 31)) &&& 63) := by decide +kernel
/-- sprites over tiles, both sides -/
theorem t_sprites (h : zVe σ μ) (hs : zdC σ s) (hd : zdM μ t) (hst : zStt s t) (h24 : ∀ j : Nat, j < 256 → t.1 24 j = 0) {L : Int32} : zp2 (fX3_drawSprites s L) (fX12_sprites t L) (zSe σ μ s t) := by
  have f0 : t.1 3 47 = σ.1 23 0 := h.ej hd (j := 0) (by decide)
  have f1 : t.1 3 48 = σ.1 23 1 := h.ej hd (j := 1) (by decide)
  have f5 : t.1 3 (47 + (5 : Int32)).toNatClampNeg = σ.1 23 5 := h.ej hd (j := 5) (by decide)
  have pM := p_heightM (μ := t) (by rw [f0]; exact h.r0) (by rw [f1]; exact h.r1)
  rw [f0, f1] at pM
  have b0 := p_bit_1_0 (μ := t) (by rw [f1]; exact h.r1)
  have b1 := p_bit_1_1 (μ := t) (by rw [f1]; exact h.r1)
  rw [f1] at b0 b1
  unfold fX3_drawSprites fX12_sprites
  unfold fJ7_fill_53178_k28
  refine zp2_bul (c_fill28 (σ := σ) (s0 := s) (v := 0) zfuel 0 s (by decide) hs rfl rfl rfl (fun j hj => absurd hj (by omega))) (fun s1 q => ?_)
  obtain ⟨q1, q2, q3, q4, q5⟩ := q
  have g0 : s1.1 23 0 = σ.1 23 0 := q1.r (by decide)
  have g1 : s1.1 23 1 = σ.1 23 1 := q1.r (by decide)
  have g5 : s1.1 23 (5 : Int32).toNatClampNeg = σ.1 23 5 := q1.r (j := 5) (by decide)
  have pC := p_heightC (σ := s1) (by rw [g0]; exact h.r0) (by rw [g1]; exact h.r1)
  rw [g0, g1] at pC
  refine zp2_bil (p_held (x := 5) (zr_c (by decide))) (fun s2 v2 e2 => zp2_bvl (fun tb etb => ?_))
  cases e2
  rw [g5] at etb
  refine zp2_bil pC (fun s2 v2 e2 => ?_)
  cases e2
  refine zp2_bir p_reg (fun t2 v2 e2 => zp2_ckr (zp2_ckr (zp2_bvr (fun tb' etb' => ?_))))
  cases e2
  rw [f5] at etb'
  have etb' : tb' = tb := by
    rw [etb', etb]
    obtain ⟨c, ec⟩ := z_byteF (h.rj (j := 5) (by decide))
    rw [ec]
    exact v_tab c
  subst etb'
  have hS : zSi σ μ s t s1 t := by
    refine ⟨q1, hd, q2, q3, rfl, rfl, rfl, fun j hj => ?_, ?_⟩
    · rw [q5 j hj, h24 j hj]
      exact ⟨zr_c (by decide), by rw [if_pos (by decide)]⟩
    · unfold zStt
      rw [q4]
      exact hst
  have fin : ∀ y z e e' : Int32, z = gZm (σ.1 23 1) → y = gHg (σ.1 23 1) → e = e' → zp2 (fX3_drawSprites_44 s1 L tb' e) (fX12_sprites_68 t L tb' z y 0 e') (zSe σ μ s t) := fun y z e e' ez ey ee => by
    unfold fX3_drawSprites_44 fX12_sprites_68
    rw [ez, ey, ee]
    exact t_51 h zfuel zfuel 0 s1 t 0 (by decide) (zr_c (by decide)) hS
  have l48 : ∀ y z : Int32, z = gZm (σ.1 23 1) → y = gHg (σ.1 23 1) → zp2 (if zht (σ.1 23 0) (σ.1 23 1) = 192 then fX3_drawSprites_44 s1 L tb' 1 else fX3_drawSprites_44 s1 L tb' 0) (fX12_sprites_48 t L tb' z y) (zSe σ μ s t) := fun y z ez ey => by
    unfold fX12_sprites_48
    refine zp2_bir pM (fun t2 v2 e2 => ?_)
    cases e2
    exact zp2_if (fun _ => fin y z 1 1 ez ey rfl) (fun _ => fin y z 0 0 ez ey rfl)
  have l30 : ∀ z : Int32, z = gZm (σ.1 23 1) → zp2 (if zht (σ.1 23 0) (σ.1 23 1) = 192 then fX3_drawSprites_44 s1 L tb' 1 else fX3_drawSprites_44 s1 L tb' 0) (fX12_sprites_30 t L tb' z) (zSe σ μ s t) := fun z ez => by
    unfold fX12_sprites_30
    refine zp2_bir b1 (fun t2 v2 e2 => ?_)
    cases e2
    by_cases q : σ.1 23 1 &&& 2 = 0
    · rw [if_pos q]
      exact zp2_ifr (fun z => absurd z (by decide)) (fun _ => l48 8 z ez (by unfold gHg; rw [if_pos q]))
    · rw [if_neg q]
      exact zp2_ifr (fun _ => l48 16 z ez (by unfold gHg; rw [if_neg q])) (fun z => absurd rfl z)
  refine zp2_bir b0 (fun t2 v2 e2 => ?_)
  cases e2
  by_cases q : σ.1 23 1 &&& 1 = 0
  · rw [if_pos q]
    exact zp2_ifr (fun z => absurd z (by decide)) (fun _ => l30 1 (by unfold gZm; rw [if_pos q]))
  · rw [if_neg q]
    exact zp2_ifr (fun _ => l30 2 (by unfold gZm; rw [if_neg q])) (fun z => absurd rfl z)
end ZT6
end ZJN2
section ZJN3
/-! THE PAINTER, 7: COLOURS -/
def gHc (c : Int32) : Int32 := ((5 * (c &&& 3)) + (80 * ((c >>> ((2 : Int32) &&& 31)) &&& 3))) + (1280 * (c >>> ((4 : Int32) &&& 31)))
def gCo (σ : zSt) (m v : Int32) : Int32 := if m = 4 then (if σ.1 3 1 = 0 then σ.1 23 (32 + v).toNatClampNeg &&& 63 else (σ.1 23 (32 + (2 * v)).toNatClampNeg ||| (σ.1 23 ((32 + (2 * v)) + 1).toNatClampNeg <<< ((8 : Int32) &&& 31))) &&& 4095) else (if σ.1 3 1 = 0 then zt3 (v &&& 15).toNatClampNeg else gHc (zt3 (v &&& 15).toNatClampNeg))
theorem v_gHc : ∀ c : Fin 64, ((5 * (zrem (Int32.ofNat c.val) 4)) + (80 * (zrem (Int32.ofNat c.val / 4) 4))) + (1280 * (Int32.ofNat c.val / 16)) = gHc (Int32.ofNat c.val) := by decide +kernel
section ZT7
variable {σ μ s t : zSt}
theorem zdC.h (h : zdC σ s) : s.1 3 1 = σ.1 3 1 := zQ.o h (k := 3) (a := 0) (b := 6) rfl (by decide) (by decide)
theorem c_mix {m : Int32} {o : zSt} : ∀ (n i : Nat) (s : zSt), i ≤ 32 → zdC σ s → s.1 27 = o.1 27 → s.1 25 = o.1 25 → s.1 23 = o.1 23 → (∀ j : Nat, j < i → s.1 29 j = gCo σ m (Int32.ofNat j)) → zpc (fX3_mixColours_2 n s m (Int32.ofNat i)) (fun r => zdC σ r ∧ r.1 27 = o.1 27 ∧ r.1 25 = o.1 25 ∧ r.1 23 = o.1 23 ∧ ∀ j : Nat, j < 32 → r.1 29 j = gCo σ m (Int32.ofNat j)) := by
  intro n
  induction n with
  | zero => intro i s _ _ _ _ _ _; exact zpc_none
  | succ n ih =>
    intro i s hi hd e27 e25 e23 hin
    show zpc (fX3_mixColours_2_body (fX3_mixColours_2 n) s m (Int32.ofNat i)) _
    unfold fX3_mixColours_2_body
    refine zpc_if (fun q => zpc_some ?_) (fun q => ?_)
    · have := (z_ofL (k := 32) (by omega) rfl).mp q
      exact ⟨hd, e27, e25, e23, fun j hj => hin j (by omega)⟩
    have hi2 : i < 32 := by
      have : ¬ 32 ≤ i := fun z => q ((z_ofL (c := 32) (k := 32) (i := i) (by omega) rfl).mpr z)
      omega
    have ri : zr 0 31 (Int32.ofNat i) := z_ofr (by omega) (by omega)
    have nx : ∀ v, v = gCo σ m (Int32.ofNat i) → zpc (zck (zin (Int32.ofNat i) 32) (zbv (zsi s 29 ((Int32.ofNat i).toNatClampNeg) v) (fun σ2 => fX3_mixColours_130 (fX3_mixColours_2 n) σ2 m (Int32.ofNat i)))) (fun r => zdC σ r ∧ r.1 27 = o.1 27 ∧ r.1 25 = o.1 25 ∧ r.1 23 = o.1 23 ∧ ∀ j : Nat, j < 32 → r.1 29 j = gCo σ m (Int32.ofNat j)) := fun v ev => by
      unfold fX3_mixColours_130
      rw [z_ofC (by omega), z_ofS (by omega)]
      refine zpc_ck (zpc_bv (fun s1 g1 => zpc_bv (fun x ex => ?_)))
      subst ex
      refine ih (i + 1) s1 (by omega) (by rw [g1]; exact zQ.wi hd rfl) (by rw [g1, zsi_ne (by decide)]; exact e27) (by rw [g1, zsi_ne (by decide)]; exact e25) (by rw [g1, zsi_ne (by decide)]; exact e23) (fun j hj => ?_)
      by_cases z : j = i
      · rw [z, g1, zsi_ej, ev]
      · rw [g1, zsi_nj z]; exact hin j (by omega)
    have g31 : zgi s 3 1 = σ.1 3 1 := hd.h
    rw [g31]
    refine zpc_if (fun m4 => ?_) (fun m4 => ?_)
    · refine zpc_if (fun q0 => ?_) (fun q0 => ?_)
      · have rr : zr 32 63 (32 + Int32.ofNat i) := zr_add (zr_c (lo := 32) (hi := 32) (x := 32) (by decide)) ri (by decide)
        refine zpc_bi (p_held (zr_w rr (by decide))) (fun s1 v1 e1 => ?_)
        cases e1
        unfold fX3_mixColours_78
        refine nx _ ?_
        have k := z_clamp (x := 32 + Int32.ofNat i) (by have := rr.1; omega)
        have k2 := rr.1
        have k3 := rr.2
        unfold gCo
        rw [if_pos m4, if_pos q0, hd.r2 (by omega) (by omega)]
      · have r2 : zr 0 62 (2 * Int32.ofNat i) := zr_mul (zr_c (lo := 2) (hi := 2) (x := 2) (by decide)) ri (by decide)
        have rr : zr 32 94 (32 + 2 * Int32.ofNat i) := zr_add (zr_c (lo := 32) (hi := 32) (x := 32) (by decide)) r2 (by decide)
        have rs : zr 33 95 (32 + 2 * Int32.ofNat i + 1) := zr_add rr (zr_c (lo := 1) (hi := 1) (x := 1) (by decide)) (by decide)
        refine zpc_bi (p_held (zr_w rr (by decide))) (fun s1 v1 e1 => ?_)
        cases e1
        refine zpc_bi (p_held (zr_w rs (by decide))) (fun s1 v1 e1 => ?_)
        cases e1
        unfold fX3_mixColours_78
        refine nx _ ?_
        have k := z_clamp (x := 32 + 2 * Int32.ofNat i) (by have := rr.1; omega)
        have k2 := rr.1
        have k3 := rr.2
        have l := z_clamp (x := 32 + 2 * Int32.ofNat i + 1) (by have := rs.1; omega)
        have l2 := rs.1
        have l3 := rs.2
        unfold gCo
        rw [if_pos m4, if_neg q0, hd.r2 (j := (32 + 2 * Int32.ofNat i).toNatClampNeg) (by omega) (by omega), hd.r2 (j := (32 + 2 * Int32.ofNat i + 1).toNatClampNeg) (by omega) (by omega)]
    · refine zpc_ck (zpc_bv (fun v4 e4 => ?_))
      unfold fX3_mixColours_129
      refine zpc_if (fun q0 => nx _ ?_) (fun q0 => nx _ ?_)
      · unfold gCo; rw [if_neg m4, if_pos q0, e4]
      · unfold gCo; rw [if_neg m4, if_neg q0, e4]; rfl
theorem z_cr (h : zE σ μ) {j : Nat} (hj : j < 64) : μ.1 8 j &&& 255 = σ.1 23 (32 + j) := by
  have q := h.at (z_pn23_32 (d := j) hj)
  rw [Nat.zero_add] at q
  exact q
theorem z_63 {x : Int32} : x &&& 63 = (x &&& 255) &&& 63 := by
  rw [Int32.and_assoc]
  rfl
theorem z_4096 {a b : Int32} (ha : zr 0 255 a) (hb : zr 0 255 b) : zrem (a ||| (b <<< ((8 : Int32) &&& 31))) 4096 = (a ||| (b <<< ((8 : Int32) &&& 31))) &&& 4095 := by
  have r : zr 0 65535 (a ||| (b <<< ((8 : Int32) &&& 31))) := zr_or (lo := 0) (hi := 65535) 16 ha (zr_shl (lo := 0) (hi := 65280) 8 rfl hb (by decide)) (by decide)
  exact z_remm 12 r rfl rfl (by decide) (by decide)
/-- the reference's colour -/
theorem m_col (h : zVe σ μ) (hd : zdM μ t) {v : Nat} (hv : v < 32) (hm : zmd (σ.1 23 0) (σ.1 23 1) = 4 ∨ v < 16) : zpc (fX12_colour t (Int32.ofNat v)) (fun r => r = (t, gCo σ (zmd (σ.1 23 0) (σ.1 23 1)) (Int32.ofNat v))) := by
  have f0 : t.1 3 47 = σ.1 23 0 := h.ej hd (j := 0) (by decide)
  have f1 : t.1 3 48 = σ.1 23 1 := h.ej hd (j := 1) (by decide)
  have pm := p_modeM (μ := t) (by rw [f0]; exact h.r0) (by rw [f1]; exact h.r1)
  rw [f0, f1] at pm
  have e03 : zgi t 0 3 = μ.1 0 3 := zQ.o hd (k := 0) (a := 0) (b := 30) rfl (by decide) (by decide)
  have t8 : t.1 8 = μ.1 8 := zQ.ro hd (k := 8) rfl
  obtain ⟨k0, k1, k2, k3, k4, k5⟩ := h.2.2.1
  have kk : (σ.1 3 1 = 0 ↔ ¬ μ.1 0 3 = 2) := by
    rw [k3]
    by_cases q : μ.1 0 3 = 2
    · rw [if_pos q]; exact ⟨fun z => absurd z (by decide), fun z => absurd q z⟩
    · rw [if_neg q]; exact ⟨fun _ => q, fun _ => rfl⟩
  unfold fX12_colour
  refine zpc_bi pm (fun t1 v1 e1 => ?_)
  cases e1
  obtain ⟨M, eM⟩ : ∃ M, M = zmd (σ.1 23 0) (σ.1 23 1) := ⟨_, rfl⟩
  rw [← eM] at hm
  rw [← eM, e03]
  have ri : zr 0 31 (Int32.ofNat v) := z_ofr (by omega) (by omega)
  have ci := z_ofC (i := v) (by omega)
  refine zpc_if (fun m4 => ?_) (fun m4 => ?_)
  · unfold fX12_colour_62
    refine zpc_if (fun q => zpc_ck (zpc_ck (zpc_ck (zpc_some ?_)))) (fun q => zpc_ck (zpc_some ?_))
    · have r2 : zr 0 62 (2 * Int32.ofNat v) := zr_mul (zr_c (lo := 2) (hi := 2) (x := 2) (by decide)) ri (by decide)
      have t2 : (2 * Int32.ofNat v).toInt = 2 * (Int32.ofNat v).toInt := z_tmul (zr_c (lo := 2) (hi := 2) (x := 2) (by decide)) ri (by decide)
      rw [z_ofI (by omega)] at t2
      have c2 := z_clamp r2.1
      have i2 : (2 * Int32.ofNat v).toNatClampNeg = 2 * v := by omega
      have o2 : (32 + 2 * Int32.ofNat v).toNatClampNeg = 32 + 2 * v := by rw [z_off r2 (k := 32) rfl (by decide), i2]
      have r3 : zr 1 63 (2 * Int32.ofNat v + 1) := zr_add r2 (zr_c (lo := 1) (hi := 1) (x := 1) (by decide)) (by decide)
      have t3 := z_tadd r2 (zr_c (lo := 1) (hi := 1) (x := 1) (by decide)) (by decide)
      rw [show (1 : Int32).toInt = 1 from rfl] at t3
      have c3 := z_clamp (x := 2 * Int32.ofNat v + 1) (by have := r3.1; omega)
      have i3 : (2 * Int32.ofNat v + 1).toNatClampNeg = 2 * v + 1 := by omega
      have o3 : (32 + 2 * Int32.ofNat v + 1).toNatClampNeg = 32 + (2 * v + 1) := by
        have e : 32 + 2 * Int32.ofNat v + 1 = 32 + (2 * Int32.ofNat v + 1) := Int32.add_assoc _ _ _
        rw [e, z_off (x := 2 * Int32.ofNat v + 1) (c := 32) (k := 32) (a := 0) (b := 63) (zr_w r3 (by decide)) rfl (by decide), i3]
      unfold gCo
      rw [if_pos m4, if_neg (fun z => (kk.mp z) q), o2, o3, ← z_cr h.1 (j := 2 * v) (by omega), ← z_cr h.1 (j := 2 * v + 1) (by omega)]
      show (t, zrem ((t.1 8 (2 * Int32.ofNat v).toNatClampNeg &&& 255) ||| ((t.1 8 (2 * Int32.ofNat v + 1).toNatClampNeg &&& 255) <<< ((8 : Int32) &&& 31))) 4096) = _
      rw [t8, i2, i3, z_4096 (z_r8 _) (z_r8 _)]
    · have o1 : (32 + Int32.ofNat v).toNatClampNeg = 32 + v := by rw [z_off ri (k := 32) rfl (by decide), ci]
      unfold gCo
      rw [if_pos m4, if_pos (kk.mpr q), o1, ← z_cr h.1 (j := v) (by omega), ← z_63]
      show (t, t.1 8 (Int32.ofNat v).toNatClampNeg &&& 63) = _
      rw [t8, ci]
  · have v16 : v < 16 := hm.resolve_left m4
    have fin : ∀ c : Int32, zr 0 63 c → c = zt3 (Int32.ofNat v &&& 15).toNatClampNeg → zpc (fX12_colour_217 t c) (fun r => r = (t, gCo σ M (Int32.ofNat v))) := fun c rc ec => by
      unfold fX12_colour_217 fX12_colour_252
      rw [e03]
      refine zpc_if (fun q => zpc_ck (zpc_ck (zpc_ck (zpc_ck (zpc_some ?_))))) (fun q => zpc_some ?_)
      · unfold gCo
        rw [if_neg m4, if_neg (fun z => (kk.mp z) q), ← ec]
        obtain ⟨d, ed⟩ := z_F (m := 64) rc (by decide)
        rw [ed, v_gHc d]
      · unfold gCo
        rw [if_neg m4, if_pos (kk.mpr q), ec]
    have cs : v = 0 ∨ v = 1 ∨ v = 2 ∨ v = 3 ∨ v = 4 ∨ v = 5 ∨ v = 6 ∨ v = 7 ∨ v = 8 ∨ v = 9 ∨ v = 10 ∨ v = 11 ∨ v = 12 ∨ v = 13 ∨ v = 14 ∨ v = 15 := by omega
    rcases cs with z | z | z | z | z | z | z | z | z | z | z | z | z | z | z | z
    · subst z; exact zpc_if (fun y => absurd y (by decide)) (fun _ => zpc_if (fun y => absurd y (by decide)) (fun _ => zpc_if (fun y => absurd y (by decide)) (fun _ => zpc_if (fun y => absurd y (by decide)) (fun _ => zpc_if (fun y => absurd y (by decide)) (fun _ => zpc_if (fun y => absurd y (by decide)) (fun _ => zpc_if (fun y => absurd y (by decide)) (fun _ => zpc_if (fun y => absurd y (by decide)) (fun _ => zpc_if (fun y => absurd y (by decide)) (fun _ => zpc_if (fun y => absurd y (by decide)) (fun _ => zpc_if (fun y => absurd y (by decide)) (fun _ => zpc_if (fun y => absurd y (by decide)) (fun _ => zpc_if (fun y => absurd y (by decide)) (fun _ => zpc_if (fun y => absurd y (by decide)) (fun _ => (fin 0 (zr_c (by decide)) rfl)))))))))))))))
    · subst z; exact zpc_if (fun y => absurd y (by decide)) (fun _ => zpc_if (fun y => absurd y (by decide)) (fun _ => zpc_if (fun y => absurd y (by decide)) (fun _ => zpc_if (fun y => absurd y (by decide)) (fun _ => zpc_if (fun y => absurd y (by decide)) (fun _ => zpc_if (fun y => absurd y (by decide)) (fun _ => zpc_if (fun y => absurd y (by decide)) (fun _ => zpc_if (fun y => absurd y (by decide)) (fun _ => zpc_if (fun y => absurd y (by decide)) (fun _ => zpc_if (fun y => absurd y (by decide)) (fun _ => zpc_if (fun y => absurd y (by decide)) (fun _ => zpc_if (fun y => absurd y (by decide)) (fun _ => zpc_if (fun y => absurd y (by decide)) (fun _ => zpc_if (fun y => absurd y (by decide)) (fun _ => (fin 0 (zr_c (by decide)) rfl)))))))))))))))
    · subst z; exact zpc_if (fun _ => (fin 8 (zr_c (by decide)) rfl)) (fun y => absurd rfl y)
    · subst z; exact zpc_if (fun y => absurd y (by decide)) (fun _ => zpc_if (fun _ => (fin 12 (zr_c (by decide)) rfl)) (fun y => absurd rfl y))
    · subst z; exact zpc_if (fun y => absurd y (by decide)) (fun _ => zpc_if (fun y => absurd y (by decide)) (fun _ => zpc_if (fun _ => (fin 16 (zr_c (by decide)) rfl)) (fun y => absurd rfl y)))
    · subst z; exact zpc_if (fun y => absurd y (by decide)) (fun _ => zpc_if (fun y => absurd y (by decide)) (fun _ => zpc_if (fun y => absurd y (by decide)) (fun _ => zpc_if (fun _ => (fin 48 (zr_c (by decide)) rfl)) (fun y => absurd rfl y))))
    · subst z; exact zpc_if (fun y => absurd y (by decide)) (fun _ => zpc_if (fun y => absurd y (by decide)) (fun _ => zpc_if (fun y => absurd y (by decide)) (fun _ => zpc_if (fun y => absurd y (by decide)) (fun _ => zpc_if (fun _ => (fin 1 (zr_c (by decide)) rfl)) (fun y => absurd rfl y)))))
    · subst z; exact zpc_if (fun y => absurd y (by decide)) (fun _ => zpc_if (fun y => absurd y (by decide)) (fun _ => zpc_if (fun y => absurd y (by decide)) (fun _ => zpc_if (fun y => absurd y (by decide)) (fun _ => zpc_if (fun y => absurd y (by decide)) (fun _ => zpc_if (fun _ => (fin 60 (zr_c (by decide)) rfl)) (fun y => absurd rfl y))))))
    · subst z; exact zpc_if (fun y => absurd y (by decide)) (fun _ => zpc_if (fun y => absurd y (by decide)) (fun _ => zpc_if (fun y => absurd y (by decide)) (fun _ => zpc_if (fun y => absurd y (by decide)) (fun _ => zpc_if (fun y => absurd y (by decide)) (fun _ => zpc_if (fun y => absurd y (by decide)) (fun _ => zpc_if (fun _ => (fin 2 (zr_c (by decide)) rfl)) (fun y => absurd rfl y)))))))
    · subst z; exact zpc_if (fun y => absurd y (by decide)) (fun _ => zpc_if (fun y => absurd y (by decide)) (fun _ => zpc_if (fun y => absurd y (by decide)) (fun _ => zpc_if (fun y => absurd y (by decide)) (fun _ => zpc_if (fun y => absurd y (by decide)) (fun _ => zpc_if (fun y => absurd y (by decide)) (fun _ => zpc_if (fun y => absurd y (by decide)) (fun _ => zpc_if (fun _ => (fin 3 (zr_c (by decide)) rfl)) (fun y => absurd rfl y))))))))
    · subst z; exact zpc_if (fun y => absurd y (by decide)) (fun _ => zpc_if (fun y => absurd y (by decide)) (fun _ => zpc_if (fun y => absurd y (by decide)) (fun _ => zpc_if (fun y => absurd y (by decide)) (fun _ => zpc_if (fun y => absurd y (by decide)) (fun _ => zpc_if (fun y => absurd y (by decide)) (fun _ => zpc_if (fun y => absurd y (by decide)) (fun _ => zpc_if (fun y => absurd y (by decide)) (fun _ => zpc_if (fun _ => (fin 5 (zr_c (by decide)) rfl)) (fun y => absurd rfl y)))))))))
    · subst z; exact zpc_if (fun y => absurd y (by decide)) (fun _ => zpc_if (fun y => absurd y (by decide)) (fun _ => zpc_if (fun y => absurd y (by decide)) (fun _ => zpc_if (fun y => absurd y (by decide)) (fun _ => zpc_if (fun y => absurd y (by decide)) (fun _ => zpc_if (fun y => absurd y (by decide)) (fun _ => zpc_if (fun y => absurd y (by decide)) (fun _ => zpc_if (fun y => absurd y (by decide)) (fun _ => zpc_if (fun y => absurd y (by decide)) (fun _ => zpc_if (fun _ => (fin 15 (zr_c (by decide)) rfl)) (fun y => absurd rfl y))))))))))
    · subst z; exact zpc_if (fun y => absurd y (by decide)) (fun _ => zpc_if (fun y => absurd y (by decide)) (fun _ => zpc_if (fun y => absurd y (by decide)) (fun _ => zpc_if (fun y => absurd y (by decide)) (fun _ => zpc_if (fun y => absurd y (by decide)) (fun _ => zpc_if (fun y => absurd y (by decide)) (fun _ => zpc_if (fun y => absurd y (by decide)) (fun _ => zpc_if (fun y => absurd y (by decide)) (fun _ => zpc_if (fun y => absurd y (by decide)) (fun _ => zpc_if (fun y => absurd y (by decide)) (fun _ => zpc_if (fun _ => (fin 4 (zr_c (by decide)) rfl)) (fun y => absurd rfl y)))))))))))
    · subst z; exact zpc_if (fun y => absurd y (by decide)) (fun _ => zpc_if (fun y => absurd y (by decide)) (fun _ => zpc_if (fun y => absurd y (by decide)) (fun _ => zpc_if (fun y => absurd y (by decide)) (fun _ => zpc_if (fun y => absurd y (by decide)) (fun _ => zpc_if (fun y => absurd y (by decide)) (fun _ => zpc_if (fun y => absurd y (by decide)) (fun _ => zpc_if (fun y => absurd y (by decide)) (fun _ => zpc_if (fun y => absurd y (by decide)) (fun _ => zpc_if (fun y => absurd y (by decide)) (fun _ => zpc_if (fun y => absurd y (by decide)) (fun _ => zpc_if (fun _ => (fin 51 (zr_c (by decide)) rfl)) (fun y => absurd rfl y))))))))))))
    · subst z; exact zpc_if (fun y => absurd y (by decide)) (fun _ => zpc_if (fun y => absurd y (by decide)) (fun _ => zpc_if (fun y => absurd y (by decide)) (fun _ => zpc_if (fun y => absurd y (by decide)) (fun _ => zpc_if (fun y => absurd y (by decide)) (fun _ => zpc_if (fun y => absurd y (by decide)) (fun _ => zpc_if (fun y => absurd y (by decide)) (fun _ => zpc_if (fun y => absurd y (by decide)) (fun _ => zpc_if (fun y => absurd y (by decide)) (fun _ => zpc_if (fun y => absurd y (by decide)) (fun _ => zpc_if (fun y => absurd y (by decide)) (fun _ => zpc_if (fun y => absurd y (by decide)) (fun _ => zpc_if (fun _ => (fin 21 (zr_c (by decide)) rfl)) (fun y => absurd rfl y)))))))))))))
    · subst z; exact zpc_if (fun y => absurd y (by decide)) (fun _ => zpc_if (fun y => absurd y (by decide)) (fun _ => zpc_if (fun y => absurd y (by decide)) (fun _ => zpc_if (fun y => absurd y (by decide)) (fun _ => zpc_if (fun y => absurd y (by decide)) (fun _ => zpc_if (fun y => absurd y (by decide)) (fun _ => zpc_if (fun y => absurd y (by decide)) (fun _ => zpc_if (fun y => absurd y (by decide)) (fun _ => zpc_if (fun y => absurd y (by decide)) (fun _ => zpc_if (fun y => absurd y (by decide)) (fun _ => zpc_if (fun y => absurd y (by decide)) (fun _ => zpc_if (fun y => absurd y (by decide)) (fun _ => zpc_if (fun y => absurd y (by decide)) (fun _ => zpc_if (fun _ => (fin 63 (zr_c (by decide)) rfl)) (fun y => absurd rfl y))))))))))))))
/-- the painter's work keeps the relation -/
theorem zVe.draw (h : zVe σ μ) (hs : zdC σ s) (hd : zdM μ t) (hst : zStt s t) (hp : ∀ j : Nat, j < 61440 → t.1 9 j = s.1 25 j) : zVe s t := by
  have chk : (zTb.all (fun e => Nat.beq e.1 25 || ((Nat.beq e.1 23 && Nat.beq e.2.1 0) || (zof [25, 27, 28, 29] [(3, 7, 8), (23, 15, 15)] e.1 e.2.1 (e.2.1 + e.2.2.1 - 1) && zof [22, 23, 24, 25, 9] [(3, 62, 62)] e.2.2.2.1 e.2.2.2.2.1 (e.2.2.2.2.1 + e.2.2.1 - 1))))) = true := by decide +kernel
  have chg : (zGt.all (fun e => (Nat.beq e.1 23 && Nat.beq e.2.1 15) || zof [25, 27, 28, 29] [(3, 7, 8), (23, 15, 15)] e.1 e.2.1 (e.2.1 + e.2.2.1 - 1))) = true := by decide +kernel
  have only25 : ∀ e ∈ zTb, e.1 = 25 → e = (25, 0, 61440, 9, 0, (-1)) := by decide +kernel
  have only23 : ∀ e ∈ zTb, e.1 = 23 → e.2.1 = 0 → e = (23, 0, 17, 3, 47, (-1)) := by decide +kernel
  rw [List.all_eq_true] at chk chg
  refine h.of (fun e he i hi => ?_) (fun k j a b eg => ?_) ⟨zQ.o hs (k := 0) (a := 0) (b := 0) rfl (by decide) (by decide), zQ.o hs (k := 2) (a := 0) (b := 1) rfl (by decide) (by decide), hs.h, zQ.o hs (k := 6) (a := 0) (b := 0) rfl (by decide) (by decide), zQ.o hs (k := 2) (a := 0) (b := 1) rfl (by decide) (by decide)⟩ (zQ.o hd (k := 0) (a := 3) (b := 3) rfl (by decide) (by decide)) (hs.r2 (by decide) (by decide))
  · have z := chk e he
    rw [Bool.or_eq_true, Bool.or_eq_true, Bool.and_eq_true, Bool.and_eq_true] at z
    rcases z with z | ⟨z1, z2⟩ | ⟨z1, z2⟩
    · have ee := only25 e he (Nat.eq_of_beq_eq_true z)
      subst ee
      show t.1 9 (0 + i) &&& (-1) = s.1 25 (0 + i)
      rw [z_an1, Nat.zero_add]
      exact hp i hi
    · have ee := only23 e he (Nat.eq_of_beq_eq_true z1) (Nat.eq_of_beq_eq_true z2)
      subst ee
      have hi : i < 17 := hi
      show t.1 3 (47 + i) &&& (-1) = s.1 23 (0 + i)
      rw [z_an1, Nat.zero_add]
      by_cases y : i = 15
      · subst y
        exact hst.1
      · by_cases x : i ≤ 14
        · rw [hs.r x]
          exact h.ej hd x
        · have y16 : i = 16 := by omega
          subst y16
          rw [hs.r2 (by decide) (by decide), hd.r2 (by decide) (by decide)]
          exact h.e16
    · rw [zQ.o hs z1 (by omega) (by omega), zQ.o hd z2 (by omega) (by omega)]
      exact h.1 e he i hi
  · obtain ⟨e, he, e1, e2, e3⟩ := zGf_mem eg
    have z := chg e he
    rw [Bool.or_eq_true, Bool.and_eq_true] at z
    rcases z with ⟨z1, z2⟩ | z
    · have y1 : e.1 = 23 := Nat.eq_of_beq_eq_true z1
      have y2 : e.2.1 = 15 := Nat.eq_of_beq_eq_true z2
      have y3 : e.2.2.1 = 1 := by
        have w : ∀ e ∈ zGt, e.1 = 23 → e.2.1 = 15 → e.2.2.1 = 1 := by decide +kernel
        exact w e he y1 y2
      have k23 : k = 23 := e1.symm.trans y1
      have j15 : j = 15 := by omega
      subst k23
      subst j15
      have eg : some ((0 : Int), (255 : Int)) = some (a, b) := eg
      cases eg
      exact hst.2
    · rw [e1] at z
      rw [zQ.o hs z e2 (by omega)]
      exact h.2.1 k j a b eg
/-- the line, dot by dot, into the picture -/
theorem t_302 (h : zVe σ μ) {L : Int32} (hL : zr 0 239 L) : ∀ (n m i : Nat) (s t : zSt), i ≤ 256 → zdC σ s → zdM μ t → zStt s t → (∀ j : Nat, j < 61440 → t.1 9 j = s.1 25 j) → (∀ v : Nat, v < 32 → s.1 29 v = gCo σ (zmd (σ.1 23 0) (σ.1 23 1)) (Int32.ofNat v)) → (∀ j : Nat, j < 256 → ∃ v : Nat, v < 32 ∧ (zmd (σ.1 23 0) (σ.1 23 1) = 4 ∨ v < 16) ∧ t.1 22 j = Int32.ofNat v ∧ s.1 27 j &&& 31 = Int32.ofNat v) → zp2 (fX3_draw_152 n s L (Int32.ofNat i)) (fX12_draws_302 m t L (Int32.ofNat i)) (fun r r' => zVe r r' ∧ zdC σ r ∧ zdM μ r') := by
  intro n
  induction n with
  | zero => intro m i s t _ _ _ _ _ _ _; exact zp2_nl
  | succ n ih =>
    intro m i s t hi hs hd hst hp hc hn
    cases m with
    | zero => exact zp2_nr
    | succ m =>
      show zp2 (fX3_draw_152_body (fX3_draw_152 n) s L (Int32.ofNat i)) (fX12_draws_302_body (fX12_draws_302 m) t L (Int32.ofNat i)) _
      unfold fX3_draw_152_body fX12_draws_302_body
      refine zp2_if (fun _ => zp2_some ⟨h.draw hs hd hst hp, hs, hd⟩) (fun q => ?_)
      have hi2 : i < 256 := by
        have : ¬ 256 ≤ i := fun z => q ((z_ofL (c := 256) (k := 256) (i := i) (by omega) rfl).mpr z)
        omega
      obtain ⟨v, v1, v2, v3, v4⟩ := hn i hi2
      have ci := z_ofC (i := i) (by omega)
      have r6 : zr 0 61184 (256 * L) := zr_mul (zr_c (lo := 256) (hi := 256) (x := 256) (by decide)) hL (by decide)
      have ra : zr 0 61439 (256 * L + Int32.ofNat i) := zr_add r6 (z_ofr (b := 255) (by omega) (by omega)) (by decide)
      have ka := z_clamp ra.1
      have kb := ra.2
      rw [ci, Int32.mul_comm L 256]
      obtain ⟨A, eA⟩ : ∃ A, A = (256 * L + Int32.ofNat i).toNatClampNeg := ⟨_, rfl⟩
      rw [show zgi s 27 i &&& 31 = Int32.ofNat v from v4, show zgi t 22 i = Int32.ofNat v from v3, ← eA, z_ofS (by omega)]
      have hA : A < 61440 := by omega
      refine zp2_ckl (zp2_ckl (zp2_ckl (zp2_bvl (fun s1 f1 => zp2_bvl (fun x ex => ?_)))))
      subst ex
      rw [z_ofC (i := v) (by omega), show zgi s 29 v = gCo σ (zmd (σ.1 23 0) (σ.1 23 1)) (Int32.ofNat v) from hc v v1] at f1
      refine zp2_ckr (zp2_bir (m_col h hd v1 v2) (fun t1 w1 e1 => zp2_ckr (zp2_bvr (fun t3 g3 => zp2_bvr (fun x ex => ?_)))))
      cases e1
      subst ex
      refine ih m (i + 1) s1 t3 (by omega) (by rw [f1]; exact zQ.wi hs rfl) (by rw [g3]; exact zQ.wi hd rfl) ?_ (fun j hj => ?_) (fun w hw => ?_) (fun j hj => ?_)
      · unfold zStt
        rw [f1, g3, zsi_ne (by decide), zsi_ne (by decide)]
        exact hst
      · rw [f1, g3]
        by_cases z : j = A
        · rw [z, zsi_ej, zsi_ej]
        · rw [zsi_nj z, zsi_nj z]; exact hp j hj
      · rw [f1, zsi_ne (by decide)]; exact hc w hw
      · rw [f1, g3, zsi_ne (by decide), zsi_ne (by decide)]; exact hn j hj
end ZT7
end ZJN3
section ZJN4
/-! THE PAINTER, 8: THE FOURTH MODE, AND NO PICTURE -/
section ZT8
variable {σ μ s t : zSt}
theorem c_fill27 {v : Int32} {o : zSt} : ∀ (n i : Nat) (s : zSt), i ≤ 256 → zdC σ s → s.1 25 = o.1 25 → s.1 23 = o.1 23 → (∀ j : Nat, j < i → s.1 27 j = v) → zpc (fJ7_fill_53178_k27_5 n s v (Int32.ofNat i) 256) (fun r => zdC σ r ∧ r.1 25 = o.1 25 ∧ r.1 23 = o.1 23 ∧ ∀ j : Nat, j < 256 → r.1 27 j = v) := by
  intro n
  induction n with
  | zero => intro i s _ _ _ _ _; exact zpc_none
  | succ n ih =>
    intro i s hi hd e25 e23 hin
    show zpc (fJ7_fill_53178_k27_5_body (fJ7_fill_53178_k27_5 n) s v (Int32.ofNat i) 256) _
    unfold fJ7_fill_53178_k27_5_body
    refine zpc_if (fun q => zpc_some ?_) (fun q => ?_)
    · have := (z_ofL (k := 256) (by omega) rfl).mp q
      exact ⟨hd, e25, e23, fun j hj => hin j (by omega)⟩
    have hi2 : i < 256 := by
      have : ¬ 256 ≤ i := fun z => q ((z_ofL (c := 256) (k := 256) (i := i) (by omega) rfl).mpr z)
      omega
    rw [z_ofC (by omega), z_ofS (by omega)]
    refine zpc_ck (zpc_bv (fun s1 g1 => zpc_bv (fun x ex => ?_)))
    subst ex
    refine ih (i + 1) s1 (by omega) (by rw [g1]; exact zQ.wi hd rfl) (by rw [g1, zsi_ne (by decide)]; exact e25) (by rw [g1, zsi_ne (by decide)]; exact e23) (fun j hj => ?_)
    by_cases z : j = i
    · rw [z, g1, zsi_ej]
    · rw [g1, zsi_nj z]; exact hin j (by omega)
theorem c_fill8 {v : Int32} {o : zSt} : ∀ (n i : Nat) (s : zSt), i ≤ 8 → zdC σ s → s.1 25 = o.1 25 → s.1 23 = o.1 23 → (∀ j : Nat, j < i → s.1 27 j = v) → (∀ j : Nat, i ≤ j → s.1 27 j = o.1 27 j) → zpc (fJ7_fill_fda19_k27_10 n s 8 v (Int32.ofNat i)) (fun r => zdC σ r ∧ r.1 25 = o.1 25 ∧ r.1 23 = o.1 23 ∧ ∀ j : Nat, j < 256 → r.1 27 j = if j < 8 then v else o.1 27 j) := by
  intro n
  induction n with
  | zero => intro i s _ _ _ _ _ _; exact zpc_none
  | succ n ih =>
    intro i s hi hd e25 e23 hin hout
    show zpc (fJ7_fill_fda19_k27_10_body (fJ7_fill_fda19_k27_10 n) s 8 v (Int32.ofNat i)) _
    unfold fJ7_fill_fda19_k27_10_body
    refine zpc_if (fun q => zpc_some ?_) (fun q => ?_)
    · have := (z_ofL (k := 8) (by omega) rfl).mp q
      refine ⟨hd, e25, e23, fun j hj => ?_⟩
      by_cases z : j < 8
      · rw [if_pos z]; exact hin j (by omega)
      · rw [if_neg z]; exact hout j (by omega)
    have hi2 : i < 8 := by
      have : ¬ 8 ≤ i := fun z => q ((z_ofL (c := 8) (k := 8) (i := i) (by omega) rfl).mpr z)
      omega
    rw [z_ofC (by omega), z_ofS (by omega)]
    refine zpc_ck (zpc_bv (fun s1 g1 => zpc_bv (fun x ex => ?_)))
    subst ex
    refine ih (i + 1) s1 (by omega) (by rw [g1]; exact zQ.wi hd rfl) (by rw [g1, zsi_ne (by decide)]; exact e25) (by rw [g1, zsi_ne (by decide)]; exact e23) (fun j hj => ?_) (fun j hj => by rw [g1, zsi_nj (by omega)]; exact hout j (by omega))
    by_cases z : j = i
    · rw [z, g1, zsi_ej]
    · rw [g1, zsi_nj z]; exact hin j (by omega)
/-- what a line's dots are -/
def zDt (σ s t : zSt) : Prop := ∀ j : Nat, j < 256 → ∃ v : Nat, v < 32 ∧ (zmd (σ.1 23 0) (σ.1 23 1) = 4 ∨ v < 16) ∧ t.1 22 j = Int32.ofNat v ∧ s.1 27 j &&& 31 = Int32.ofNat v
def zFi (σ μ r r' : zSt) : Prop := zVe r r' ∧ zdC σ r ∧ zdM μ r'
theorem t_d144 (h : zVe σ μ) {L : Int32} (hL : zr 0 239 L) (hs : zdC σ s) (hd : zdM μ t) (hst : zStt s t) (hp : ∀ j : Nat, j < 61440 → t.1 9 j = s.1 25 j) (hn : zDt σ s t) : zp2 (fX3_draw_144 s L (zmd (σ.1 23 0) (σ.1 23 1))) (fX12_draws_302 zfuel t L 0) (zFi σ μ) := by
  unfold fX3_draw_144 fX3_mixColours
  refine zp2_bul (c_mix (σ := σ) (o := s) zfuel 0 s (by decide) hs rfl rfl rfl (fun j hj => absurd hj (by omega))) (fun s1 q => ?_)
  obtain ⟨q1, q2, q3, q4, q5⟩ := q
  refine t_302 h hL zfuel zfuel 0 s1 t (by decide) q1 hd ?_ (fun j hj => ?_) q5 (fun j hj => ?_)
  · unfold zStt
    rw [q4]
    exact hst
  · rw [q3]; exact hp j hj
  · rw [q2]; exact hn j hj
theorem v_bk : ∀ c : Fin 256, (Int32.ofNat c.val &&& 15) = Int32.ofNat (c.val % 16) ∧ zrem (Int32.ofNat c.val) 16 = Int32.ofNat (c.val % 16) := by decide +kernel
theorem v_31 : ∀ c : Fin 32, Int32.ofNat c.val &&& 31 = Int32.ofNat c.val := by decide +kernel
theorem v_16p : ∀ c : Fin 16, 16 + Int32.ofNat c.val = Int32.ofNat (16 + c.val) ∧ 0 + Int32.ofNat c.val = Int32.ofNat c.val := by decide +kernel
theorem v_oc : ∀ c : Fin 32, (Int32.ofNat c.val + 0) &&& 31 = Int32.ofNat c.val ∧ (Int32.ofNat c.val + 256) &&& 31 = Int32.ofNat c.val ∧ (Int32.ofNat c.val + 0) &&& 256 = 0 ∧ ¬ (Int32.ofNat c.val + 256) &&& 256 = 0 := by decide +kernel
/-- the fourth mode -/
theorem t_mode4 (h : zVe σ μ) {L bk : Int32} {b : Nat} (hL : zr 0 239 L) (hb : bk = Int32.ofNat b) (hb2 : b < 32) (hm : zmd (σ.1 23 0) (σ.1 23 1) = 4) (hs : zdC σ s) (hd : zdM μ t) (hst : zStt s t) (hp : ∀ j : Nat, j < 61440 → t.1 9 j = s.1 25 j) (h24 : ∀ j : Nat, j < 256 → t.1 24 j = 0 ∧ t.1 25 j = 0) : zp2 (zbu (fX3_drawTiles s L) (fun σ12 => zbu (fX3_drawSprites σ12 L) (fun σ13 => zbi (fX9_held σ13 0) (fun σ14 v15 => if (v15 &&& 32) = 0 then fX3_draw_144 σ14 L (zmd (σ.1 23 0) (σ.1 23 1)) else zbu (fJ7_fill_fda19_k27 σ14 0 8 bk) (fun σ16 => fX3_draw_144 σ16 L (zmd (σ.1 23 0) (σ.1 23 1))))))) (fX12_draws_97 zfuel t L bk 0) (zFi σ μ) := by
  refine zp2_bul (c_tiles (L := L) h hs) (fun s1 q => ?_)
  obtain ⟨⟨q1, q3, q4⟩, q2⟩ := q
  refine m_97 h hL (o := t) zfuel 0 t (by decide) hd rfl rfl h24 (fun j hj => absurd hj (by omega)) (fun t1 hd1 e3 e9 h24' e22 => ?_)
  have hst1 : zStt s1 t1 := by
    unfold zStt
    rw [q4, e3]
    exact hst
  refine zp2_buu (t_sprites h q1 hd1 hst1 (fun j hj => (h24' j hj).1)) (fun r t2 q => ?_)
  obtain ⟨w1, w2, w3, w4, w5, w6, w7, w8⟩ := q
  have hpr : ∀ j : Nat, j < 61440 → t2.1 9 j = r.1 25 j := fun j hj => by rw [w6, w3, e9, q3]; exact hp j hj
  have g0 : r.1 23 (0 : Int32).toNatClampNeg = σ.1 23 0 := w1.r (j := 0) (by decide)
  refine zp2_bil (p_held (x := 0) (zr_c (by decide))) (fun r1 v1 e1 => ?_)
  cases e1
  rw [g0]
  -- the dots behind the sprites
  have dots : ∀ j : Nat, j < 256 → ∃ v : Nat, v < 32 ∧ (if t2.1 24 j ≤ 0 then t2.1 22 j else if t2.1 23 j = 0 then t2.1 24 j else t2.1 22 j) = Int32.ofNat v ∧ r.1 27 j &&& 31 = Int32.ofNat v := fun j hj => by
    obtain ⟨z1, z2⟩ := w8 j hj
    obtain ⟨y1, y2⟩ := e22 j hj
    have x1 := q2 j hj
    obtain ⟨N, eN⟩ : ∃ N, N = tNu σ (tNm σ) (tAc σ L) (tSt σ) (tDn σ L) L (Int32.ofNat j) := ⟨_, rfl⟩
    obtain ⟨w, ew⟩ : ∃ w, w = tBi σ (tNm σ) (tAc σ L) (tSt σ) (tDn σ L) L (Int32.ofNat j) := ⟨_, rfl⟩
    rw [← eN, ← ew] at y1 y2 x1
    have rN : zr 0 15 N := by
      rw [eN]
      unfold tNu
      refine (z_gnum h.1 ?_).2
      have r7 : zr 0 7 (tCo (tAc σ L) (Int32.ofNat j) &&& 7) := zr_andr (lo := 0) (hi := 7) (zr_c (lo := 7) (hi := 7) (by decide)) (by decide)
      unfold tPc
      by_cases q : tBi σ (tNm σ) (tAc σ L) (tSt σ) (tDn σ L) L (Int32.ofNat j) &&& 512 = 0
      · rw [if_pos q]; exact r7
      · rw [if_neg q]; exact zr_sub (lo := 0) (hi := 7) (zr_c (lo := 7) (hi := 7) (x := 7) (by decide)) r7 (by decide)
    have r16 : zr 0 16 (o16 w) := by
      unfold o16
      by_cases q : w &&& 2048 = 0
      · rw [if_pos q]; exact zr_c (by decide)
      · rw [if_neg q]; exact zr_c (by decide)
    have rS : zr 0 31 (N + o16 w) := zr_add rN r16 (by decide)
    obtain ⟨c, ec⟩ := z_F (m := 32) rS (by decide)
    obtain ⟨c1, c2, c3, c4⟩ := v_oc c
    rw [← ec] at c1 c2 c3 c4
    obtain ⟨d, ed⟩ := z_F (m := 32) z1 (by decide)
    have d1 := v_31 d
    rw [← ed] at d1
    have ox : s1.1 27 j = (N + o16 w) + (if oAh N w = 0 then 0 else 256) := x1
    rw [w5, w4, y1, y2, z2, ox]
    by_cases a : t2.1 24 j ≤ 0
    · rw [if_pos a, if_pos a]
      refine ⟨c.val, c.isLt, ec, ?_⟩
      by_cases b : oAh N w = 0
      · rw [if_pos b, c1, ec]
      · rw [if_neg b, c2, ec]
    · rw [if_neg a, if_neg a]
      by_cases b : oAh N w = 0
      · rw [if_pos b, if_pos b, if_pos c3]
        exact ⟨d.val, d.isLt, ed, by rw [d1, ed]⟩
      · rw [if_neg b, if_neg b, if_neg c4]
        exact ⟨c.val, c.isLt, ec, by rw [c2, ec]⟩
  refine m_123 (μ := μ) (o := t2) zfuel 0 t2 (by decide) w2 rfl rfl rfl rfl (fun j hj => absurd hj (by omega)) (fun _ _ => rfl) (fun t3 hd3 a3 a9 a22 => ?_)
  refine m_168 h (o := t3) zfuel 0 t3 (by decide) hd3 rfl rfl (Or.inl rfl) (fun j hj => absurd hj (by omega)) (fun _ _ => rfl) (fun t4 hd4 b3 b9 b22 => ?_)
  have st4 : ∀ r2 : zSt, r2.1 23 = r.1 23 → zStt r2 t4 := fun r2 e => by
    unfold zStt
    rw [e, b3, a3]
    exact w7
  have pp4 : ∀ r2 : zSt, r2.1 25 = r.1 25 → ∀ j : Nat, j < 61440 → t4.1 9 j = r2.1 25 j := fun r2 e j hj => by
    rw [e, b9, a9]
    exact hpr j hj
  by_cases p : σ.1 23 0 &&& 32 = 0
  · rw [if_pos p]
    refine t_d144 h hL w1 hd4 (st4 r rfl) (pp4 r rfl) (fun j hj => ?_)
    obtain ⟨v, v1, v2, v3⟩ := dots j hj
    refine ⟨v, v1, Or.inl hm, ?_, v3⟩
    rw [b22 j hj, if_neg (fun z => z.2 p), a22 j hj]
    exact v2
  · rw [if_neg p]
    unfold fJ7_fill_fda19_k27 fJ7_rangeCheck_23922
    refine zp2_ubu (P := fun x => x = r) (zpc_if (fun _ => zpc_if (fun _ => zpc_if (fun _ => zpc_some rfl) (fun z => absurd (by decide) z)) (fun z => absurd (by decide) z)) (fun z => absurd (by decide) z)) (fun r1 e1 => ?_)
    subst e1
    refine zp2_bul (c_fill8 (σ := σ) (o := r1) zfuel 0 r1 (by decide) w1 rfl rfl (fun j hj => absurd hj (by omega)) (fun _ _ => rfl)) (fun r2 q => ?_)
    obtain ⟨u1, u2, u3, u4⟩ := q
    refine t_d144 h hL u1 hd4 (st4 r2 u3) (pp4 r2 u2) (fun j hj => ?_)
    by_cases z : j < 8
    · refine ⟨b, hb2, Or.inl hm, ?_, ?_⟩
      · rw [b22 j hj, if_pos ⟨z, p⟩, hb]
      · rw [u4 j hj, if_pos z, hb]
        exact v_31 ⟨b, hb2⟩
    · obtain ⟨v, v1, v2, v3⟩ := dots j hj
      refine ⟨v, v1, Or.inl hm, ?_, ?_⟩
      · rw [b22 j hj, if_neg (fun y => z y.1), a22 j hj]
        exact v2
      · rw [u4 j hj, if_neg z]
        exact v3
end ZT8
end ZJN4
section ZJN5
/-! THE PAINTER, 9: OLD MODES -/
/-- a dot: bits, pair of colours, place -/
def gDo (b p x : Int32) : Int32 := if (b >>> ((7 - x) &&& 31)) &&& 1 = 0 then p &&& 15 else p >>> ((4 : Int32) &&& 31)
theorem v_p4 : ∀ c : Fin 256, 0 ≤ (Int32.ofNat c.val >>> ((4 : Int32) &&& 31)).toInt ∧ (Int32.ofNat c.val >>> ((4 : Int32) &&& 31)).toInt ≤ 15 := by decide +kernel
theorem gDo_r {b p x : Int32} (hp : zr 0 255 p) : zr 0 15 (gDo b p x) := by
  unfold gDo
  by_cases q : (b >>> ((7 - x) &&& 31)) &&& 1 = 0
  · rw [if_pos q]; exact z_r15m _
  · rw [if_neg q]
    obtain ⟨c, e⟩ := z_byteF hp
    rw [e]
    exact v_p4 c
section ZT9
variable {σ μ s t : zSt}
/-- eight dots -/
theorem c_pat {b p : Int32} {c : Nat} {o : zSt} (hc : c < 32) : ∀ (n i : Nat) (s : zSt), i ≤ 8 → zdC σ s → s.1 25 = o.1 25 → s.1 23 = o.1 23 → (∀ j : Nat, 8 * c ≤ j → j < 8 * c + i → s.1 27 j = gDo b p (Int32.ofNat (j % 8))) → (∀ j : Nat, (j < 8 * c ∨ 8 * c + i ≤ j) → s.1 27 j = o.1 27 j) → zpc (fX3_drawPattern_3 n s (8 * Int32.ofNat c) b p (Int32.ofNat i)) (fun r => zdC σ r ∧ r.1 25 = o.1 25 ∧ r.1 23 = o.1 23 ∧ (∀ j : Nat, 8 * c ≤ j → j < 8 * c + 8 → r.1 27 j = gDo b p (Int32.ofNat (j % 8))) ∧ ∀ j : Nat, (j < 8 * c ∨ 8 * c + 8 ≤ j) → r.1 27 j = o.1 27 j) := by
  intro n
  induction n with
  | zero => intro i s _ _ _ _ _ _; exact zpc_none
  | succ n ih =>
    intro i s hi hd e25 e23 hin hout
    show zpc (fX3_drawPattern_3_body (fX3_drawPattern_3 n) s (8 * Int32.ofNat c) b p (Int32.ofNat i)) _
    unfold fX3_drawPattern_3_body fX3_drawPattern_57
    refine zpc_if (fun q => zpc_some ?_) (fun q => ?_)
    · have := (z_ofL (k := 8) (by omega) rfl).mp q
      exact ⟨hd, e25, e23, fun j h1 h2 => hin j h1 (by omega), fun j h1 => hout j (by omega)⟩
    have hi2 : i < 8 := by
      have : ¬ 8 ≤ i := fun z => q ((z_ofL (c := 8) (k := 8) (i := i) (by omega) rfl).mpr z)
      omega
    have r8 : zr 0 248 (8 * Int32.ofNat c) := zr_mul (zr_c (lo := 8) (hi := 8) (x := 8) (by decide)) (z_ofr (b := 31) (by omega) (by omega)) (by decide)
    have t8 : (8 * Int32.ofNat c).toInt = 8 * (Int32.ofNat c).toInt := z_tmul (zr_c (lo := 8) (hi := 8) (x := 8) (by decide)) (z_ofr (b := 31) (by omega) (by omega)) (by decide)
    rw [z_ofI (by omega)] at t8
    have ri : zr 0 7 (Int32.ofNat i) := z_ofr (by omega) (by omega)
    have ta : (8 * Int32.ofNat c + Int32.ofNat i).toInt = (8 * Int32.ofNat c).toInt + (Int32.ofNat i).toInt := z_tadd r8 ri (by decide)
    rw [t8, z_ofI (by omega)] at ta
    have ka := z_clamp (x := 8 * Int32.ofNat c + Int32.ofNat i) (by omega)
    have ia : (8 * Int32.ofNat c + Int32.ofNat i).toNatClampNeg = 8 * c + i := by omega
    have nl : ¬ 256 ≤ 8 * Int32.ofNat c + Int32.ofNat i := fun z => by
      have := Int32.le_iff_toInt_le.mp z
      rw [show (256 : Int32).toInt = 256 from rfl] at this
      omega
    have nx : ∀ v, v = gDo b p (Int32.ofNat i) → zpc (fX3_drawPattern_50 (fX3_drawPattern_3 n) s (8 * Int32.ofNat c) b p (Int32.ofNat i) v (8 * Int32.ofNat c + Int32.ofNat i)) (fun r => zdC σ r ∧ r.1 25 = o.1 25 ∧ r.1 23 = o.1 23 ∧ (∀ j : Nat, 8 * c ≤ j → j < 8 * c + 8 → r.1 27 j = gDo b p (Int32.ofNat (j % 8))) ∧ ∀ j : Nat, (j < 8 * c ∨ 8 * c + 8 ≤ j) → r.1 27 j = o.1 27 j) := fun v ev => by
      unfold fX3_drawPattern_50
      rw [ia, z_ofS (by omega)]
      refine zpc_ck (zpc_bv (fun s1 g1 => zpc_bv (fun x ex => ?_)))
      subst ex
      refine ih (i + 1) s1 (by omega) (by rw [g1]; exact zQ.wi hd rfl) (by rw [g1, zsi_ne (by decide)]; exact e25) (by rw [g1, zsi_ne (by decide)]; exact e23) (fun j h1 h2 => ?_) (fun j h1 => by rw [g1, zsi_nj (by omega)]; exact hout j (by omega))
      by_cases z : j = 8 * c + i
      · rw [z, g1, zsi_ej, ev, show (8 * c + i) % 8 = i by omega]
      · rw [g1, zsi_nj z]; exact hin j h1 (by omega)
    refine zpc_if (fun z => absurd z nl) (fun _ => zpc_if (fun z => nx _ ?_) (fun z => nx _ ?_))
    · unfold gDo; rw [if_pos z]
    · unfold gDo; rw [if_neg z]
/-! what bits and which pair -/
def oNa (σ : zSt) : Int32 := 1024 * (σ.1 23 2 &&& 15)
def oPg (σ : zSt) : Int32 := 2048 * (σ.1 23 4 &&& 7)
def oTi (σ : zSt) (L c : Int32) : Int32 := vb σ ((oNa σ + (32 * (L >>> ((3 : Int32) &&& 31)))) + c)
def oT2 (σ : zSt) (L c : Int32) : Int32 := oTi σ L c + (256 * (L >>> ((6 : Int32) &&& 31)))
def oBt (σ : zSt) (m L c : Int32) : Int32 := if m = 0 then vb σ ((oPg σ + (8 * oTi σ L c)) + (L &&& 7)) else if m = 2 then vb σ (((8192 * ((σ.1 23 4 >>> ((2 : Int32) &&& 31)) &&& 1)) + (8 * (oT2 σ L c &&& ((256 * (σ.1 23 4 &&& 3)) + 255)))) + (L &&& 7)) else 240
def oPr (σ : zSt) (m L c : Int32) : Int32 := if m = 0 then vb σ ((64 * σ.1 23 3) + (oTi σ L c >>> ((3 : Int32) &&& 31))) else if m = 2 then vb σ (((8192 * (σ.1 23 3 >>> ((7 : Int32) &&& 31))) + (8 * (oT2 σ L c &&& ((8 * (σ.1 23 3 &&& 127)) + 7)))) + (L &&& 7)) else vb σ (((oPg σ + (8 * oTi σ L c)) + (2 * ((L >>> ((3 : Int32) &&& 31)) &&& 3))) + ((L >>> ((2 : Int32) &&& 31)) &&& 1))
theorem c_drawPat {b p : Int32} {c : Nat} (hc : c < 32) (hd : zdC σ s) : zpc (fX3_drawPattern s (8 * Int32.ofNat c) b p) (fun r => zdC σ r ∧ r.1 25 = s.1 25 ∧ r.1 23 = s.1 23 ∧ (∀ j : Nat, 8 * c ≤ j → j < 8 * c + 8 → r.1 27 j = gDo b p (Int32.ofNat (j % 8))) ∧ ∀ j : Nat, (j < 8 * c ∨ 8 * c + 8 ≤ j) → r.1 27 j = s.1 27 j) := by
  unfold fX3_drawPattern
  exact c_pat hc zfuel 0 s (by decide) hd rfl rfl (fun j h1 h2 => by omega) (fun _ _ => rfl)
/-- the class's columns -/
theorem c_31 {m L : Int32} {o : zSt} : ∀ (n i : Nat) (s : zSt), i ≤ 32 → zdC σ s → s.1 25 = o.1 25 → s.1 23 = o.1 23 → (∀ j : Nat, j < 8 * i → s.1 27 j = gDo (oBt σ m L (Int32.ofNat (j / 8))) (oPr σ m L (Int32.ofNat (j / 8))) (Int32.ofNat (j % 8))) → zpc (fX3_drawOld_31 n s m L (oNa σ) (Int32.ofNat i)) (fun r => zdC σ r ∧ r.1 25 = o.1 25 ∧ r.1 23 = o.1 23 ∧ ∀ j : Nat, j < 256 → r.1 27 j = gDo (oBt σ m L (Int32.ofNat (j / 8))) (oPr σ m L (Int32.ofNat (j / 8))) (Int32.ofNat (j % 8))) := by
  intro n
  induction n with
  | zero => intro i s _ _ _ _ _; exact zpc_none
  | succ n ih =>
    intro i s hi hd e25 e23 hin
    show zpc (fX3_drawOld_31_body (fX3_drawOld_31 n) s m L (oNa σ) (Int32.ofNat i)) _
    unfold fX3_drawOld_31_body
    refine zpc_if (fun q => zpc_some ?_) (fun q => ?_)
    · have := (z_ofL (k := 32) (by omega) rfl).mp q
      exact ⟨hd, e25, e23, fun j hj => hin j (by omega)⟩
    have hi2 : i < 32 := by
      have : ¬ 32 ≤ i := fun z => q ((z_ofL (c := 32) (k := 32) (i := i) (by omega) rfl).mpr z)
      omega
    have v := hd.v
    have g3 : s.1 23 (3 : Int32).toNatClampNeg = σ.1 23 3 := hd.r (j := 3) (by decide)
    have g4 : s.1 23 (4 : Int32).toNatClampNeg = σ.1 23 4 := hd.r (j := 4) (by decide)
    have nx : ∀ s1 : zSt, zdC σ s1 ∧ s1.1 25 = s.1 25 ∧ s1.1 23 = s.1 23 ∧ (∀ j : Nat, 8 * i ≤ j → j < 8 * i + 8 → s1.1 27 j = gDo (oBt σ m L (Int32.ofNat i)) (oPr σ m L (Int32.ofNat i)) (Int32.ofNat (j % 8))) ∧ (∀ j : Nat, (j < 8 * i ∨ 8 * i + 8 ≤ j) → s1.1 27 j = s.1 27 j) → zpc (fX3_drawOld_165 (fX3_drawOld_31 n) s1 m L (oNa σ) (Int32.ofNat i)) (fun r => zdC σ r ∧ r.1 25 = o.1 25 ∧ r.1 23 = o.1 23 ∧ ∀ j : Nat, j < 256 → r.1 27 j = gDo (oBt σ m L (Int32.ofNat (j / 8))) (oPr σ m L (Int32.ofNat (j / 8))) (Int32.ofNat (j % 8))) := fun s1 q => by
      obtain ⟨q1, q2, q3, q4, q5⟩ := q
      unfold fX3_drawOld_165
      rw [z_ofS (by omega)]
      refine zpc_bv (fun x ex => ?_)
      subst ex
      refine ih (i + 1) s1 (by omega) q1 (q2.trans e25) (q3.trans e23) (fun j hj => ?_)
      by_cases z : j < 8 * i
      · rw [q5 j (Or.inl z)]; exact hin j z
      · have ej : j / 8 = i := by omega
        rw [ej]
        exact q4 j (by omega) (by omega)
    refine zpc_bi p_vb (fun s1 w1 e1 => ?_)
    cases e1
    rw [vb_of v]
    have eT : vb σ ((oNa σ + (32 * (L >>> ((3 : Int32) &&& 31)))) + Int32.ofNat i) = oTi σ L (Int32.ofNat i) := rfl
    rw [eT]
    refine zpc_if (fun m0 => ?_) (fun m0 => zpc_if (fun m2 => ?_) (fun m2 => ?_))
    · -- mode 0
      unfold fX3_patternAt
      refine zpc_bi (P := fun r => r = (s, oBt σ m L (Int32.ofNat i))) ?_ (fun s1 w1 e1 => ?_)
      · refine zpc_bi (p_held (x := 4) (zr_c (by decide))) (fun s1 w1 e1 => ?_)
        cases e1
        refine zpc_bi p_vb (fun s1 w1 e1 => zpc_some ?_)
        cases e1
        rw [g4, vb_of v]
        unfold oBt
        rw [if_pos m0]
        rfl
      cases e1
      refine zpc_bi (p_held (x := 3) (zr_c (by decide))) (fun s1 w1 e1 => ?_)
      cases e1
      refine zpc_bi p_vb (fun s1 w1 e1 => ?_)
      cases e1
      rw [g3, vb_of v, show vb σ ((64 * σ.1 23 3) + (oTi σ L (Int32.ofNat i) >>> ((3 : Int32) &&& 31))) = oPr σ m L (Int32.ofNat i) by unfold oPr; rw [if_pos m0]]
      exact zpc_bu (c_drawPat hi2 hd) (fun s1 q => nx s1 q)
    · -- mode 2
      unfold fX3_drawThird
      refine zpc_bu (P := fun s1 => zdC σ s1 ∧ s1.1 25 = s.1 25 ∧ s1.1 23 = s.1 23 ∧ (∀ j : Nat, 8 * i ≤ j → j < 8 * i + 8 → s1.1 27 j = gDo (oBt σ m L (Int32.ofNat i)) (oPr σ m L (Int32.ofNat i)) (Int32.ofNat (j % 8))) ∧ (∀ j : Nat, (j < 8 * i ∨ 8 * i + 8 ≤ j) → s1.1 27 j = s.1 27 j)) ?_ (fun s1 q => nx s1 q)
      refine zpc_bi (p_held (x := 3) (zr_c (by decide))) (fun s1 w1 e1 => ?_)
      cases e1
      refine zpc_bi (p_held (x := 4) (zr_c (by decide))) (fun s1 w1 e1 => ?_)
      cases e1
      rw [g3, g4]
      refine zpc_bv (fun v5 e5 => zpc_bv (fun v6 e6 => zpc_bi p_vb (fun s1 w1 e1 => ?_)))
      cases e1
      refine zpc_bi p_vb (fun s1 w1 e1 => ?_)
      cases e1
      rw [vb_of v, vb_of v, e5, e6]
      have eB : vb σ (((8192 * ((σ.1 23 4 >>> ((2 : Int32) &&& 31)) &&& 1)) + (8 * ((oTi σ L (Int32.ofNat i) + (256 * (L >>> ((6 : Int32) &&& 31)))) &&& ((256 * (σ.1 23 4 &&& 3)) + 255)))) + (L &&& 7)) = oBt σ m L (Int32.ofNat i) := by
        unfold oBt
        rw [if_neg m0, if_pos m2]
        rfl
      have eP : vb σ (((8192 * (σ.1 23 3 >>> ((7 : Int32) &&& 31))) + (8 * ((oTi σ L (Int32.ofNat i) + (256 * (L >>> ((6 : Int32) &&& 31)))) &&& ((8 * (σ.1 23 3 &&& 127)) + 7)))) + (L &&& 7)) = oPr σ m L (Int32.ofNat i) := by
        unfold oPr
        rw [if_neg m0, if_pos m2]
        rfl
      rw [eB, eP]
      exact zpc_bu (c_drawPat hi2 hd) (fun s1 q => zpc_some q)
    · -- mode 3
      unfold fX3_drawBlocks
      refine zpc_bu (P := fun s1 => zdC σ s1 ∧ s1.1 25 = s.1 25 ∧ s1.1 23 = s.1 23 ∧ (∀ j : Nat, 8 * i ≤ j → j < 8 * i + 8 → s1.1 27 j = gDo (oBt σ m L (Int32.ofNat i)) (oPr σ m L (Int32.ofNat i)) (Int32.ofNat (j % 8))) ∧ (∀ j : Nat, (j < 8 * i ∨ 8 * i + 8 ≤ j) → s1.1 27 j = s.1 27 j)) ?_ (fun s1 q => nx s1 q)
      refine zpc_bi (p_held (x := 4) (zr_c (by decide))) (fun s1 w1 e1 => ?_)
      cases e1
      rw [g4]
      refine zpc_bv (fun v3 e3 => zpc_bi p_vb (fun s1 w1 e1 => ?_))
      cases e1
      rw [vb_of v, e3]
      have eP : vb σ ((((2048 * (σ.1 23 4 &&& 7)) + (8 * oTi σ L (Int32.ofNat i))) + (2 * ((L >>> ((3 : Int32) &&& 31)) &&& 3))) + ((L >>> ((2 : Int32) &&& 31)) &&& 1)) = oPr σ m L (Int32.ofNat i) := by
        unfold oPr
        rw [if_neg m0, if_neg m2]
        rfl
      have eB : (240 : Int32) = oBt σ m L (Int32.ofNat i) := by
        unfold oBt
        rw [if_neg m0, if_neg m2]
      rw [eP, eB]
      exact zpc_bu (c_drawPat hi2 hd) (fun s1 q => zpc_some q)
/-! text -/
def oTx (σ : zSt) (L c : Int32) : Int32 := vb σ ((oPg σ + (8 * vb σ ((oNa σ + (40 * (L >>> ((3 : Int32) &&& 31)))) + c))) + (L &&& 7))
def oTd (σ : zSt) (L : Int32) (j : Nat) : Int32 := if 8 ≤ j ∧ j < 248 then gDo (oTx σ L (Int32.ofNat ((j - 8) / 6))) (σ.1 23 7) (Int32.ofNat ((j - 8) % 6)) else 0
theorem c_56 {L ink bi : Int32} {k21 : zSt → Int32 → Int32 → Int32 → Int32 → Option zSt} {nm : Int32} {c : Nat} {o : zSt} {Q : zSt → Prop} (hc : c < 40) (K : ∀ s : zSt, zdC σ s → s.1 25 = o.1 25 → s.1 23 = o.1 23 → (∀ j : Nat, 8 + 6 * c ≤ j → j < 8 + 6 * c + 6 → s.1 27 j = gDo bi ink (Int32.ofNat ((j - 8) % 6))) → (∀ j : Nat, (j < 8 + 6 * c ∨ 8 + 6 * c + 6 ≤ j) → s.1 27 j = o.1 27 j) → zpc (k21 s nm L ink (Int32.ofNat (c + 1))) Q) : ∀ (n i : Nat) (s : zSt), i ≤ 6 → zdC σ s → s.1 25 = o.1 25 → s.1 23 = o.1 23 → (∀ j : Nat, 8 + 6 * c ≤ j → j < 8 + 6 * c + i → s.1 27 j = gDo bi ink (Int32.ofNat ((j - 8) % 6))) → (∀ j : Nat, (j < 8 + 6 * c ∨ 8 + 6 * c + i ≤ j) → s.1 27 j = o.1 27 j) → zpc (fX3_drawText_56 k21 n s nm L ink (Int32.ofNat c) bi (Int32.ofNat i)) Q := by
  intro n
  induction n with
  | zero => intro i s _ _ _ _ _ _; exact zpc_none
  | succ n ih =>
    intro i s hi hd e25 e23 hin hout
    show zpc (fX3_drawText_56_body k21 (fX3_drawText_56 k21 n) s nm L ink (Int32.ofNat c) bi (Int32.ofNat i)) Q
    unfold fX3_drawText_56_body
    refine zpc_if (fun q => zpc_bv (fun x ex => ?_)) (fun q => ?_)
    · have := (z_ofL (k := 6) (by omega) rfl).mp q
      rw [ex, z_ofS (by omega)]
      exact K s hd e25 e23 (fun j h1 h2 => hin j h1 (by omega)) (fun j h1 => hout j (by omega))
    have hi2 : i < 6 := by
      have : ¬ 6 ≤ i := fun z => q ((z_ofL (c := 6) (k := 6) (i := i) (by omega) rfl).mpr z)
      omega
    have rc : zr 0 39 (Int32.ofNat c) := z_ofr (by omega) (by omega)
    have r6 : zr 0 234 (6 * Int32.ofNat c) := zr_mul (zr_c (lo := 6) (hi := 6) (x := 6) (by decide)) rc (by decide)
    have t6 : (6 * Int32.ofNat c).toInt = 6 * (Int32.ofNat c).toInt := z_tmul (zr_c (lo := 6) (hi := 6) (x := 6) (by decide)) rc (by decide)
    rw [z_ofI (by omega)] at t6
    have r8 : zr 8 242 (8 + 6 * Int32.ofNat c) := zr_add (zr_c (lo := 8) (hi := 8) (x := 8) (by decide)) r6 (by decide)
    have t8 := z_tadd (x := 8) (y := 6 * Int32.ofNat c) (zr_c (lo := 8) (hi := 8) (by decide)) r6 (by decide)
    rw [t6, show (8 : Int32).toInt = 8 from rfl] at t8
    have ta := z_tadd r8 (z_ofr (i := i) (b := 5) (by omega) (by omega)) (by decide)
    rw [t8, z_ofI (by omega)] at ta
    have ka := z_clamp (x := 8 + 6 * Int32.ofNat c + Int32.ofNat i) (by omega)
    have ia : (8 + 6 * Int32.ofNat c + Int32.ofNat i).toNatClampNeg = 8 + 6 * c + i := by omega
    have nx : ∀ v, v = gDo bi ink (Int32.ofNat i) → zpc (fX3_drawText_101 k21 (fX3_drawText_56 k21 n) s nm L ink (Int32.ofNat c) bi (Int32.ofNat i) v (8 + 6 * Int32.ofNat c + Int32.ofNat i)) Q := fun v ev => by
      unfold fX3_drawText_101
      rw [ia, z_ofS (by omega)]
      refine zpc_ck (zpc_bv (fun s1 g1 => zpc_bv (fun x ex => ?_)))
      subst ex
      refine ih (i + 1) s1 (by omega) (by rw [g1]; exact zQ.wi hd rfl) (by rw [g1, zsi_ne (by decide)]; exact e25) (by rw [g1, zsi_ne (by decide)]; exact e23) (fun j h1 h2 => ?_) (fun j h1 => by rw [g1, zsi_nj (by omega)]; exact hout j (by omega))
      by_cases z : j = 8 + 6 * c + i
      · rw [z, g1, zsi_ej, ev, show (8 + 6 * c + i - 8) % 6 = i by omega]
      · rw [g1, zsi_nj z]; exact hin j h1 (by omega)
    refine zpc_if (fun z => nx _ ?_) (fun z => nx _ ?_)
    · unfold gDo; rw [if_pos z]
    · unfold gDo; rw [if_neg z]
theorem c_21 {L : Int32} {o : zSt} : ∀ (n i : Nat) (s : zSt), i ≤ 40 → zdC σ s → s.1 25 = o.1 25 → s.1 23 = o.1 23 → (∀ j : Nat, j < 8 + 6 * i → s.1 27 j = oTd σ L j) → (∀ j : Nat, 8 + 6 * i ≤ j → j < 256 → s.1 27 j = 0) → zpc (fX3_drawText_21 n s (oNa σ) L (σ.1 23 7) (Int32.ofNat i)) (fun r => zdC σ r ∧ r.1 25 = o.1 25 ∧ r.1 23 = o.1 23 ∧ ∀ j : Nat, j < 256 → r.1 27 j = oTd σ L j) := by
  intro n
  induction n with
  | zero => intro i s _ _ _ _ _ _; exact zpc_none
  | succ n ih =>
    intro i s hi hd e25 e23 hin hout
    show zpc (fX3_drawText_21_body (fX3_drawText_21 n) s (oNa σ) L (σ.1 23 7) (Int32.ofNat i)) _
    unfold fX3_drawText_21_body
    refine zpc_if (fun q => zpc_some ?_) (fun q => ?_)
    · have := (z_ofL (k := 40) (by omega) rfl).mp q
      refine ⟨hd, e25, e23, fun j hj => ?_⟩
      by_cases z : j < 8 + 6 * i
      · exact hin j z
      · rw [hout j (by omega) hj]
        unfold oTd
        rw [if_neg (fun y => by omega)]
    have hi2 : i < 40 := by
      have : ¬ 40 ≤ i := fun z => q ((z_ofL (c := 40) (k := 40) (i := i) (by omega) rfl).mpr z)
      omega
    have v := hd.v
    have g4 : s.1 23 (4 : Int32).toNatClampNeg = σ.1 23 4 := hd.r (j := 4) (by decide)
    refine zpc_bi p_vb (fun s1 w1 e1 => ?_)
    cases e1
    unfold fX3_patternAt
    refine zpc_bi (P := fun r => r = (s, oTx σ L (Int32.ofNat i))) ?_ (fun s1 w1 e1 => ?_)
    · refine zpc_bi (p_held (x := 4) (zr_c (by decide))) (fun s1 w1 e1 => ?_)
      cases e1
      refine zpc_bi p_vb (fun s1 w1 e1 => zpc_some ?_)
      cases e1
      rw [g4, vb_of v, vb_of v]
      rfl
    cases e1
    refine c_56 (σ := σ) (o := s) hi2 (fun s1 q1 q2 q3 q4 q5 => ?_) zfuel 0 s (by decide) hd rfl rfl (fun j h1 h2 => by omega) (fun _ _ => rfl)
    refine ih (i + 1) s1 (by omega) q1 (q2.trans e25) (q3.trans e23) (fun j hj => ?_) (fun j h1 h2 => ?_)
    · by_cases z : j < 8 + 6 * i
      · rw [q5 j (Or.inl z)]; exact hin j z
      · rw [q4 j (by omega) (by omega)]
        unfold oTd
        rw [if_pos ⟨by omega, by omega⟩, show (j - 8) / 6 = i by omega]
    · rw [q5 j (Or.inr (by omega))]
      exact hout j (by omega) h2
end ZT9
end ZJN5
section ZJN6
/-! THE PAINTER, 10: THE REFERENCE'S OLD MODES -/
theorem zmd_c (a b : Int32) : zmd a b = 0 ∨ zmd a b = 1 ∨ zmd a b = 2 ∨ zmd a b = 3 ∨ zmd a b = 4 := by
  unfold zmd
  by_cases q1 : a &&& 4 = 0
  · rw [if_pos q1]
    by_cases q2 : b &&& 16 = 0
    · rw [if_pos q2]
      by_cases q3 : b &&& 8 = 0
      · rw [if_pos q3]
        by_cases q4 : a &&& 2 = 0
        · rw [if_pos q4]; exact Or.inl rfl
        · rw [if_neg q4]; exact Or.inr (Or.inr (Or.inl rfl))
      · rw [if_neg q3]; exact Or.inr (Or.inr (Or.inr (Or.inl rfl)))
    · rw [if_neg q2]; exact Or.inr (Or.inl rfl)
  · rw [if_neg q1]; exact Or.inr (Or.inr (Or.inr (Or.inr rfl)))
theorem z_b01 {x : Int32} : x &&& 1 = 1 ↔ ¬ x &&& 1 = 0 := by
  rw [zbt_m0]
  cases zbt 0 x
  · exact ⟨fun z => absurd z (by decide), fun z => absurd rfl z⟩
  · exact ⟨fun _ => by decide, fun _ => rfl⟩
theorem v_o1 : ∀ c : Fin 256, 1024 * (zrem (Int32.ofNat c.val) 16) = 1024 * (Int32.ofNat c.val &&& 15) ∧ 2048 * (zrem (Int32.ofNat c.val) 8) = 2048 * (Int32.ofNat c.val &&& 7) ∧ zrem (Int32.ofNat c.val) 4 = Int32.ofNat c.val &&& 3 ∧ zrem (Int32.ofNat c.val) 128 = Int32.ofNat c.val &&& 127 ∧ Int32.ofNat c.val / 64 = Int32.ofNat c.val >>> ((6 : Int32) &&& 31) ∧ zrem (Int32.ofNat c.val / 8) 4 = (Int32.ofNat c.val >>> ((3 : Int32) &&& 31)) &&& 3 ∧ zrem (Int32.ofNat c.val / 4) 2 = (Int32.ofNat c.val >>> ((2 : Int32) &&& 31)) &&& 1 ∧ Int32.ofNat c.val >>> ((7 : Int32) &&& 31) = (if Int32.ofNat c.val &&& 128 = 0 then 0 else 1) := by decide +kernel
theorem z_o1 {x : Int32} (h : zr 0 255 x) : 1024 * (zrem x 16) = 1024 * (x &&& 15) ∧ 2048 * (zrem x 8) = 2048 * (x &&& 7) ∧ zrem x 4 = x &&& 3 ∧ zrem x 128 = x &&& 127 ∧ x / 64 = x >>> ((6 : Int32) &&& 31) ∧ zrem (x / 8) 4 = (x >>> ((3 : Int32) &&& 31)) &&& 3 ∧ zrem (x / 4) 2 = (x >>> ((2 : Int32) &&& 31)) &&& 1 ∧ x >>> ((7 : Int32) &&& 31) = (if x &&& 128 = 0 then 0 else 1) := by
  obtain ⟨c, e⟩ := z_byteF h
  rw [e]
  exact v_o1 c
theorem v_j8 : ∀ j : Fin 256, Int32.ofNat j.val / 8 = Int32.ofNat (j.val / 8) ∧ zrem (Int32.ofNat j.val) 8 = Int32.ofNat (j.val % 8) ∧ (8 ≤ j.val → (Int32.ofNat j.val - 8) / 6 = Int32.ofNat ((j.val - 8) / 6) ∧ zrem (Int32.ofNat j.val - 8) 6 = Int32.ofNat ((j.val - 8) % 6)) := by decide +kernel
theorem v_240 : ∀ x : Fin 8, ((240 : Int32) >>> ((7 - Int32.ofNat x.val) &&& 31)) &&& 1 = 0 ↔ 4 ≤ Int32.ofNat x.val := by decide +kernel
def oDt (σ : zSt) (m L : Int32) (j : Nat) : Int32 := if m = 1 then oTd σ L j else gDo (oBt σ m L (Int32.ofNat (j / 8))) (oPr σ m L (Int32.ofNat (j / 8))) (Int32.ofNat (j % 8))
section ZTA
variable {σ μ s t : zSt}
theorem oPr_r (h : zVe σ μ) {m L c : Int32} : zr 0 255 (oPr σ m L c) := by
  unfold oPr
  by_cases q : m = 0
  · rw [if_pos q]; exact vb_r h.1 _
  · rw [if_neg q]
    by_cases p : m = 2
    · rw [if_pos p]; exact vb_r h.1 _
    · rw [if_neg p]; exact vb_r h.1 _
theorem oDt_r (h : zVe σ μ) {m L : Int32} {j : Nat} : zr 0 15 (oDt σ m L j) := by
  unfold oDt
  by_cases q : m = 1
  · rw [if_pos q]
    unfold oTd
    by_cases p : 8 ≤ j ∧ j < 248
    · rw [if_pos p]; exact gDo_r (h.rj (j := 7) (by decide))
    · rw [if_neg p]; exact zr_c (by decide)
  · rw [if_neg q]; exact gDo_r (oPr_r h)
theorem m_old (h : zVe σ μ) (hd : zdM μ t) {L : Int32} (hL : zr 0 239 L) {j : Nat} (hj : j < 256) (hm4 : ¬ zmd (σ.1 23 0) (σ.1 23 1) = 4) : zpc (fX12_old t L (Int32.ofNat j)) (fun r => r = (t, oDt σ (zmd (σ.1 23 0) (σ.1 23 1)) L j)) := by
  have f0 : t.1 3 47 = σ.1 23 0 := h.ej hd (j := 0) (by decide)
  have f1 : t.1 3 48 = σ.1 23 1 := h.ej hd (j := 1) (by decide)
  have f2 : t.1 3 (47 + (2 : Int32)).toNatClampNeg = σ.1 23 2 := h.ej hd (j := 2) (by decide)
  have f3 : t.1 3 (47 + (3 : Int32)).toNatClampNeg = σ.1 23 3 := h.ej hd (j := 3) (by decide)
  have f4 : t.1 3 (47 + (4 : Int32)).toNatClampNeg = σ.1 23 4 := h.ej hd (j := 4) (by decide)
  have f7 : t.1 3 (47 + (7 : Int32)).toNatClampNeg = σ.1 23 7 := h.ej hd (j := 7) (by decide)
  have r2 := h.rj (j := 2) (by decide)
  have r3 := h.rj (j := 3) (by decide)
  have r4 := h.rj (j := 4) (by decide)
  have b42 := p_bit_4_2 (μ := t) (by rw [show t.1 3 51 = σ.1 23 4 from f4]; exact r4)
  have b37 := p_bit_3_7 (μ := t) (by rw [show t.1 3 50 = σ.1 23 3 from f3]; exact r3)
  rw [show t.1 3 51 = σ.1 23 4 from f4] at b42
  rw [show t.1 3 50 = σ.1 23 3 from f3] at b37
  have pm := p_modeM (μ := t) (by rw [f0]; exact h.r0) (by rw [f1]; exact h.r1)
  rw [f0, f1] at pm
  obtain ⟨M, eM⟩ : ∃ M, M = zmd (σ.1 23 0) (σ.1 23 1) := ⟨_, rfl⟩
  have mc := zmd_c (σ.1 23 0) (σ.1 23 1)
  rw [← eM] at mc hm4 pm
  rw [← eM]
  have hL8 : zr 0 255 L := zr_w hL (by decide)
  obtain ⟨l8, l7⟩ := z_d8 hL8
  obtain ⟨_, _, _, _, l64, l84, l42, _⟩ := z_o1 hL8
  obtain ⟨j8, jm, j6⟩ := v_j8 ⟨j, hj⟩
  have j8 : Int32.ofNat j / 8 = Int32.ofNat (j / 8) := j8
  have jm : zrem (Int32.ofNat j) 8 = Int32.ofNat (j % 8) := jm
  unfold fX12_old
  refine zpc_bi p_reg (fun t1 w e => zpc_ck (zpc_bv (fun v3 e3 => ?_)))
  cases e
  rw [f2, (z_o1 r2).1] at e3
  refine zpc_bi p_reg (fun t1 w e => zpc_ck (zpc_bv (fun v6 e6 => ?_)))
  cases e
  rw [f4, (z_o1 r4).2.1] at e6
  have e3 : v3 = oNa σ := e3
  have e6 : v6 = oPg σ := e6
  subst e3
  subst e6
  refine zpc_bi pm (fun t1 w e => ?_)
  cases e
  refine zpc_if (fun m1 => ?_) (fun m1 => ?_)
  · -- text
    have done : ¬ (8 ≤ j ∧ j < 248) → zpc (fX12_old_48 t) (fun r => r = (t, oDt σ M L j)) := fun n => by
      unfold fX12_old_48
      refine zpc_some ?_
      unfold oDt oTd
      rw [if_pos m1, if_neg n]
    have c8 : Int32.ofNat j < 8 ↔ j < 8 := by
      rw [Int32.lt_iff_toInt_lt, z_ofI (by omega), show (8 : Int32).toInt = 8 from rfl]
      omega
    have c247 : Int32.ofNat j ≤ 247 ↔ j < 248 := by
      rw [Int32.le_iff_toInt_le, z_ofI (by omega), show (247 : Int32).toInt = 247 from rfl]
      omega
    refine zpc_if (fun q => done (fun z => by have := c8.mp q; omega)) (fun q => zpc_if (fun p => ?_) (fun p => done (fun z => p (c247.mpr z.2))))
    have j1 : 8 ≤ j := by
      have : ¬ j < 8 := fun z => q (c8.mpr z)
      omega
    have j2 := c247.mp p
    obtain ⟨a6, b6⟩ := j6 j1
    have a6 : (Int32.ofNat j - 8) / 6 = Int32.ofNat ((j - 8) / 6) := a6
    have b6 : zrem (Int32.ofNat j - 8) 6 = Int32.ofNat ((j - 8) % 6) := b6
    rw [l8, a6, l7, b6]
    refine zpc_ck (zpc_ck (zpc_bi (p_v8 h.1 hd.v) (fun t1 w e => zpc_ck ?_)))
    cases e
    refine zpc_bi (p_v8 h.1 hd.v) (fun t1 w e => zpc_ck (zpc_bv (fun v42 e42 => ?_)))
    cases e
    have eX : vb σ ((oPg σ + (8 * vb σ ((oNa σ + (40 * (L >>> ((3 : Int32) &&& 31)))) + Int32.ofNat ((j - 8) / 6)))) + (L &&& 7)) = oTx σ L (Int32.ofNat ((j - 8) / 6)) := rfl
    rw [eX] at e42
    have eR : oDt σ M L j = gDo (oTx σ L (Int32.ofNat ((j - 8) / 6))) (σ.1 23 7) (Int32.ofNat ((j - 8) % 6)) := by
      unfold oDt oTd
      rw [if_pos m1, if_pos ⟨j1, j2⟩]
    rw [eR]
    unfold gDo fX12_old_131
    refine zpc_if (fun z => ?_) (fun z => ?_)
    · rw [e42] at z
      refine zpc_bi p_reg (fun t1 w e => zpc_some ?_)
      cases e
      rw [f7, if_neg (z_b01.mp z)]
    · rw [e42] at z
      refine zpc_bi p_reg (fun t1 w e => zpc_some ?_)
      cases e
      rw [f7, if_pos (Decidable.byContradiction (fun y => z (z_b01.mpr y)))]
  · have eR : oDt σ M L j = gDo (oBt σ M L (Int32.ofNat (j / 8))) (oPr σ M L (Int32.ofNat (j / 8))) (Int32.ofNat (j % 8)) := by
      unfold oDt
      rw [if_neg m1]
    rw [eR, l8, j8]
    refine zpc_ck (zpc_ck (zpc_bi (p_v8 h.1 hd.v) (fun t1 w e => ?_)))
    cases e
    have eT : vb σ ((oNa σ + (32 * (L >>> ((3 : Int32) &&& 31)))) + Int32.ofNat (j / 8)) = oTi σ L (Int32.ofNat (j / 8)) := rfl
    rw [eT]
    have rT : zr 0 255 (oTi σ L (Int32.ofNat (j / 8))) := vb_r h.1 _
    refine zpc_bi pm (fun t1 w e => ?_)
    cases e
    have l367 : ∀ b p : Int32, b = oBt σ M L (Int32.ofNat (j / 8)) → p = oPr σ M L (Int32.ofNat (j / 8)) → zpc (fX12_old_367 t (Int32.ofNat j) b p) (fun r => r = (t, gDo (oBt σ M L (Int32.ofNat (j / 8))) (oPr σ M L (Int32.ofNat (j / 8))) (Int32.ofNat (j % 8)))) := fun b p eb ep => by
      unfold fX12_old_367 fX12_old_395 gDo
      rw [jm, eb, ep]
      refine zpc_ck (zpc_if (fun z => zpc_some ?_) (fun z => zpc_some ?_))
      · rw [if_neg (z_b01.mp z)]
      · rw [if_pos (Decidable.byContradiction (fun y => z (z_b01.mpr y)))]
    refine zpc_if (fun m3 => ?_) (fun m3 => ?_)
    · -- blocks
      have n0 : ¬ M = 0 := fun z => by rw [z] at m3; exact absurd m3 (by decide)
      have n2 : ¬ M = 2 := fun z => by rw [z] at m3; exact absurd m3 (by decide)
      have k84 : zrem (L >>> ((3 : Int32) &&& 31)) 4 = (L >>> ((3 : Int32) &&& 31)) &&& 3 := by
        have z := l84
        rw [l8] at z
        exact z
      rw [k84, l42, jm]
      refine zpc_ck (zpc_ck (zpc_ck (zpc_ck (zpc_bi (p_v8 h.1 hd.v) (fun t1 w e => zpc_ck ?_)))))
      cases e
      have eP : vb σ (((oPg σ + (8 * oTi σ L (Int32.ofNat (j / 8)))) + (2 * ((L >>> ((3 : Int32) &&& 31)) &&& 3))) + ((L >>> ((2 : Int32) &&& 31)) &&& 1)) = oPr σ M L (Int32.ofNat (j / 8)) := by
        unfold oPr
        rw [if_neg n0, if_neg n2]
      have eB : oBt σ M L (Int32.ofNat (j / 8)) = 240 := by
        unfold oBt
        rw [if_neg n0, if_neg n2]
      rw [eP, eB]
      have q240 := v_240 ⟨j % 8, by omega⟩
      have q240 : ((240 : Int32) >>> ((7 - Int32.ofNat (j % 8)) &&& 31)) &&& 1 = 0 ↔ 4 ≤ Int32.ofNat (j % 8) := q240
      unfold gDo fX12_old_209
      refine zpc_if (fun z => zpc_some ?_) (fun z => zpc_some ?_)
      · rw [if_pos (q240.mpr z)]
      · rw [if_neg (fun y => z (q240.mp y))]
    · refine zpc_bi pm (fun t1 w e => ?_)
      cases e
      refine zpc_if (fun m0 => ?_) (fun m0 => ?_)
      · -- mode 0
        rw [l7]
        refine zpc_ck (zpc_bi (p_v8 h.1 hd.v) (fun t1 w e => ?_))
        cases e
        refine zpc_bi p_reg (fun t1 w e => zpc_ck ?_)
        cases e
        rw [f3, (z_d8 rT).1]
        refine zpc_bi (p_v8 h.1 hd.v) (fun t1 w e => ?_)
        cases e
        refine l367 _ _ ?_ ?_
        · unfold oBt; rw [if_pos m0]
        · unfold oPr; rw [if_pos m0]
      · have m2 : M = 2 := by
          rcases mc with z | z | z | z | z
          · exact absurd z m0
          · exact absurd z m1
          · exact z
          · exact absurd z m3
          · exact absurd z hm4
        rw [l64, l7]
        refine zpc_ck (zpc_bv (fun v15 e15 => ?_))
        have e15 : v15 = oT2 σ L (Int32.ofNat (j / 8)) := e15
        subst e15
        refine zpc_bi p_reg (fun t1 w e => zpc_ck (zpc_bv (fun v18 e18 => ?_)))
        cases e
        rw [f4, (z_o1 r4).2.2.1] at e18
        refine zpc_bi p_reg (fun t1 w e => zpc_ck (zpc_bv (fun v21 e21 => ?_)))
        cases e
        rw [f3, (z_o1 r3).2.2.2.1] at e21
        refine zpc_bi b42 (fun t1 w e => zpc_ck ?_)
        cases e
        refine zpc_bi (p_v8 h.1 hd.v) (fun t1 w e => ?_)
        cases e
        refine zpc_bi b37 (fun t1 w e => zpc_ck ?_)
        cases e
        refine zpc_bi (p_v8 h.1 hd.v) (fun t1 w e => ?_)
        cases e
        refine l367 _ _ ?_ ?_
        · unfold oBt
          rw [if_neg m0, if_pos m2, z_b2 r4, e18]
        · unfold oPr
          rw [if_neg m0, if_pos m2, (z_o1 r3).2.2.2.2.2.2.2, e21]
/-- the reference: a line of an old mode -/
theorem m_213 (h : zVe σ μ) {L bk : Int32} (hL : zr 0 239 L) (hm4 : ¬ zmd (σ.1 23 0) (σ.1 23 1) = 4) {o : zSt} {O : Option zSt} {Q : zSt → zSt → Prop} : ∀ (n i : Nat) (t : zSt), i ≤ 256 → zdM μ t → t.1 3 = o.1 3 → t.1 9 = o.1 9 → (∀ j : Nat, j < 256 → t.1 24 j = 0 ∧ t.1 25 j = 0) → (∀ j : Nat, j < i → t.1 22 j = if oDt σ (zmd (σ.1 23 0) (σ.1 23 1)) L j = 0 then bk else oDt σ (zmd (σ.1 23 0) (σ.1 23 1)) L j) → (∀ t : zSt, zdM μ t → t.1 3 = o.1 3 → t.1 9 = o.1 9 → (∀ j : Nat, j < 256 → t.1 24 j = 0 ∧ t.1 25 j = 0) → (∀ j : Nat, j < 256 → t.1 22 j = if oDt σ (zmd (σ.1 23 0) (σ.1 23 1)) L j = 0 then bk else oDt σ (zmd (σ.1 23 0) (σ.1 23 1)) L j) → zp2 O (zbi (fX12_mode t ) (fun σ9 v10 => if v10 = 1 then fX12_draws_264 σ9 L else zbu (fX12_oldSprites σ9 L) (fun σ11 => fX12_draws_264 σ11 L))) Q) → zp2 O (fX12_draws_213 n t L bk (Int32.ofNat i)) Q := by
  intro n
  induction n with
  | zero => intro i t _ _ _ _ _ _ _; exact zp2_nr
  | succ n ih =>
    intro i t hi hd e3 e9 h0 hin k
    show zp2 O (fX12_draws_213_body (fX12_draws_213 n) t L bk (Int32.ofNat i)) Q
    unfold fX12_draws_213_body
    refine zp2_ifr (fun q => ?_) (fun q => ?_)
    · have := (z_ofL (k := 256) (by omega) rfl).mp q
      exact k t hd e3 e9 h0 (fun j hj => hin j (by omega))
    have hi2 : i < 256 := by
      have : ¬ 256 ≤ i := fun z => q ((z_ofL (c := 256) (k := 256) (i := i) (by omega) rfl).mpr z)
      omega
    refine zp2_bir (m_old h hd hL hi2 hm4) (fun t1 v1 e1 => ?_)
    cases e1
    have nx : ∀ v, v = (if oDt σ (zmd (σ.1 23 0) (σ.1 23 1)) L i = 0 then bk else oDt σ (zmd (σ.1 23 0) (σ.1 23 1)) L i) → zp2 O (fX12_draws_244 (fX12_draws_213 n) t L bk (Int32.ofNat i) v (Int32.ofNat i)) Q := fun v ev => by
      unfold fX12_draws_244
      rw [z_ofC (by omega), z_ofS (by omega)]
      refine zp2_ckr (zp2_bvr (fun t1 g1 => zp2_bvr (fun x ex => ?_)))
      subst ex
      refine ih (i + 1) t1 (by omega) (by rw [g1]; exact zQ.wi hd rfl) (by rw [g1, zsi_ne (by decide)]; exact e3) (by rw [g1, zsi_ne (by decide)]; exact e9) (fun j hj => by rw [g1, zsi_ne (by decide), zsi_ne (by decide)]; exact h0 j hj) (fun j hj => ?_) k
      by_cases z : j = i
      · rw [z, g1, zsi_ej, ev]
      · rw [g1, zsi_nj z]; exact hin j (by omega)
    refine zp2_ifr (fun z => nx _ ?_) (fun z => nx _ ?_)
    · rw [if_pos z]
    · rw [if_neg z]
end ZTA
end ZJN6
section ZJN7
/-! THE PAINTER, 11: SPRITES OF THE OLD MODES -/
theorem v_s15 : ∀ i : Fin 16, (((15 - Int32.ofNat i.val) &&& 31).toBitVec.smod 32).toNat = 15 - i.val := by decide +kernel
theorem v_i16 : ∀ i : Fin 16, (Int32.ofNat i.val ≤ 7 ↔ i.val ≤ 7) ∧ zrem (Int32.ofNat i.val) 8 = Int32.ofNat (i.val % 8) := by decide +kernel
/-- two bytes side by side -/
theorem z_two {a b : Int32} (ha : zr 0 255 a) (hb : zr 0 255 b) {i : Nat} (hi : i < 16) : (((a <<< ((8 : Int32) &&& 31)) ||| b) >>> ((15 - Int32.ofNat i) &&& 31)) &&& 1 = if Int32.ofNat i ≤ 7 then (a >>> ((7 - zrem (Int32.ofNat i) 8) &&& 31)) &&& 1 else (b >>> ((7 - zrem (Int32.ofNat i) 8) &&& 31)) &&& 1 := by
  obtain ⟨q1, q2⟩ := v_i16 ⟨i, hi⟩
  have q1 : Int32.ofNat i ≤ 7 ↔ i ≤ 7 := q1
  have q2 : zrem (Int32.ofNat i) 8 = Int32.ofNat (i % 8) := q2
  have s15 : (((15 - Int32.ofNat i) &&& 31).toBitVec.smod 32).toNat = 15 - i := v_s15 ⟨i, hi⟩
  have s7 : (((7 - Int32.ofNat (i % 8)) &&& 31).toBitVec.smod 32).toNat = 7 - i % 8 := v_s7s ⟨i % 8, by omega⟩
  rw [q2, zbt_m0, zbt_m0, zbt_m0, zbt_sar s15 (by omega), zbt_sar s7 (by omega), zbt_sar s7 (by omega), zbt_or, zbt_shl (n := 8) rfl (by omega), Nat.add_zero, Nat.add_zero]
  by_cases z : i ≤ 7
  · rw [if_pos (q1.mpr z), decide_eq_false (by omega), zbt_by hb (i := 15 - i) (by omega) (by omega), show 15 - i - 8 = 7 - i % 8 by omega]
    cases zbt (7 - i % 8) a <;> rfl
  · rw [if_neg (fun y => z (q1.mp y)), decide_eq_true (by omega), show 15 - i = 7 - i % 8 by omega]
    cases zbt (7 - i % 8) b <;> rfl
theorem zp2_uubu {o : Option zSt} {f g : zSt → Option zSt} {C0 : zSt → Option zSt} {p : Option zSt} {Q : zSt → zSt → Prop} {P : zSt → Prop} (h : zpc o P) (k : ∀ s, P s → zp2 (zbu (zbu (f s) g) C0) p Q) : zp2 (zbu (zbu (zbu o f) g) C0) p Q := by
  cases e : o with
  | none => exact zp2_nl
  | some r => exact k r (h r e)
section ZTB
variable {σ μ s t s0 t0 : zSt}
def zOr (s t : zSt) : Prop := ∀ j : Nat, j < 256 → (s.1 28 j = 0 ∧ t.1 25 j = 0 ∧ t.1 24 j = 0) ∨ ∃ c : Fin 16, s.1 28 j = 256 ||| Int32.ofNat c.val ∧ t.1 25 j = 1 ∧ t.1 24 j = Int32.ofNat c.val
def zOi (σ μ s0 t0 s t : zSt) : Prop := zdC σ s ∧ zdM μ t ∧ s.1 27 = s0.1 27 ∧ s.1 25 = s0.1 25 ∧ t.1 22 = t0.1 22 ∧ t.1 9 = t0.1 9 ∧ zOr s t ∧ zStt s t
theorem zOi.st (h : zOi σ μ s0 t0 s t) {v : Int32} (hv : zr 0 255 v) : zOi σ μ s0 t0 (zsi s 23 15 v) (zsi t 3 62 v) := by
  obtain ⟨h1, h2, h3, h4, h5, h7, h8, h9⟩ := h
  refine ⟨zQ.wi h1 rfl, zQ.wi h2 rfl, by rw [zsi_ne (by decide)]; exact h3, by rw [zsi_ne (by decide)]; exact h4, by rw [zsi_ne (by decide)]; exact h5, by rw [zsi_ne (by decide)]; exact h7, fun j hj => by rw [zsi_ne (by decide), zsi_ne (by decide), zsi_ne (by decide)]; exact h8 j hj, ?_, ?_⟩
  · rw [zsi_ej, zsi_ej]
  · rw [zsi_ej]; exact hv
theorem v_256 : ∀ c : Fin 16, (256 ||| Int32.ofNat c.val) &&& 15 = Int32.ofNat c.val ∧ ¬ (256 ||| Int32.ofNat c.val) = 0 ∧ (Int32.ofNat c.val ≤ 0 ↔ Int32.ofNat c.val = 0) ∧ Int32.ofNat c.val &&& 15 = Int32.ofNat c.val := by decide +kernel
/-- a dot is taken -/
theorem zOi.dot (h : zOi σ μ s0 t0 s t) {j : Nat} (hj : j < 256) {d : Fin 16} {s1 t1 : zSt} (es : s1 = if s.1 28 j &&& 15 = 0 then zsi s 28 j (256 ||| Int32.ofNat d.val) else s) (et : t1 = if Int32.ofNat d.val ≤ 0 then zsi t 25 j 1 else if t.1 24 j = 0 then zsi (zsi t 25 j 1) 24 j (Int32.ofNat d.val) else zsi t 25 j 1) : zOi σ μ s0 t0 s1 t1 := by
  obtain ⟨h1, h2, h3, h4, h5, h7, h8, h9⟩ := h
  have fs : zdC σ s1 ∧ s1.1 27 = s.1 27 ∧ s1.1 25 = s.1 25 ∧ s1.1 23 = s.1 23 ∧ (∀ i : Nat, ¬ i = j → s1.1 28 i = s.1 28 i) := by
    rw [es]
    by_cases q : s.1 28 j &&& 15 = 0
    · rw [if_pos q]
      exact ⟨zQ.wi h1 rfl, zsi_ne (by decide), zsi_ne (by decide), zsi_ne (by decide), fun i hi => zsi_nj hi⟩
    · rw [if_neg q]
      exact ⟨h1, rfl, rfl, rfl, fun _ _ => rfl⟩
  have ft : zdM μ t1 ∧ t1.1 22 = t.1 22 ∧ t1.1 9 = t.1 9 ∧ t1.1 3 = t.1 3 ∧ (∀ i : Nat, ¬ i = j → t1.1 24 i = t.1 24 i ∧ t1.1 25 i = t.1 25 i) := by
    rw [et]
    by_cases q : Int32.ofNat d.val ≤ 0
    · rw [if_pos q]
      exact ⟨zQ.wi h2 rfl, zsi_ne (by decide), zsi_ne (by decide), zsi_ne (by decide), fun i hi => ⟨by rw [zsi_ne (by decide)], zsi_nj hi⟩⟩
    · rw [if_neg q]
      by_cases p : t.1 24 j = 0
      · rw [if_pos p]
        exact ⟨zQ.wi (zQ.wi h2 rfl) rfl, by rw [zsi_ne (by decide), zsi_ne (by decide)], by rw [zsi_ne (by decide), zsi_ne (by decide)], by rw [zsi_ne (by decide), zsi_ne (by decide)], fun i hi => ⟨by rw [zsi_nj hi, zsi_ne (by decide)], by rw [zsi_ne (by decide), zsi_nj hi]⟩⟩
      · rw [if_neg p]
        exact ⟨zQ.wi h2 rfl, zsi_ne (by decide), zsi_ne (by decide), zsi_ne (by decide), fun i hi => ⟨by rw [zsi_ne (by decide)], zsi_nj hi⟩⟩
  obtain ⟨a1, a2, a3, a4, a5⟩ := fs
  obtain ⟨b1, b2, b3, b4, b5⟩ := ft
  refine ⟨a1, b1, a2.trans h3, a3.trans h4, b2.trans h5, b3.trans h7, fun i hi => ?_, ?_⟩
  · by_cases z : i = j
    · subst z
      obtain ⟨w1, w2, w3, w4⟩ := v_256 d
      rcases h8 i hi with ⟨x1, x2, x3⟩ | ⟨c, x1, x2, x3⟩
      · right
        refine ⟨d, ?_, ?_, ?_⟩
        · rw [es, if_pos (by rw [x1]; decide), zsi_ej]
        · rw [et]
          by_cases q : Int32.ofNat d.val ≤ 0
          · rw [if_pos q]; exact zsi_ej
          · rw [if_neg q, if_pos x3, zsi_ne (by decide)]; exact zsi_ej
        · rw [et]
          by_cases q : Int32.ofNat d.val ≤ 0
          · rw [if_pos q, zsi_ne (by decide), x3, w3.mp q]
          · rw [if_neg q, if_pos x3]; exact zsi_ej
      · obtain ⟨y1, y2, y3, y4⟩ := v_256 c
        right
        by_cases p : Int32.ofNat c.val = 0
        · refine ⟨d, ?_, ?_, ?_⟩
          · rw [es, if_pos (by rw [x1, y1, p]), zsi_ej]
          · rw [et]
            by_cases q : Int32.ofNat d.val ≤ 0
            · rw [if_pos q]; exact zsi_ej
            · rw [if_neg q, if_pos (by rw [x3, p]), zsi_ne (by decide)]; exact zsi_ej
          · rw [et]
            by_cases q : Int32.ofNat d.val ≤ 0
            · rw [if_pos q, zsi_ne (by decide), x3, p, w3.mp q]
            · rw [if_neg q, if_pos (by rw [x3, p])]; exact zsi_ej
        · refine ⟨c, ?_, ?_, ?_⟩
          · rw [es, if_neg (by rw [x1, y1]; exact p)]; exact x1
          · rw [et]
            by_cases q : Int32.ofNat d.val ≤ 0
            · rw [if_pos q]; exact zsi_ej
            · rw [if_neg q, if_neg (by rw [x3]; exact p)]; exact zsi_ej
          · rw [et]
            by_cases q : Int32.ofNat d.val ≤ 0
            · rw [if_pos q, zsi_ne (by decide)]; exact x3
            · rw [if_neg q, if_neg (by rw [x3]; exact p), zsi_ne (by decide)]; exact x3
    · rw [a5 i z, (b5 i z).1, (b5 i z).2]
      exact h8 i hi
  · unfold zStt
    rw [b4, a4]
    exact h9
/-- large or small -/
def zLg (lg hg : Int32) : Prop := (lg = 0 ∧ hg = 8) ∨ (lg = 1 ∧ hg = 16)
theorem zZm.q {tw zm hg : Int32} {i : Nat} (h : zZm tw zm) (hh : hg = 8 ∨ hg = 16) (hi : ¬ hg * zm ≤ Int32.ofNat i) (h16 : i < 100000) : ∃ p : Nat, p < 16 ∧ (hg = 8 → p < 8) ∧ Int32.ofNat i >>> (tw &&& 31) = Int32.ofNat p ∧ Int32.ofNat i / zm = Int32.ofNat p ∧ i < 32 := by
  have v32a : ∀ i : Fin 32, Int32.ofNat i.val >>> ((0 : Int32) &&& 31) = Int32.ofNat i.val ∧ Int32.ofNat i.val / 1 = Int32.ofNat i.val ∧ Int32.ofNat i.val >>> ((1 : Int32) &&& 31) = Int32.ofNat (i.val / 2) ∧ Int32.ofNat i.val / 2 = Int32.ofNat (i.val / 2) := by decide +kernel
  have hi' : (Int32.ofNat i).toInt < (hg * zm).toInt := Int32.lt_iff_toInt_lt.mp (z_nle hi)
  rw [z_ofI h16] at hi'
  rcases h with ⟨a, b⟩ | ⟨a, b⟩ <;> subst a <;> subst b <;> rcases hh with c | c <;> subst c
  · rw [show ((8 : Int32) * 1).toInt = 8 from rfl] at hi'
    obtain ⟨x1, x2, x3, x4⟩ := v32a ⟨i, by omega⟩
    exact ⟨i, by omega, fun _ => by omega, x1, x2, by omega⟩
  · rw [show ((16 : Int32) * 1).toInt = 16 from rfl] at hi'
    obtain ⟨x1, x2, x3, x4⟩ := v32a ⟨i, by omega⟩
    exact ⟨i, by omega, fun z => absurd z (by decide), x1, x2, by omega⟩
  · rw [show ((8 : Int32) * 2).toInt = 16 from rfl] at hi'
    obtain ⟨x1, x2, x3, x4⟩ := v32a ⟨i, by omega⟩
    exact ⟨i / 2, by omega, fun _ => by omega, x3, x4, by omega⟩
  · rw [show ((16 : Int32) * 2).toInt = 32 from rfl] at hi'
    obtain ⟨x1, x2, x3, x4⟩ := v32a ⟨i, by omega⟩
    exact ⟨i / 2, by omega, fun z => absurd z (by decide), x3, x4, by omega⟩
theorem zZm.w2 {tw zm hg : Int32} (h : zZm tw zm) (hh : hg = 8 ∨ hg = 16) : hg <<< (tw &&& 31) = hg * zm := by
  rcases h with ⟨a, b⟩ | ⟨a, b⟩ <;> subst a <;> subst b <;> rcases hh with c | c <;> subst c <;> decide
abbrev zK6 := zSt → Int32 → Int32 → Int32 → Int32 → Int32 → Option zSt
/-- a sprite's dots, both sides -/
theorem t_158 (h : zVe σ μ) {C0 : zSt → Option zSt} {Q : zSt → zSt → Prop} {k40 : zK6} {L zm hg f nn rw_ pt le tw lg la A : Int32} {d : Fin 16} (hz : zZm tw zm) (hl : zLg lg hg) (hA : A = ((2048 * (σ.1 23 6 &&& 7)) + (8 * pt)) + (rw_ / zm)) (hd15 : la &&& 15 = Int32.ofNat d.val) (k : ∀ s t, zOi σ μ s0 t0 s t → zp2 (C0 s) (fX12_oldSprites_388 k40 t L zm hg f nn) Q) : ∀ (n m i : Nat) (s t : zSt), i ≤ 32 → zOi σ μ s0 t0 s t → zp2 (zbu (fX3_drawOldSprite_158 n s la le tw lg ((vb σ A <<< ((8 : Int32) &&& 31)) ||| (if lg = 0 then 0 else vb σ (A + 16))) (Int32.ofNat i)) C0) (fX12_oldSprites_231 k40 m t L zm hg f nn rw_ pt (Int32.ofNat d.val) le (Int32.ofNat i)) Q := by
  have hh : hg = 8 ∨ hg = 16 := hl.elim (fun z => Or.inl z.2) (fun z => Or.inr z.2)
  intro n
  induction n with
  | zero => intro m i s t _ _; exact zp2_nl
  | succ n ih =>
    intro m i s t hi hS
    cases m with
    | zero => exact zp2_nr
    | succ m =>
      obtain ⟨BB, eBB⟩ : ∃ BB, BB = (vb σ A <<< ((8 : Int32) &&& 31)) ||| (if lg = 0 then 0 else vb σ (A + 16)) := ⟨_, rfl⟩
      rw [← eBB] at ih ⊢
      show zp2 (zbu (fX3_drawOldSprite_158_body (fX3_drawOldSprite_158 n) s la le tw lg BB (Int32.ofNat i)) C0) (fX12_oldSprites_231_body k40 (fX12_oldSprites_231 k40 m) t L zm hg f nn rw_ pt (Int32.ofNat d.val) le (Int32.ofNat i)) Q
      have hd := hS.2.1
      have f6 : t.1 3 (47 + (6 : Int32)).toNatClampNeg = σ.1 23 6 := h.ej hd (j := 6) (by decide)
      have eC : fX3_drawOldSprite_158_body (fX3_drawOldSprite_158 n) s la le tw lg BB (Int32.ofNat i) = fX3_drawOldSprite_172 (fX3_drawOldSprite_158 n) s la le tw lg BB (Int32.ofNat i) hg (Int32.ofNat i) := by
        unfold fX3_drawOldSprite_158_body
        rcases hl with ⟨a, b⟩ | ⟨a, b⟩
        · rw [if_pos a, b]
        · rw [if_neg (by rw [a]; decide), b]
      rw [eC]
      unfold fX3_drawOldSprite_172 fX12_oldSprites_231_body
      rw [hz.w2 hh]
      by_cases q : hg * zm ≤ Int32.ofNat i
      · rw [if_pos q, if_pos q]
        exact k s t hS
      rw [if_neg q, if_neg q]
      obtain ⟨p, p16, p8, e1, e2, i32⟩ := hz.q hh q (by omega)
      have next : ∀ s t : zSt, zOi σ μ s0 t0 s t → zp2 (zbu (fX3_drawOldSprite_224 (fX3_drawOldSprite_158 n) s la le tw lg BB (Int32.ofNat i)) C0) (fX12_oldSprites_382 k40 (fX12_oldSprites_231 k40 m) t L zm hg f nn rw_ pt (Int32.ofNat d.val) le (Int32.ofNat i)) Q := fun s t a => by
        unfold fX3_drawOldSprite_224 fX12_oldSprites_382
        rw [z_ofS (by omega)]
        exact ih m (i + 1) s t (by omega) a
      have rb1 := vb_r h.1 A
      have rb2 : zr 0 255 (if lg = 0 then 0 else vb σ (A + 16)) := by
        by_cases z : lg = 0
        · rw [if_pos z]; exact zr_c (by decide)
        · rw [if_neg z]; exact vb_r h.1 _
      have bit := z_two rb1 rb2 p16
      rw [← eBB] at bit
      rw [e1, bit]
      -- the reference's bit
      have p7 : Int32.ofNat p ≤ 7 ↔ p ≤ 7 := (v_i16 ⟨p, p16⟩).1
      have pM : zp2 (zbu (zbv (le + Int32.ofNat i) (fun v2 => if (if Int32.ofNat p ≤ 7 then (vb σ A >>> ((7 - zrem (Int32.ofNat p) 8) &&& 31)) &&& 1 else ((if lg = 0 then 0 else vb σ (A + 16)) >>> ((7 - zrem (Int32.ofNat p) 8) &&& 31)) &&& 1) = 0 then fX3_drawOldSprite_224 (fX3_drawOldSprite_158 n) s la le tw lg BB (Int32.ofNat i) else if v2 < 0 then fX3_drawOldSprite_224 (fX3_drawOldSprite_158 n) s la le tw lg BB (Int32.ofNat i) else if 256 ≤ v2 then fX3_drawOldSprite_224 (fX3_drawOldSprite_158 n) s la le tw lg BB (Int32.ofNat i) else zbu (fX3_takeDot s v2 (la &&& 15)) (fun σ3 => fX3_drawOldSprite_224 (fX3_drawOldSprite_158 n) σ3 la le tw lg BB (Int32.ofNat i)))) C0) (if Int32.ofNat p ≤ 7 then fX12_oldSprites_283 k40 (fX12_oldSprites_231 k40 m) t L zm hg f nn rw_ pt (Int32.ofNat d.val) le (Int32.ofNat i) (Int32.ofNat p) 0 A else fX12_oldSprites_283 k40 (fX12_oldSprites_231 k40 m) t L zm hg f nn rw_ pt (Int32.ofNat d.val) le (Int32.ofNat i) (Int32.ofNat p) 16 A) Q := by
        have l283 : ∀ (y w : Int32), vb σ (A + y) = w → zp2 (zbu (if (w >>> ((7 - zrem (Int32.ofNat p) 8) &&& 31)) &&& 1 = 0 then fX3_drawOldSprite_224 (fX3_drawOldSprite_158 n) s la le tw lg BB (Int32.ofNat i) else if le + Int32.ofNat i < 0 then fX3_drawOldSprite_224 (fX3_drawOldSprite_158 n) s la le tw lg BB (Int32.ofNat i) else if 256 ≤ le + Int32.ofNat i then fX3_drawOldSprite_224 (fX3_drawOldSprite_158 n) s la le tw lg BB (Int32.ofNat i) else zbu (fX3_takeDot s (le + Int32.ofNat i) (la &&& 15)) (fun σ3 => fX3_drawOldSprite_224 (fX3_drawOldSprite_158 n) σ3 la le tw lg BB (Int32.ofNat i))) C0) (fX12_oldSprites_283 k40 (fX12_oldSprites_231 k40 m) t L zm hg f nn rw_ pt (Int32.ofNat d.val) le (Int32.ofNat i) (Int32.ofNat p) y A) Q := fun y w ew => by
          unfold fX12_oldSprites_283
          refine zp2_bir (p_v8 h.1 hd.v) (fun t1 v1 e1 => zp2_ckr (zp2_bvr (fun v7 e7 => zp2_bvr (fun v8 e8 => ?_))))
          cases e1
          rw [ew] at e7
          rw [← e7, e8]
          obtain ⟨X, eX⟩ : ∃ X, X = le + Int32.ofNat i := ⟨_, rfl⟩
          rw [← eX]
          by_cases b0 : v7 = 0
          · rw [if_pos b0, if_pos b0]
            exact next s t hS
          rw [if_neg b0, if_neg b0]
          by_cases x0 : X < 0
          · rw [if_pos x0, if_pos x0]
            exact next s t hS
          rw [if_neg x0, if_neg x0]
          have x0' := Int32.le_iff_toInt_le.mp (z_nlt x0)
          rw [show (0 : Int32).toInt = 0 from rfl] at x0'
          have e255 : 256 ≤ X ↔ ¬ X ≤ 255 := by
            rw [Int32.le_iff_toInt_le, Int32.le_iff_toInt_le, show (256 : Int32).toInt = 256 from rfl, show (255 : Int32).toInt = 255 from rfl]
            omega
          by_cases x1 : 256 ≤ X
          · rw [if_pos x1, if_neg (e255.mp x1)]
            exact next s t hS
          have x1' : X ≤ 255 := Decidable.byContradiction (fun z => x1 (e255.mpr z))
          rw [if_neg x1, if_pos x1']
          have x2 := Int32.le_iff_toInt_le.mp x1'
          rw [show (255 : Int32).toInt = 255 from rfl] at x2
          have kX := z_clamp (x := X) x0'
          have jX : X.toNatClampNeg < 256 := by omega
          rw [hd15]
          -- the dot itself
          have dot : ∀ s t : zSt, zOi σ μ s0 t0 s t → zp2 (zbu (zbu (fX3_takeDot_18 s X (Int32.ofNat d.val)) (fun σ3 => fX3_drawOldSprite_224 (fX3_drawOldSprite_158 n) σ3 la le tw lg BB (Int32.ofNat i))) C0) (fX12_oldSprites_350 k40 (fX12_oldSprites_231 k40 m) t L zm hg f nn rw_ pt (Int32.ofNat d.val) le (Int32.ofNat i) X) Q := fun s t a => by
            refine zp2_ubu (P := fun r => r = if s.1 28 X.toNatClampNeg &&& 15 = 0 then zsi s 28 X.toNatClampNeg (256 ||| Int32.ofNat d.val) else s) ?_ (fun s1 es => ?_)
            · unfold fX3_takeDot_18 fX3_takeDot_41
              refine zpc_ck (zpc_if (fun z => zpc_ck (zpc_bv (fun s1 f1 => zpc_some ?_))) (fun z => zpc_some ?_))
              · rw [if_pos (show s.1 28 X.toNatClampNeg &&& 15 = 0 from z), f1]
              · rw [if_neg (show ¬ s.1 28 X.toNatClampNeg &&& 15 = 0 from z)]
            · unfold fX12_oldSprites_350
              refine zp2_ckr (zp2_bvr (fun t3 g3 => ?_))
              have g3 : t3 = zsi t 25 X.toNatClampNeg 1 := g3
              have c24 : zgi t3 24 X.toNatClampNeg = t.1 24 X.toNatClampNeg := by rw [g3]; show (zsi t 25 X.toNatClampNeg 1).1 24 _ = _; rw [zsi_ne (by decide)]
              by_cases z : Int32.ofNat d.val ≤ 0
              · rw [if_pos z]
                exact next _ _ (a.dot jX es (t1 := t3) (by rw [if_pos z]; exact g3))
              · rw [if_neg z, c24]
                refine zp2_ckr ?_
                by_cases y : t.1 24 X.toNatClampNeg = 0
                · rw [if_pos y]
                  refine zp2_ckr (zp2_bvr (fun t4 g4 => ?_))
                  exact next _ _ (a.dot jX es (t1 := t4) (by rw [if_neg z, if_pos y, g4, g3]))
                · rw [if_neg y]
                  exact next _ _ (a.dot jX es (t1 := t3) (by rw [if_neg z, if_neg y]; exact g3))
          unfold fX3_takeDot
          rw [z_uck, z_uck]
          refine zp2_ckl (zp2_ckr ?_)
          have same : zgi s 28 X.toNatClampNeg = 0 ↔ zgi t 25 X.toNatClampNeg = 0 := by
            rcases hS.2.2.2.2.2.2.1 X.toNatClampNeg jX with ⟨a1, a2, a3⟩ | ⟨c, a1, a2, a3⟩
            · exact ⟨fun _ => a2, fun _ => a1⟩
            · refine ⟨fun z => absurd ((show s.1 28 X.toNatClampNeg = 0 from z).symm.trans a1) (fun y => (v_256 c).2.1 y.symm), fun z => absurd ((show t.1 25 X.toNatClampNeg = 0 from z).symm.trans a2) (by decide)⟩
          by_cases z : zgi s 28 X.toNatClampNeg = 0
          · rw [if_pos z, if_pos (same.mp z)]
            exact dot s t hS
          · rw [if_neg z, if_neg (fun y => z (same.mpr y))]
            refine zp2_ckr (zp2_ckr (zp2_bvr (fun t9 g9 => ?_)))
            have e62 : zgi t 3 (62 : Int32).toNatClampNeg = s.1 23 15 := hS.2.2.2.2.2.2.2.1
            rw [e62] at g9
            have r15 : zr 0 255 (s.1 23 15) := hS.2.2.2.2.2.2.2.2
            refine zp2_uubu (P := fun r => r = zsi s 23 15 (s.1 23 15 ||| 32)) (by unfold fX9_mark; exact zpc_ck (zpc_ck (zpc_bv (fun s1 f1 => zpc_some f1)))) (fun s1 f1 => ?_)
            rw [f1, g9]
            exact dot _ _ (hS.st (zr_or (lo := 0) (hi := 255) 8 r15 (zr_c (lo := 32) (hi := 32) (x := 32) (by decide)) (by decide)))
        by_cases z : Int32.ofNat p ≤ 7
        · rw [if_pos z, if_pos z]
          exact l283 0 (vb σ A) (by rw [Int32.add_zero])
        · rw [if_neg z, if_neg z]
          have lg1 : ¬ lg = 0 := fun y => by
            rcases hl with ⟨a, b⟩ | ⟨a, b⟩
            · exact z (p7.mpr (by have := p8 b; omega))
            · rw [a] at y; exact absurd y (by decide)
          rw [if_neg lg1]
          exact l283 16 (vb σ (A + 16)) rfl
      refine zp2_ckr (zp2_bvr (fun v10 e10 => ?_))
      rw [e2] at e10
      subst e10
      refine zp2_bir p_reg (fun t1 w1 e1 => zp2_ckr (zp2_ckr ?_))
      cases e1
      rw [f6, (z_o1 (h.rj (j := 6) (by decide))).2.1, ← hA]
      exact pM
end ZTB
end ZJN7
section ZJN8
/-! THE PAINTER, 12: ALL SPRITES OF AN OLD MODE'S LINE -/
section ZTC
variable {σ μ s t s0 t0 : zSt}
theorem c_117 {o : zSt} : ∀ (n i : Nat) (s : zSt), i ≤ 256 → zdC σ s → s.1 28 = o.1 28 → s.1 23 = o.1 23 → s.1 25 = o.1 25 → (∀ j : Nat, j < i → s.1 27 j = if o.1 28 j &&& 15 ≤ 0 then o.1 27 j else o.1 28 j &&& 15) → (∀ j : Nat, i ≤ j → s.1 27 j = o.1 27 j) → zpc (fX3_drawOldSprites_117 n s (Int32.ofNat i)) (fun r => zdC σ r ∧ r.1 23 = o.1 23 ∧ r.1 25 = o.1 25 ∧ ∀ j : Nat, j < 256 → r.1 27 j = if o.1 28 j &&& 15 ≤ 0 then o.1 27 j else o.1 28 j &&& 15) := by
  intro n
  induction n with
  | zero => intro i s _ _ _ _ _ _ _; exact zpc_none
  | succ n ih =>
    intro i s hi hd e28 e23 e25 hin hout
    show zpc (fX3_drawOldSprites_117_body (fX3_drawOldSprites_117 n) s (Int32.ofNat i)) _
    unfold fX3_drawOldSprites_117_body fX3_drawOldSprites_155
    refine zpc_if (fun q => zpc_some ?_) (fun q => ?_)
    · have := (z_ofL (k := 256) (by omega) rfl).mp q
      exact ⟨hd, e23, e25, fun j hj => hin j (by omega)⟩
    have hi2 : i < 256 := by
      have : ¬ 256 ≤ i := fun z => q ((z_ofL (c := 256) (k := 256) (i := i) (by omega) rfl).mpr z)
      omega
    rw [z_ofC (by omega), z_ofS (by omega)]
    have c28 : zgi s 28 i = o.1 28 i := by show s.1 28 i = _; rw [e28]
    rw [c28]
    refine zpc_ck (zpc_if (fun p => zpc_bv (fun v ev => ?_)) (fun p => zpc_ck (zpc_ck (zpc_bv (fun s1 g1 => zpc_bv (fun v ev => ?_))))))
    · subst ev
      refine ih (i + 1) s (by omega) hd e28 e23 e25 (fun j hj => ?_) (fun j hj => hout j (by omega))
      by_cases z : j = i
      · rw [z, if_pos p]; exact hout i (by omega)
      · exact hin j (by omega)
    · subst ev
      refine ih (i + 1) s1 (by omega) (by rw [g1]; exact zQ.wi hd rfl) (by rw [g1, zsi_ne (by decide)]; exact e28) (by rw [g1, zsi_ne (by decide)]; exact e23) (by rw [g1, zsi_ne (by decide)]; exact e25) (fun j hj => ?_) (fun j hj => by rw [g1, zsi_nj (by omega)]; exact hout j (by omega))
      by_cases z : j = i
      · rw [z, g1, zsi_ej, if_neg p]
      · rw [g1, zsi_nj z]
        exact hin j (by omega)
def zOe (σ μ s0 t0 r t : zSt) : Prop := zdC σ r ∧ zdM μ t ∧ r.1 25 = s0.1 25 ∧ t.1 22 = t0.1 22 ∧ t.1 9 = t0.1 9 ∧ zStt r t ∧ ∀ j : Nat, j < 256 → zr 0 15 (t.1 24 j) ∧ r.1 27 j = (if t.1 24 j ≤ 0 then s0.1 27 j else t.1 24 j)
theorem t_114 (h : zOi σ μ s0 t0 s t) : zp2 (fX3_drawOldSprites_114 s ) (some t) (zOe σ μ s0 t0) := by
  obtain ⟨h1, h2, h3, h4, h5, h7, h8, h9⟩ := h
  unfold fX3_drawOldSprites_114
  refine zp2_of (c_117 (σ := σ) (o := s) zfuel 0 s (by decide) h1 rfl rfl rfl (fun j hj => absurd hj (by omega)) (fun _ _ => rfl)) (zpc_some (Q := fun r => r = t) rfl) (fun r t' q e => ?_)
  obtain ⟨q1, q2, q3, q4⟩ := q
  subst e
  refine ⟨q1, h2, q3.trans h4, h5, h7, ?_, fun j hj => ?_⟩
  · unfold zStt
    rw [q2]
    exact h9
  · have e15 : s.1 28 j &&& 15 = t'.1 24 j ∧ zr 0 15 (t'.1 24 j) := by
      rcases h8 j hj with ⟨a1, a2, a3⟩ | ⟨c, a1, a2, a3⟩
      · rw [a1, a3]; exact ⟨by decide, zr_c (by decide)⟩
      · rw [a1, a3]
        exact ⟨(v_256 c).1, z_ofr (by omega) (by have := c.isLt; omega)⟩
    refine ⟨e15.2, ?_⟩
    rw [q4 j hj, e15.1, h3]
def gOl (σ : zSt) (x : Int32) : Int32 := vb σ (x + 1) - (if vb σ (x + 3) &&& 128 = 0 then 0 else 32)
def gOp (σ : zSt) (x : Int32) : Int32 := if σ.1 23 1 &&& 2 = 0 then vb σ (x + 2) else vb σ (x + 2) &&& (-4)
def gLg (sh : Int32) : Int32 := if sh &&& 2 = 0 then 0 else 1
theorem c_osprite (h : zVe σ μ) (hs : zdC σ s) {x row : Int32} : zpc (fX3_drawOldSprite s x row) (fun r => fX3_drawOldSprite_158 zfuel s (vb σ (x + 3)) (gOl σ x) (σ.1 23 1 &&& 1) (gLg (σ.1 23 1)) ((vb σ (((2048 * (σ.1 23 6 &&& 7)) + (8 * gOp σ x)) + row) <<< ((8 : Int32) &&& 31)) ||| (if gLg (σ.1 23 1) = 0 then 0 else vb σ ((((2048 * (σ.1 23 6 &&& 7)) + (8 * gOp σ x)) + row) + 16))) 0 = some r) := by
  have v := hs.v
  have g1 : s.1 23 (1 : Int32).toNatClampNeg = σ.1 23 1 := hs.r (j := 1) (by decide)
  have g6 : s.1 23 (6 : Int32).toNatClampNeg = σ.1 23 6 := hs.r (j := 6) (by decide)
  obtain ⟨A, eA⟩ : ∃ A, A = ((2048 * (σ.1 23 6 &&& 7)) + (8 * gOp σ x)) + row := ⟨_, rfl⟩
  rw [← eA]
  have l113 : ∀ y lg : Int32, y = gOp σ x → lg = gLg (σ.1 23 1) → zpc (fX3_drawOldSprite_113 s row (vb σ (x + 3)) (gOl σ x) (σ.1 23 1 &&& 1) lg y 8 (2048 * (σ.1 23 6 &&& 7))) (fun r => fX3_drawOldSprite_158 zfuel s (vb σ (x + 3)) (gOl σ x) (σ.1 23 1 &&& 1) (gLg (σ.1 23 1)) ((vb σ A <<< ((8 : Int32) &&& 31)) ||| (if gLg (σ.1 23 1) = 0 then 0 else vb σ (A + 16))) 0 = some r) := fun y lg ey el => by
    unfold fX3_drawOldSprite_113 fX3_drawOldSprite_152
    refine zpc_bv (fun v5 e5 => zpc_bi p_vb (fun s1 w e => ?_))
    cases e
    rw [ey, ← eA] at e5
    subst e5
    rw [vb_of v, el]
    refine zpc_if (fun q => zpc_bv (fun v4 e4 => ?_)) (fun q => zpc_bi p_vb (fun s1 w e => zpc_bv (fun v4 e4 => ?_)))
    · rw [e4, if_pos q]
      exact fun r er => er
    · cases e
      rw [e4, if_neg q, vb_of v]
      exact fun r er => er
  have l78 : ∀ lg : Int32, lg = gLg (σ.1 23 1) → zpc (fX3_drawOldSprite_78 s row (vb σ (x + 3)) (gOl σ x) (vb σ (x + 2)) (σ.1 23 1 &&& 1) lg) (fun r => fX3_drawOldSprite_158 zfuel s (vb σ (x + 3)) (gOl σ x) (σ.1 23 1 &&& 1) (gLg (σ.1 23 1)) ((vb σ A <<< ((8 : Int32) &&& 31)) ||| (if gLg (σ.1 23 1) = 0 then 0 else vb σ (A + 16))) 0 = some r) := fun lg el => by
    unfold fX3_drawOldSprite_78
    refine zpc_bi (p_held (x := 6) (zr_c (by decide))) (fun s1 w e => ?_)
    cases e
    rw [g6]
    refine zpc_if (fun q => l113 _ lg ?_ el) (fun q => l113 _ lg ?_ el)
    · rw [el] at q
      unfold gOp
      unfold gLg at q
      by_cases z : σ.1 23 1 &&& 2 = 0
      · rw [if_pos z]
      · rw [if_neg z] at q; exact absurd q (by decide)
    · rw [el] at q
      unfold gOp
      unfold gLg at q
      by_cases z : σ.1 23 1 &&& 2 = 0
      · rw [if_pos z] at q; exact absurd rfl q
      · rw [if_neg z]
  have l35 : ∀ y : Int32, vb σ (x + 1) - y = gOl σ x → zpc (fX3_drawOldSprite_35 s x row (vb σ (x + 3)) y (vb σ (x + 1))) (fun r => fX3_drawOldSprite_158 zfuel s (vb σ (x + 3)) (gOl σ x) (σ.1 23 1 &&& 1) (gLg (σ.1 23 1)) ((vb σ A <<< ((8 : Int32) &&& 31)) ||| (if gLg (σ.1 23 1) = 0 then 0 else vb σ (A + 16))) 0 = some r) := fun y ey => by
    unfold fX3_drawOldSprite_35
    refine zpc_bv (fun v12 e12 => zpc_bi p_vb (fun s1 w e => ?_))
    cases e
    refine zpc_bi (p_held (x := 1) (zr_c (by decide))) (fun s1 w e => zpc_bv (fun v17 e17 => ?_))
    cases e
    rw [ey] at e12
    rw [g1] at e17
    rw [g1, e12, e17, vb_of v]
    refine zpc_if (fun q => l78 0 ?_) (fun q => l78 1 ?_)
    · unfold gLg; rw [if_pos q]
    · unfold gLg; rw [if_neg q]
  unfold fX3_drawOldSprite
  refine zpc_bi p_vb (fun s1 w e => ?_)
  cases e
  refine zpc_bi p_vb (fun s1 w e => ?_)
  cases e
  rw [vb_of v, vb_of v]
  refine zpc_if (fun q => l35 _ ?_) (fun q => l35 _ ?_)
  · unfold gOl; rw [if_pos q]
  · unfold gOl; rw [if_neg q]
theorem v_252 : ∀ c : Fin 256, Int32.ofNat c.val &&& 252 = Int32.ofNat c.val &&& (-4) := by decide +kernel
theorem v_fif : ∀ c : Fin 256, Int32.ofNat c.val &&& 64 = 0 → Int32.ofNat c.val &&& 160 = Int32.ofNat c.val &&& 224 := by decide +kernel
theorem v_n31 : ∀ i : Fin 32, Int32.ofNat i.val &&& 31 = Int32.ofNat i.val := by decide +kernel
theorem v_128t : ∀ c : Fin 256, 128 * (zrem (Int32.ofNat c.val) 128) = 128 * (Int32.ofNat c.val &&& 127) := by decide +kernel
/-- the reference: a sprite up to its dots -/
theorem m_osprite (h : zVe σ μ) (hd : zdM μ t) {k40 : zK6} {L f nn x w : Int32} {d : Fin 16} (hd15 : vb σ (x + 3) &&& 15 = Int32.ofNat d.val) {y : Int32} : zpc (fX12_oldSprites_183 k40 t L (gZm (σ.1 23 1)) (gHg (σ.1 23 1)) f nn x w y) (fun r => fX12_oldSprites_231 k40 zfuel t L (gZm (σ.1 23 1)) (gHg (σ.1 23 1)) f nn w y (Int32.ofNat d.val) (gOl σ x) 0 = some r) := by
  unfold fX12_oldSprites_183 fX12_oldSprites_225
  refine zpc_bi (p_v8 h.1 hd.v) (fun t1 v e => zpc_bv (fun v16 e16 => ?_))
  cases e
  rw [hd15] at e16
  refine zpc_bi (p_v8 h.1 hd.v) (fun t1 v e => ?_)
  cases e
  refine zpc_bi (p_v8 h.1 hd.v) (fun t1 v e => ?_)
  cases e
  have s7 := z_s7 (vb_r h.1 (x + 3))
  have le127 : vb σ (x + 3) ≤ 127 ↔ vb σ (x + 3) &&& 128 = 0 := by
    constructor
    · intro z
      refine Decidable.byContradiction (fun q => ?_)
      have y := s7.mpr q
      have := Int32.le_iff_toInt_le.mp z
      have := Int32.lt_iff_toInt_lt.mp y
      omega
    · intro z
      exact Decidable.byContradiction (fun q => (s7.mp (z_nle q)) z)
  rw [e16]
  refine zpc_if (fun q => zpc_bv (fun v13 e13 => ?_)) (fun q => zpc_bv (fun v13 e13 => ?_))
  · rw [e13, show vb σ (x + 1) - 0 = gOl σ x by unfold gOl; rw [if_pos (le127.mp q)]]
    exact fun r er => er
  · rw [e13, show vb σ (x + 1) - 32 = gOl σ x by unfold gOl; rw [if_neg (fun z => q (le127.mpr z))]]
    exact fun r er => er
/-- all of them -/
theorem t_29 (h : zVe σ μ) {L : Int32} : ∀ (n m i : Nat) (s t : zSt) (f : Int32), i ≤ 32 → zr 0 4 f → zOi σ μ s0 t0 s t → zp2 (fX3_drawOldSprites_29 n s L (128 * (σ.1 23 5 &&& 127)) f (Int32.ofNat i)) (fX12_oldSprites_40 m t L (gZm (σ.1 23 1)) (gHg (σ.1 23 1)) f (Int32.ofNat i)) (zOe σ μ s0 t0) := by
  intro n
  induction n with
  | zero => intro m i s t f _ _ _; exact zp2_nl
  | succ n ih =>
    intro m i s t f hi hf hS
    cases m with
    | zero => exact zp2_nr
    | succ m =>
      show zp2 (fX3_drawOldSprites_29_body (fX3_drawOldSprites_29 n) s L (128 * (σ.1 23 5 &&& 127)) f (Int32.ofNat i)) (fX12_oldSprites_40_body (fX12_oldSprites_40 m) t L (gZm (σ.1 23 1)) (gHg (σ.1 23 1)) f (Int32.ofNat i)) _
      unfold fX3_drawOldSprites_29_body fX12_oldSprites_40_body
      have hs := hS.1
      have hd := hS.2.1
      refine zp2_if (fun _ => t_114 hS) (fun q => ?_)
      have hi2 : i < 32 := by
        have : ¬ 32 ≤ i := fun z => q ((z_ofL (c := 32) (k := 32) (i := i) (by omega) rfl).mpr z)
        omega
      have f5 : t.1 3 (47 + (5 : Int32)).toNatClampNeg = σ.1 23 5 := h.ej hd (j := 5) (by decide)
      have g1 : s.1 23 1 = σ.1 23 1 := hs.r (by decide)
      have r15 : zr 0 255 (s.1 23 15) := hS.2.2.2.2.2.2.2.2
      have e62 : zgi t 3 (62 : Int32).toNatClampNeg = s.1 23 15 := hS.2.2.2.2.2.2.2.1
      refine zp2_bvl (fun X eX => zp2_bil p_vb (fun s1 u e1 => ?_))
      cases e1
      refine zp2_bir p_reg (fun t1 w e1 => zp2_ckr (zp2_bvr (fun X' eX' => ?_)))
      cases e1
      rw [f5] at eX'
      have eX' : X' = X := by
        rw [eX', eX]
        obtain ⟨c, ec⟩ := z_byteF (h.rj (j := 5) (by decide))
        rw [ec, v_128t c]
      subst eX'
      refine zp2_bir (p_v8 h.1 hd.v) (fun t1 w e1 => ?_)
      cases e1
      rw [vb_of hs.v]
      obtain ⟨u, eu⟩ : ∃ u, u = vb σ X' := ⟨_, rfl⟩
      rw [← eu]
      refine zp2_if (fun _ => t_114 hS) (fun _ => ?_)
      have next : ∀ (s t : zSt) (f : Int32), zr 0 4 f → zOi σ μ s0 t0 s t → zp2 (fX3_drawOldSprites_108 (fX3_drawOldSprites_29 n) s L (128 * (σ.1 23 5 &&& 127)) f (Int32.ofNat i)) (fX12_oldSprites_388 (fX12_oldSprites_40 m) t L (gZm (σ.1 23 1)) (gHg (σ.1 23 1)) f (Int32.ofNat i)) (zOe σ μ s0 t0) := fun s t f a b => by
        unfold fX3_drawOldSprites_108 fX12_oldSprites_388
        rw [z_ofS (by omega)]
        exact zp2_bvl (fun v ev => zp2_bvr (fun w ew => by rw [ev, ew]; exact ih m (i + 1) s t f (by omega) a b))
      obtain ⟨z1, z2, z3⟩ := z_row (sh := σ.1 23 1) (L := L) (u := u)
      refine zp2_bil p_row (fun s1 v1 e1 => zp2_bvr (fun v14 e14 => ?_))
      cases e1
      rw [g1]
      subst e14
      by_cases p : gHg (σ.1 23 1) ≤ gRow (σ.1 23 1) L u
      · rw [if_pos p]
        exact zp2_ifl (fun _ => zp2_ifr (fun z => absurd z (z1.mp p)) (fun _ => next s t f hf hS)) (fun z => absurd (by decide) z)
      rw [if_neg p]
      have lt : (((L - u) - 1) &&& 255) < gHg (σ.1 23 1) * gZm (σ.1 23 1) := Decidable.byContradiction (fun z => p (z1.mpr z))
      refine zp2_ifl (fun z => absurd z (zq_lt z3 rfl (by decide))) (fun _ => zp2_ifr (fun _ => ?_) (fun z => absurd lt z))
      refine zp2_bvl (fun v9 e9 => ?_)
      have tf : (f + 1).toInt = f.toInt + 1 := z_tadd hf (zr_c (lo := 1) (hi := 1) (x := 1) (by decide)) (by decide)
      have f0 := hf.1
      have f4 := hf.2
      have e4 : v9 ≤ 4 ↔ ¬ f = 4 := by
        rw [e9, Int32.le_iff_toInt_le, ← Int32.toInt_inj, tf, show (4 : Int32).toInt = 4 from rfl]
        omega
      refine zp2_ifn e4 (fun _ c4 => ?_) (fun _ c4 => ?_)
      · have rf : zr 0 4 (f + 1) := ⟨by omega, by have : ¬ f.toInt = 4 := fun z => c4 (Int32.toInt_inj.mp z); omega⟩
        subst e9
        refine zp2_bvr (fun v15 e15 => ?_)
        subst e15
        have hz : zZm (σ.1 23 1 &&& 1) (gZm (σ.1 23 1)) := by
          unfold gZm
          obtain ⟨c, ec⟩ := z_byteF h.r1
          rcases v_and1 c with z | z
          · rw [← ec] at z
            rw [if_pos z]
            exact Or.inl ⟨z, rfl⟩
          · rw [← ec] at z
            rw [if_neg (by rw [z]; decide)]
            exact Or.inr ⟨z, rfl⟩
        have hl : zLg (gLg (σ.1 23 1)) (gHg (σ.1 23 1)) := by
          unfold gLg gHg
          by_cases z : σ.1 23 1 &&& 2 = 0
          · rw [if_pos z, if_pos z]; exact Or.inl ⟨rfl, rfl⟩
          · rw [if_neg z, if_neg z]; exact Or.inr ⟨rfl, rfl⟩
        obtain ⟨d, hd15⟩ := z_r15 (vb σ (X' + 3))
        have go : ∀ y, y = gOp σ X' → zp2 (zbu (fX3_drawOldSprite s X' (gRow (σ.1 23 1) L u)) (fun σ10 => fX3_drawOldSprites_108 (fX3_drawOldSprites_29 n) σ10 L (128 * (σ.1 23 5 &&& 127)) (f + 1) (Int32.ofNat i))) (fX12_oldSprites_183 (fX12_oldSprites_40 m) t L (gZm (σ.1 23 1)) (gHg (σ.1 23 1)) (f + 1) (Int32.ofNat i) X' (((L - u) - 1) &&& 255) y) (zOe σ μ s0 t0) := fun y ey => by
          refine zp2_subr (m_osprite h hd hd15) (zp2_usub (c_osprite h hs) ?_)
          exact t_158 h hz hl (by rw [ey, z2]) hd15 (fun s' t' q' => next s' t' (f + 1) rf q') zfuel zfuel 0 s t (by decide) hS
        by_cases z : gHg (σ.1 23 1) = 16
        · refine zp2_ifr (fun _ => zp2_bir (p_v8 h.1 hd.v) (fun t1 w e1 => ?_)) (fun y => absurd z y)
          cases e1
          refine go _ ?_
          obtain ⟨c, ec⟩ := z_byteF (vb_r h.1 (X' + 2))
          have nz : ¬ σ.1 23 1 &&& 2 = 0 := fun y => by unfold gHg at z; rw [if_pos y] at z; exact absurd z (by decide)
          unfold gOp
          rw [if_neg nz, ec, v_252 c]
        · refine zp2_ifr (fun y => absurd y z) (fun _ => zp2_bir (p_v8 h.1 hd.v) (fun t1 w e1 => ?_))
          cases e1
          refine go _ ?_
          have nz : σ.1 23 1 &&& 2 = 0 := Decidable.byContradiction (fun y => z (by unfold gHg; rw [if_neg y]))
          unfold gOp
          rw [if_pos nz]
      · -- the fifth one
        unfold fX12_oldSprites_150
        rw [e62]
        by_cases z : s.1 23 15 &&& 64 = 0
        · refine zp2_bul (P := fun r => r = zsi s 23 15 (((s.1 23 15 &&& 160) ||| 64) ||| (Int32.ofNat i &&& 31))) ?_ (fun s1 f1 => ?_)
          · unfold fX9_markFifth fX9_markFifth_39
            exact zpc_ck (zpc_if (fun _ => zpc_ck (zpc_ck (zpc_bv (fun s1 f1 => zpc_some f1)))) (fun y => absurd z y))
          refine zp2_ckr (zp2_ifr (fun _ => zp2_ckr (zp2_ckr (zp2_bvr (fun t1 g1 => ?_)))) (fun y => absurd z y))
          obtain ⟨c, ec⟩ := z_byteF r15
          have n31 : Int32.ofNat i &&& 31 = Int32.ofNat i := v_n31 ⟨i, hi2⟩
          have k1 : s.1 23 15 &&& 160 = s.1 23 15 &&& 224 := by
            rw [ec] at z ⊢
            exact v_fif c z
          rw [n31, k1] at f1
          rw [f1, g1]
          refine t_114 (hS.st (zr_or (lo := 0) (hi := 255) 8 (zr_or (lo := 0) (hi := 255) 8 (zr_andr (lo := 0) (hi := 224) (zr_c (lo := 224) (hi := 224) (by decide)) (by decide)) (zr_c (lo := 64) (hi := 64) (x := 64) (by decide)) (by decide)) (z_ofr (b := 31) (by omega) (by omega)) (by decide)))
        · refine zp2_bul (P := fun r => r = s) ?_ (fun s1 f1 => ?_)
          · unfold fX9_markFifth fX9_markFifth_39
            exact zpc_ck (zpc_if (fun y => absurd y z) (fun _ => zpc_some rfl))
          rw [f1]
          exact zp2_ckr (zp2_ifr (fun y => absurd y z) (fun _ => t_114 hS))
theorem t_osprites (h : zVe σ μ) (hs : zdC σ s) (hd : zdM μ t) (hst : zStt s t) (h24 : ∀ j : Nat, j < 256 → t.1 24 j = 0 ∧ t.1 25 j = 0) {L : Int32} : zp2 (fX3_drawOldSprites s L) (fX12_oldSprites t L) (zOe σ μ s t) := by
  have f1 : t.1 3 48 = σ.1 23 1 := h.ej hd (j := 1) (by decide)
  have b0 := p_bit_1_0 (μ := t) (by rw [f1]; exact h.r1)
  have b1 := p_bit_1_1 (μ := t) (by rw [f1]; exact h.r1)
  rw [f1] at b0 b1
  unfold fX3_drawOldSprites fX12_oldSprites fJ7_fill_53178_k28
  refine zp2_bul (c_fill28 (σ := σ) (s0 := s) (v := 0) zfuel 0 s (by decide) hs rfl rfl rfl (fun j hj => absurd hj (by omega))) (fun s1 q => ?_)
  obtain ⟨q1, q2, q3, q4, q5⟩ := q
  have g5 : s1.1 23 (5 : Int32).toNatClampNeg = σ.1 23 5 := q1.r (j := 5) (by decide)
  refine zp2_bil (p_held (x := 5) (zr_c (by decide))) (fun s2 v2 e2 => zp2_bvl (fun tb etb => ?_))
  cases e2
  rw [g5] at etb
  subst etb
  have hS : zOi σ μ s t s1 t := by
    refine ⟨q1, hd, q2, q3, rfl, rfl, fun j hj => Or.inl ⟨q5 j hj, (h24 j hj).2, (h24 j hj).1⟩, ?_⟩
    unfold zStt
    rw [q4]
    exact hst
  have fin : ∀ y z : Int32, z = gZm (σ.1 23 1) → y = gHg (σ.1 23 1) → zp2 (fX3_drawOldSprites_29 zfuel s1 L (128 * (σ.1 23 5 &&& 127)) 0 0) (fX12_oldSprites_33 t L z y) (zOe σ μ s t) := fun y z ez ey => by
    unfold fX12_oldSprites_33
    rw [ez, ey]
    exact t_29 h zfuel zfuel 0 s1 t 0 (by decide) (zr_c (by decide)) hS
  have l15 : ∀ z : Int32, z = gZm (σ.1 23 1) → zp2 (fX3_drawOldSprites_29 zfuel s1 L (128 * (σ.1 23 5 &&& 127)) 0 0) (fX12_oldSprites_15 t L z) (zOe σ μ s t) := fun z ez => by
    unfold fX12_oldSprites_15
    refine zp2_bir b1 (fun t2 v2 e2 => ?_)
    cases e2
    by_cases q : σ.1 23 1 &&& 2 = 0
    · rw [if_pos q]
      exact zp2_ifr (fun z => absurd z (by decide)) (fun _ => fin 8 z ez (by unfold gHg; rw [if_pos q]))
    · rw [if_neg q]
      exact zp2_ifr (fun _ => fin 16 z ez (by unfold gHg; rw [if_neg q])) (fun z => absurd rfl z)
  refine zp2_bir b0 (fun t2 v2 e2 => ?_)
  cases e2
  by_cases q : σ.1 23 1 &&& 1 = 0
  · rw [if_pos q]
    exact zp2_ifr (fun z => absurd z (by decide)) (fun _ => l15 1 (by unfold gZm; rw [if_pos q]))
  · rw [if_neg q]
    exact zp2_ifr (fun _ => l15 2 (by unfold gZm; rw [if_neg q])) (fun z => absurd rfl z)
end ZTC
end ZJN8
section ZJN9
/-! THE PAINTER, 13: THE WHOLE LINE -/
section ZTD
variable {σ μ s t : zSt}
theorem c_fb {bk : Int32} {o : zSt} : ∀ (n i : Nat) (s : zSt), i ≤ 256 → zdC σ s → s.1 25 = o.1 25 → s.1 23 = o.1 23 → (∀ j : Nat, j < i → s.1 27 j = if o.1 27 j = 0 then bk else o.1 27 j) → (∀ j : Nat, i ≤ j → s.1 27 j = o.1 27 j) → zpc (fX3_fillBack_2 n s bk (Int32.ofNat i)) (fun r => zdC σ r ∧ r.1 25 = o.1 25 ∧ r.1 23 = o.1 23 ∧ ∀ j : Nat, j < 256 → r.1 27 j = if o.1 27 j = 0 then bk else o.1 27 j) := by
  intro n
  induction n with
  | zero => intro i s _ _ _ _ _ _; exact zpc_none
  | succ n ih =>
    intro i s hi hd e25 e23 hin hout
    show zpc (fX3_fillBack_2_body (fX3_fillBack_2 n) s bk (Int32.ofNat i)) _
    unfold fX3_fillBack_2_body fX3_fillBack_25
    refine zpc_if (fun q => zpc_some ?_) (fun q => ?_)
    · have := (z_ofL (k := 256) (by omega) rfl).mp q
      exact ⟨hd, e25, e23, fun j hj => hin j (by omega)⟩
    have hi2 : i < 256 := by
      have : ¬ 256 ≤ i := fun z => q ((z_ofL (c := 256) (k := 256) (i := i) (by omega) rfl).mpr z)
      omega
    rw [z_ofC (by omega), z_ofS (by omega)]
    have c27 : zgi s 27 i = o.1 27 i := hout i (by omega)
    rw [c27]
    refine zpc_ck (zpc_if (fun p => zpc_ck (zpc_bv (fun s1 g1 => zpc_bv (fun v ev => ?_)))) (fun p => zpc_bv (fun v ev => ?_)))
    · subst ev
      refine ih (i + 1) s1 (by omega) (by rw [g1]; exact zQ.wi hd rfl) (by rw [g1, zsi_ne (by decide)]; exact e25) (by rw [g1, zsi_ne (by decide)]; exact e23) (fun j hj => ?_) (fun j hj => by rw [g1, zsi_nj (by omega)]; exact hout j (by omega))
      by_cases z : j = i
      · rw [z, g1, zsi_ej, if_pos p]
      · rw [g1, zsi_nj z]; exact hin j (by omega)
    · subst ev
      refine ih (i + 1) s (by omega) hd e25 e23 (fun j hj => ?_) (fun j hj => hout j (by omega))
      by_cases z : j = i
      · rw [z, if_neg p]; exact hout i (by omega)
      · exact hin j (by omega)
/-- the class's dots of an old mode -/
theorem c_old (hs : zdC σ s) {m L : Int32} : zpc (fX3_drawOld s m L) (fun r => zdC σ r ∧ r.1 25 = s.1 25 ∧ r.1 23 = s.1 23 ∧ ∀ j : Nat, j < 256 → r.1 27 j = oDt σ m L j) := by
  have g2 : s.1 23 (2 : Int32).toNatClampNeg = σ.1 23 2 := hs.r (j := 2) (by decide)
  have g7 : s.1 23 (7 : Int32).toNatClampNeg = σ.1 23 7 := hs.r (j := 7) (by decide)
  unfold fX3_drawOld
  refine zpc_bi (p_held (x := 2) (zr_c (by decide))) (fun s1 v1 e1 => zpc_bv (fun v15 e15 => ?_))
  cases e1
  rw [g2] at e15
  have e15 : v15 = oNa σ := e15
  subst e15
  refine zpc_if (fun m1 => ?_) (fun m1 => ?_)
  · unfold fX3_drawText fJ7_fill_53178_k27
    refine zpc_bu (P := fun r => zdC σ r ∧ r.1 25 = s.1 25 ∧ r.1 23 = s.1 23 ∧ ∀ j : Nat, j < 256 → r.1 27 j = oTd σ L j) ?_ (fun r q => zpc_some ?_)
    · refine zpc_bi (p_held (x := 7) (zr_c (by decide))) (fun s1 v1 e1 => ?_)
      cases e1
      rw [g7]
      refine zpc_bu (c_fill27 (σ := σ) (o := s) (v := 0) zfuel 0 s (by decide) hs rfl rfl (fun j hj => absurd hj (by omega))) (fun s1 q => ?_)
      obtain ⟨q1, q2, q3, q4⟩ := q
      refine c_21 (σ := σ) (o := s) zfuel 0 s1 (by decide) q1 q2 q3 (fun j hj => ?_) (fun j h1 h2 => q4 j h2)
      rw [q4 j (by omega)]
      unfold oTd
      rw [if_neg (fun y => by omega)]
    · obtain ⟨q1, q2, q3, q4⟩ := q
      refine ⟨q1, q2, q3, fun j hj => ?_⟩
      rw [q4 j hj]
      unfold oDt
      rw [if_pos m1]
  · refine zpc_mono (c_31 (σ := σ) (o := s) zfuel 0 s (by decide) hs rfl rfl (fun j hj => absurd hj (by omega))) (fun r q => ?_)
    obtain ⟨q1, q2, q3, q4⟩ := q
    refine ⟨q1, q2, q3, fun j hj => ?_⟩
    rw [q4 j hj]
    unfold oDt
    rw [if_neg m1]
theorem zDr_all : zDr := fun s t h lt => by
  have r20 : zr 0 312 (s.1 23 20) := h.2.1.at (k := 23) (j := 20) rfl
  have hh := (zht_r (s.1 23 0) (s.1 23 1)).2
  have hL : zr 0 239 (s.1 23 20) := ⟨r20.1, by omega⟩
  rw [h.e20]
  refine zp2_mono (P := zFi s t) ?_ (fun r r' q => ⟨q.1, zQ.mono q.2.1 rfl rfl, q.2.2⟩)
  obtain ⟨L, eL⟩ : ∃ L, L = s.1 23 20 := ⟨_, rfl⟩
  have hs0 : zdC s s := zQ.rf
  have hd0 : zdM t t := zQ.rf
  have p20 := p_held (s := s) (x := 20) (zr_c (by decide))
  rw [show s.1 23 (20 : Int32).toNatClampNeg = L from eL.symm] at p20
  rw [← eL] at hL
  rw [← eL]
  unfold fX3_draw fX12_draws
  refine zp2_bil p20 (fun s1 v1 e1 => ?_)
  cases e1
  refine zp2_ifl (fun q => absurd q (zq_lt hL rfl (by decide))) (fun _ => zp2_ifl (fun _ => ?_) (fun q => absurd (zq_ltt hL rfl (by decide)) q))
  refine zp2_bil p_modeC (fun s1 v1 e1 => ?_)
  cases e1
  have pm := p_modeM (μ := t) (by rw [h.e0]; exact h.r0) (by rw [h.e1]; exact h.r1)
  rw [h.e0, h.e1] at pm
  refine zp2_bir pm (fun t1 v1 e1 => ?_)
  cases e1
  have f7 : t.1 3 (47 + (7 : Int32)).toNatClampNeg = s.1 23 7 := h.ej hd0 (j := 7) (by decide)
  have r7 := h.rj (j := 7) (by decide)
  obtain ⟨c, ec⟩ := z_byteF r7
  obtain ⟨b1, b2⟩ := v_bk c
  rw [← ec] at b1 b2
  have hst0 : zStt s t := ⟨h.e15, h.2.1.at (k := 23) (j := 15) rfl⟩
  have hp0 : ∀ j : Nat, j < 61440 → t.1 9 j = s.1 25 j := fun j hj => by
    have z := h.1.e (z_pn25_0 (d := j) hj)
    rw [Nat.zero_add] at z
    exact z
  -- one back colour
  have main : ∀ (b : Nat) (y z : Int32), b < 32 → (zmd (s.1 23 0) (s.1 23 1) = 4 ∨ b < 16) → y + (s.1 23 7 &&& 15) = Int32.ofNat b → z = Int32.ofNat b → zp2 (fX3_draw_41 s L (zmd (s.1 23 0) (s.1 23 1)) y) (fX12_draws_32 t L z) (zFi s t) := fun b y z hb hb2 ey ez => by
    unfold fX3_draw_41 fX12_draws_32
    refine zp2_bil (p_held (x := 7) (zr_c (by decide))) (fun s1 v1 e1 => zp2_bvl (fun v7 e7 => ?_))
    cases e1
    have e7 : v7 = Int32.ofNat b := by rw [e7]; exact ey
    refine zp2_bil (p_held (x := 1) (zr_c (by decide))) (fun s1 v1 e1 => ?_)
    cases e1
    rw [show s.1 23 (1 : Int32).toNatClampNeg = s.1 23 1 from rfl, e7, ez]
    refine m_35 (o := t) zfuel 0 t (by decide) hd0 rfl rfl (fun j hj => absurd hj (by omega)) (fun t1 hd1 e3 e9 hb4 => ?_)
    have f1 : t1.1 3 48 = s.1 23 1 := h.ej hd1 (j := 1) (by decide)
    have f0 : t1.1 3 47 = s.1 23 0 := h.ej hd1 (j := 0) (by decide)
    have b6 := p_bit_1_6 (μ := t1) (by rw [f1]; exact h.r1)
    rw [f1] at b6
    have pm1 := p_modeM (μ := t1) (by rw [f0]; exact h.r0) (by rw [f1]; exact h.r1)
    rw [f0, f1] at pm1
    have st1 : ∀ (r : zSt) (t2 : zSt), r.1 23 = s.1 23 → t2.1 3 = t1.1 3 → zStt r t2 := fun r t2 a c => by
      unfold zStt
      rw [a, c, e3]
      exact hst0
    have pp1 : ∀ (r : zSt) (t2 : zSt), r.1 25 = s.1 25 → t2.1 9 = t1.1 9 → ∀ j : Nat, j < 61440 → t2.1 9 j = r.1 25 j := fun r t2 a c j hj => by
      rw [a, c, e9]
      exact hp0 j hj
    have bk31 : Int32.ofNat b &&& 31 = Int32.ofNat b := v_31 ⟨b, hb⟩
    refine zp2_bir b6 (fun t2 v2 e2 => ?_)
    cases e2
    by_cases q : s.1 23 1 &&& 64 = 0
    · -- no picture
      refine zp2_ifl (fun _ => ?_) (fun z => absurd q z)
      rw [if_pos q]
      refine zp2_ifr (fun z => absurd z (by decide)) (fun _ => ?_)
      unfold fX12_draws_200 fX12_draws_300
      refine zp2_bir b6 (fun t2 v2 e2 => ?_)
      cases e2
      rw [if_pos q]
      refine zp2_ifr (fun z => absurd z (by decide)) (fun _ => ?_)
      unfold fJ7_fill_53178_k27
      refine zp2_bul (c_fill27 (σ := s) (o := s) zfuel 0 s (by decide) hs0 rfl rfl (fun j hj => absurd hj (by omega))) (fun s1 w => ?_)
      obtain ⟨w1, w2, w3, w4⟩ := w
      refine t_d144 h hL w1 hd1 (st1 s1 t1 w3 rfl) (pp1 s1 t1 w2 rfl) (fun j hj => ⟨b, hb, hb2, (hb4 j hj).1, ?_⟩)
      rw [w4 j hj]
      exact bk31
    refine zp2_ifl (fun z => absurd z q) (fun _ => ?_)
    rw [if_neg q]
    refine zp2_ifr (fun _ => ?_) (fun z => absurd rfl z)
    refine zp2_bir pm1 (fun t2 v2 e2 => ?_)
    cases e2
    by_cases m4 : zmd (s.1 23 0) (s.1 23 1) = 4
    · refine zp2_ifl (fun _ => zp2_ifr (fun _ => ?_) (fun z => absurd m4 z)) (fun z => absurd m4 z)
      exact t_mode4 h hL rfl hb m4 hs0 hd1 (st1 s t1 rfl rfl) (pp1 s t1 rfl rfl) (fun j hj => (hb4 j hj).2.2)
    · refine zp2_ifl (fun z => absurd z m4) (fun _ => zp2_ifr (fun z => absurd z m4) (fun _ => ?_))
      have hb16 : b < 16 := hb2.resolve_left m4
      unfold fX12_draws_200
      refine zp2_bir b6 (fun t2 v2 e2 => ?_)
      cases e2
      rw [if_neg q]
      refine zp2_ifr (fun _ => ?_) (fun z => absurd rfl z)
      refine zp2_bul (c_old (m := zmd (s.1 23 0) (s.1 23 1)) (L := L) hs0) (fun s1 w => ?_)
      obtain ⟨w1, w2, w3, w4⟩ := w
      refine m_213 h hL m4 (o := t1) zfuel 0 t1 (by decide) hd1 rfl rfl (fun j hj => (hb4 j hj).2.2) (fun j hj => absurd hj (by omega)) (fun t2 hd2 a3 a9 a24 a22 => ?_)
      have f0' : t2.1 3 47 = s.1 23 0 := h.ej hd2 (j := 0) (by decide)
      have f1' : t2.1 3 48 = s.1 23 1 := h.ej hd2 (j := 1) (by decide)
      have pm2 := p_modeM (μ := t2) (by rw [f0']; exact h.r0) (by rw [f1']; exact h.r1)
      rw [f0', f1'] at pm2
      refine zp2_bir pm2 (fun t3 v3 e3' => ?_)
      cases e3'
      unfold fX12_draws_264
      -- the end: sprites over the rest, the back colour where nothing is
      have tail : ∀ (r t3 : zSt), zdC s r → zdM t t3 → r.1 25 = s1.1 25 → t3.1 22 = t2.1 22 → t3.1 9 = t2.1 9 → zStt r t3 → (∀ j : Nat, j < 256 → zr 0 15 (t3.1 24 j) ∧ r.1 27 j = (if t3.1 24 j ≤ 0 then s1.1 27 j else t3.1 24 j)) → zp2 (fX3_draw_139 r L (zmd (s.1 23 0) (s.1 23 1)) (Int32.ofNat b)) (fX12_draws_266 zfuel t3 L 0) (zFi s t) := fun r t3 c1 c2 c3 c4 c5 c6 c7 => by
        unfold fX3_draw_139 fX3_fillBack
        refine zp2_bul (c_fb (σ := s) (o := r) zfuel 0 r (by decide) c1 rfl rfl (fun j hj => absurd hj (by omega)) (fun _ _ => rfl)) (fun r2 d => ?_)
        obtain ⟨d1, d2, d3, d4⟩ := d
        refine m_266 (μ := t) (o := t3) zfuel 0 t3 (by decide) c2 rfl rfl rfl (fun j hj => absurd hj (by omega)) (fun _ _ => rfl) (fun t4 hd4 g3 g9 g22 => ?_)
        refine t_d144 h hL d1 hd4 ?_ (fun j hj => ?_) (fun j hj => ?_)
        · unfold zStt
          rw [d3, g3]
          exact c6
        · rw [g9, c5, a9, d2, c3, w2, e9]
          exact hp0 j hj
        · obtain ⟨x1, x2⟩ := c7 j hj
          rw [g22 j hj, d4 j hj, x2, c4, a22 j hj, w4 j hj]
          have rD := oDt_r h (m := zmd (s.1 23 0) (s.1 23 1)) (L := L) (j := j)
          obtain ⟨e, ee⟩ := z_F (m := 16) rD (by decide)
          obtain ⟨g, eg⟩ := z_F (m := 16) x1 (by decide)
          have lift : ∀ i : Fin 16, Int32.ofNat i.val &&& 31 = Int32.ofNat i.val := fun i => v_31 ⟨i.val, by have := i.isLt; omega⟩
          by_cases n : t3.1 24 j ≤ 0
          · rw [if_pos n, if_pos n]
            by_cases p : oDt s (zmd (s.1 23 0) (s.1 23 1)) L j = 0
            · rw [if_pos p]
              exact ⟨b, hb, Or.inr hb16, rfl, bk31⟩
            · rw [if_neg p, ee]
              exact ⟨e.val, by have := e.isLt; omega, Or.inr e.isLt, rfl, lift e⟩
          · rw [if_neg n, if_neg n]
            have n0 : ¬ t3.1 24 j = 0 := fun z => n (by rw [z]; decide)
            rw [if_neg n0, eg]
            exact ⟨g.val, by have := g.isLt; omega, Or.inr g.isLt, rfl, lift g⟩
      by_cases m1 : zmd (s.1 23 0) (s.1 23 1) = 1
      · refine zp2_ifl (fun _ => zp2_ifr (fun _ => ?_) (fun z => absurd m1 z)) (fun z => absurd m1 z)
        refine tail s1 t2 w1 hd2 rfl rfl rfl (st1 s1 t2 w3 a3) (fun j hj => ?_)
        rw [(a24 j hj).1, if_pos (by decide)]
        exact ⟨zr_c (by decide), rfl⟩
      · refine zp2_ifl (fun z => absurd z m1) (fun _ => zp2_ifr (fun z => absurd z m1) (fun _ => ?_))
        refine zp2_buu (t_osprites h w1 hd2 (st1 s1 t2 w3 a3) a24) (fun r t3 q' => ?_)
        obtain ⟨y1, y2, y3, y4, y5, y6, y7⟩ := q'
        exact tail r t3 y1 y2 y3 y4 y5 y6 y7
  have cl := c.isLt
  by_cases m4 : zmd (s.1 23 0) (s.1 23 1) = 4
  · refine zp2_ifl (fun _ => zp2_ifr (fun _ => zp2_bir p_reg (fun t1 v1 e1 => zp2_ckr ?_)) (fun z => absurd m4 z)) (fun z => absurd m4 z)
    cases e1
    rw [f7, b2]
    have k16 := (v_16p ⟨c.val % 16, by omega⟩).1
    exact main (16 + c.val % 16) 16 _ (by omega) (Or.inl m4) (by rw [b1]; exact k16) k16
  · refine zp2_ifl (fun z => absurd z m4) (fun _ => zp2_ifr (fun z => absurd z m4) (fun _ => zp2_bir p_reg (fun t1 v1 e1 => zp2_ckr ?_)))
    cases e1
    rw [f7, b2]
    exact main (c.val % 16) 0 _ (by omega) (Or.inr (by omega)) (by rw [b1]; exact (v_16p ⟨c.val % 16, by omega⟩).2) rfl
theorem zLe_all : zLe := zLe_of zDr_all
end ZTD
end ZJN9
