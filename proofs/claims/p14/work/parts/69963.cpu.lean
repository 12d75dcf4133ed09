/-! THE PAINTER, 4: LOOPS OVER A LINE -/
section ZT4
variable {σ μ s t : zSt} {O : Option zSt} {Q : zSt → zSt → Prop}
theorem z_of0 : Int32.ofNat 0 = 0 := rfl
/-- the reference: a line made empty -/
theorem m_35 {L bk : Int32} {o : zSt} : ∀ (n i : Nat) (t : zSt), i ≤ 256 → zdM μ t → t.1 3 = o.1 3 → t.1 9 = o.1 9 → (∀ j : Nat, j < i → t.1 22 j = bk ∧ t.1 23 j = 0 ∧ t.1 24 j = 0 ∧ t.1 25 j = 0) → (∀ t : zSt, zdM μ t → t.1 3 = o.1 3 → t.1 9 = o.1 9 → (∀ j : Nat, j < 256 → t.1 22 j = bk ∧ t.1 23 j = 0 ∧ t.1 24 j = 0 ∧ t.1 25 j = 0) → zp2 O (zbi (fX12_bit t 1 6) (fun σ25 v26 => if v26 = 1 then zbi (fX12_mode σ25 ) (fun σ27 v28 => if v28 = 4 then fX12_draws_97 zfuel σ27 L bk 0 else fX12_draws_200 σ27 L bk) else fX12_draws_200 σ25 L bk)) Q) → zp2 O (fX12_draws_35 n t L bk (Int32.ofNat i)) Q := by
  intro n
  induction n with
  | zero => intro i t _ _ _ _ _ _; exact zp2_nr
  | succ n ih =>
    intro i t hi hd e3 e9 hin k
    show zp2 O (fX12_draws_35_body (fX12_draws_35 n) t L bk (Int32.ofNat i)) Q
    unfold fX12_draws_35_body
    refine zp2_ifr (fun q => ?_) (fun q => ?_)
    · have := (z_ofL (k := 256) (by omega) rfl).mp q
      exact k t hd e3 e9 (fun j hj => hin j (by omega))
    have hi2 : i < 256 := by
      have : ¬ 256 ≤ i := fun z => q ((z_ofL (c := 256) (k := 256) (i := i) (by omega) rfl).mpr z)
      omega
    rw [z_ofC (by omega), z_ofS (by omega)]
    refine zp2_ckr (zp2_bvr (fun t1 g1 => zp2_ckr (zp2_bvr (fun t2 g2 => zp2_ckr (zp2_bvr (fun t3 g3 => zp2_ckr (zp2_bvr (fun t4 g4 => zp2_bvr (fun v ev => ?_)))))))))
    subst ev
    have g4 : t4 = zsi (zsi (zsi (zsi t 22 i bk) 23 i 0) 24 i 0) 25 i 0 := by rw [g4, g3, g2, g1]; rfl
    refine ih (i + 1) t4 (by omega) (by rw [g4]; exact zQ.wi (zQ.wi (zQ.wi (zQ.wi hd rfl) rfl) rfl) rfl) (by rw [g4, zsi_ne (by decide), zsi_ne (by decide), zsi_ne (by decide), zsi_ne (by decide)]; exact e3) (by rw [g4, zsi_ne (by decide), zsi_ne (by decide), zsi_ne (by decide), zsi_ne (by decide)]; exact e9) (fun j hj => ?_) k
    have c22 : t4.1 22 j = (zsi t 22 i bk).1 22 j := by rw [g4, zsi_ne (by decide), zsi_ne (by decide), zsi_ne (by decide)]
    have c23 : t4.1 23 j = (zsi (zsi t 22 i bk) 23 i 0).1 23 j := by rw [g4, zsi_ne (by decide), zsi_ne (by decide)]
    have c24 : t4.1 24 j = (zsi (zsi (zsi t 22 i bk) 23 i 0) 24 i 0).1 24 j := by rw [g4, zsi_ne (by decide)]
    have c25 : t4.1 25 j = (zsi (zsi (zsi (zsi t 22 i bk) 23 i 0) 24 i 0) 25 i 0).1 25 j := by rw [g4]
    rw [c22, c23, c24, c25]
    by_cases z : j = i
    · rw [z, zsi_ej, zsi_ej, zsi_ej, zsi_ej]
      exact ⟨rfl, rfl, rfl, rfl⟩
    · rw [zsi_nj z, zsi_nj z, zsi_nj z, zsi_nj z, zsi_ne (by decide), zsi_ne (by decide), zsi_ne (by decide), zsi_ne (by decide), zsi_ne (by decide), zsi_ne (by decide)]
      exact hin j (by omega)
/-- the reference: a line's tiles -/
theorem m_97 (h : zVe σ μ) {L bk : Int32} {o : zSt} (hL : zr 0 239 L) : ∀ (n i : Nat) (t : zSt), i ≤ 256 → zdM μ t → t.1 3 = o.1 3 → t.1 9 = o.1 9 → (∀ j : Nat, j < 256 → t.1 24 j = 0 ∧ t.1 25 j = 0) → (∀ j : Nat, j < i → t.1 22 j = tNu σ (tNm σ) (tAc σ L) (tSt σ) (tDn σ L) L (Int32.ofNat j) + o16 (tBi σ (tNm σ) (tAc σ L) (tSt σ) (tDn σ L) L (Int32.ofNat j)) ∧ t.1 23 j = oAh (tNu σ (tNm σ) (tAc σ L) (tSt σ) (tDn σ L) L (Int32.ofNat j)) (tBi σ (tNm σ) (tAc σ L) (tSt σ) (tDn σ L) L (Int32.ofNat j))) → (∀ t : zSt, zdM μ t → t.1 3 = o.1 3 → t.1 9 = o.1 9 → (∀ j : Nat, j < 256 → t.1 24 j = 0 ∧ t.1 25 j = 0) → (∀ j : Nat, j < 256 → t.1 22 j = tNu σ (tNm σ) (tAc σ L) (tSt σ) (tDn σ L) L (Int32.ofNat j) + o16 (tBi σ (tNm σ) (tAc σ L) (tSt σ) (tDn σ L) L (Int32.ofNat j)) ∧ t.1 23 j = oAh (tNu σ (tNm σ) (tAc σ L) (tSt σ) (tDn σ L) L (Int32.ofNat j)) (tBi σ (tNm σ) (tAc σ L) (tSt σ) (tDn σ L) L (Int32.ofNat j))) → zp2 O (zbu (fX12_sprites t L) (fun σ22 => fX12_draws_123 zfuel σ22 L bk 0)) Q) → zp2 O (fX12_draws_97 n t L bk (Int32.ofNat i)) Q := by
  intro n
  induction n with
  | zero => intro i t _ _ _ _ _ _ _; exact zp2_nr
  | succ n ih =>
    intro i t hi hd e3 e9 h0 hin k
    show zp2 O (fX12_draws_97_body (fX12_draws_97 n) t L bk (Int32.ofNat i)) Q
    unfold fX12_draws_97_body
    refine zp2_ifr (fun q => ?_) (fun q => ?_)
    · have := (z_ofL (k := 256) (by omega) rfl).mp q
      exact k t hd e3 e9 h0 (fun j hj => hin j (by omega))
    have hi2 : i < 256 := by
      have : ¬ 256 ≤ i := fun z => q ((z_ofL (c := 256) (k := 256) (i := i) (by omega) rfl).mpr z)
      omega
    refine zp2_bur (m_tile h hd hL) (fun t1 g1 => zp2_bvr (fun v ev => ?_))
    rw [z_ofS (by omega)] at ev
    subst ev
    rw [z_ofC (by omega)] at g1
    refine ih (i + 1) t1 (by omega) (by rw [g1]; exact zQ.wi (zQ.wi hd rfl) rfl) (by rw [g1, zsi_ne (by decide), zsi_ne (by decide)]; exact e3) (by rw [g1, zsi_ne (by decide), zsi_ne (by decide)]; exact e9) (fun j hj => by rw [g1, zsi_ne (by decide), zsi_ne (by decide), zsi_ne (by decide), zsi_ne (by decide)]; exact h0 j hj) (fun j hj => ?_) k
    rw [g1, zsi_ne (k1 := 22) (by decide), zsi_at, zsi_at, zsi_ne (k1 := 23) (by decide)]
    by_cases z : j = i
    · rw [if_pos ⟨rfl, z⟩, if_pos ⟨rfl, z⟩, z]
      exact ⟨rfl, rfl⟩
    · rw [if_neg (fun y => z y.2), if_neg (fun y => z y.2)]
      exact hin j (by omega)
/-- the reference: sprites over tiles -/
theorem m_123 {L bk : Int32} {o : zSt} : ∀ (n i : Nat) (t : zSt), i ≤ 256 → zdM μ t → t.1 23 = o.1 23 → t.1 24 = o.1 24 → t.1 3 = o.1 3 → t.1 9 = o.1 9 → (∀ j : Nat, j < i → t.1 22 j = if o.1 24 j ≤ 0 then o.1 22 j else if o.1 23 j = 0 then o.1 24 j else o.1 22 j) → (∀ j : Nat, i ≤ j → t.1 22 j = o.1 22 j) → (∀ t : zSt, zdM μ t → t.1 3 = o.1 3 → t.1 9 = o.1 9 → (∀ j : Nat, j < 256 → t.1 22 j = if o.1 24 j ≤ 0 then o.1 22 j else if o.1 23 j = 0 then o.1 24 j else o.1 22 j) → zp2 O (fX12_draws_168 zfuel t L bk 0) Q) → zp2 O (fX12_draws_123 n t L bk (Int32.ofNat i)) Q := by
  intro n
  induction n with
  | zero => intro i t _ _ _ _ _ _ _ _ _; exact zp2_nr
  | succ n ih =>
    intro i t hi hd e23 e24 e3 e9 hin hout k
    show zp2 O (fX12_draws_123_body (fX12_draws_123 n) t L bk (Int32.ofNat i)) Q
    unfold fX12_draws_123_body fX12_draws_160
    refine zp2_ifr (fun q => ?_) (fun q => ?_)
    · have := (z_ofL (k := 256) (by omega) rfl).mp q
      exact k t hd e3 e9 (fun j hj => hin j (by omega))
    have hi2 : i < 256 := by
      have : ¬ 256 ≤ i := fun z => q ((z_ofL (c := 256) (k := 256) (i := i) (by omega) rfl).mpr z)
      omega
    rw [z_ofC (by omega), z_ofS (by omega)]
    have c24 : zgi t 24 i = o.1 24 i := by show t.1 24 i = _; rw [e24]
    have c23 : zgi t 23 i = o.1 23 i := by show t.1 23 i = _; rw [e23]
    rw [c24, c23]
    have stay : t.1 22 i = (if o.1 24 i ≤ 0 then o.1 22 i else if o.1 23 i = 0 then o.1 24 i else o.1 22 i) → zp2 O (zbv (Int32.ofNat (i + 1)) (fun v16 => fX12_draws_123 n t L bk v16)) Q := fun y => zp2_bvr (fun v ev => by
      subst ev
      refine ih (i + 1) t (by omega) hd e23 e24 e3 e9 (fun j hj => ?_) (fun j hj => hout j (by omega)) k
      by_cases z : j = i
      · rw [z]; exact y
      · exact hin j (by omega))
    refine zp2_ckr (zp2_ifr (fun p => stay (by rw [if_pos p]; exact hout i (by omega))) (fun p => zp2_ckr (zp2_ifr (fun p2 => zp2_ckr (zp2_ckr (zp2_bvr (fun t1 g1 => zp2_bvr (fun v ev => ?_))))) (fun p2 => stay (by rw [if_neg p, if_neg p2]; exact hout i (by omega))))))
    subst ev
    refine ih (i + 1) t1 (by omega) (by rw [g1]; exact zQ.wi hd rfl) (by rw [g1, zsi_ne (by decide)]; exact e23) (by rw [g1, zsi_ne (by decide)]; exact e24) (by rw [g1, zsi_ne (by decide)]; exact e3) (by rw [g1, zsi_ne (by decide)]; exact e9) (fun j hj => ?_) (fun j hj => by rw [g1, zsi_nj (by omega)]; exact hout j (by omega)) k
    by_cases z : j = i
    · rw [z, g1, zsi_ej, if_neg p, if_pos p2]
    · rw [g1, zsi_nj z]
      exact hin j (by omega)
/-- the reference: the left column -/
theorem m_168 (h : zVe σ μ) {L bk : Int32} {o : zSt} : ∀ (n i : Nat) (t : zSt), i ≤ 8 → zdM μ t → t.1 3 = o.1 3 → t.1 9 = o.1 9 → (i = 0 ∨ ¬ σ.1 23 0 &&& 32 = 0) → (∀ j : Nat, j < i → t.1 22 j = bk) → (∀ j : Nat, i ≤ j → t.1 22 j = o.1 22 j) → (∀ t : zSt, zdM μ t → t.1 3 = o.1 3 → t.1 9 = o.1 9 → (∀ j : Nat, j < 256 → t.1 22 j = if j < 8 ∧ ¬ σ.1 23 0 &&& 32 = 0 then bk else o.1 22 j) → zp2 O (fX12_draws_302 zfuel t L 0) Q) → zp2 O (fX12_draws_168 n t L bk (Int32.ofNat i)) Q := by
  intro n
  induction n with
  | zero => intro i t _ _ _ _ _ _ _ _; exact zp2_nr
  | succ n ih =>
    intro i t hi hd e3 e9 hb hin hout k
    show zp2 O (fX12_draws_168_body (fX12_draws_168 n) t L bk (Int32.ofNat i)) Q
    unfold fX12_draws_168_body fX12_draws_197 fX12_draws_300
    refine zp2_ifr (fun q => ?_) (fun q => ?_)
    · have := (z_ofL (k := 8) (by omega) rfl).mp q
      refine k t hd e3 e9 (fun j hj => ?_)
      by_cases z : j < 8
      · rw [if_pos ⟨z, hb.resolve_left (by omega)⟩]; exact hin j (by omega)
      · rw [if_neg (fun y => z y.1)]; exact hout j (by omega)
    have hi2 : i < 8 := by
      have : ¬ 8 ≤ i := fun z => q ((z_ofL (c := 8) (k := 8) (i := i) (by omega) rfl).mpr z)
      omega
    have f0 : t.1 3 47 = σ.1 23 0 := h.ej hd (j := 0) (by decide)
    have b5 := p_bit_0_5 (μ := t) (by rw [f0]; exact h.r0)
    rw [f0] at b5
    refine zp2_bir b5 (fun t0 v0 e0 => ?_)
    cases e0
    by_cases p : σ.1 23 0 &&& 32 = 0
    · rw [if_pos p]
      refine zp2_ifr (fun z => absurd z (by decide)) (fun _ => k t hd e3 e9 (fun j hj => ?_))
      rw [if_neg (fun y => y.2 p)]
      exact hout j (by rcases hb with z | z; omega; exact absurd p z)
    · rw [if_neg p]
      refine zp2_ifr (fun _ => ?_) (fun z => absurd rfl z)
      rw [z_ofC (by omega), z_ofS (by omega)]
      refine zp2_ckr (zp2_bvr (fun t1 g1 => zp2_bvr (fun v ev => ?_)))
      subst ev
      refine ih (i + 1) t1 (by omega) (by rw [g1]; exact zQ.wi hd rfl) (by rw [g1, zsi_ne (by decide)]; exact e3) (by rw [g1, zsi_ne (by decide)]; exact e9) (Or.inr p) (fun j hj => ?_) (fun j hj => by rw [g1, zsi_nj (by omega)]; exact hout j (by omega)) k
      by_cases z : j = i
      · rw [z, g1, zsi_ej]
      · rw [g1, zsi_nj z]
        exact hin j (by omega)
/-- the reference: sprites of the old modes -/
theorem m_266 {L : Int32} {o : zSt} : ∀ (n i : Nat) (t : zSt), i ≤ 256 → zdM μ t → t.1 24 = o.1 24 → t.1 3 = o.1 3 → t.1 9 = o.1 9 → (∀ j : Nat, j < i → t.1 22 j = if o.1 24 j ≤ 0 then o.1 22 j else o.1 24 j) → (∀ j : Nat, i ≤ j → t.1 22 j = o.1 22 j) → (∀ t : zSt, zdM μ t → t.1 3 = o.1 3 → t.1 9 = o.1 9 → (∀ j : Nat, j < 256 → t.1 22 j = if o.1 24 j ≤ 0 then o.1 22 j else o.1 24 j) → zp2 O (fX12_draws_302 zfuel t L 0) Q) → zp2 O (fX12_draws_266 n t L (Int32.ofNat i)) Q := by
  intro n
  induction n with
  | zero => intro i t _ _ _ _ _ _ _ _; exact zp2_nr
  | succ n ih =>
    intro i t hi hd e24 e3 e9 hin hout k
    show zp2 O (fX12_draws_266_body (fX12_draws_266 n) t L (Int32.ofNat i)) Q
    unfold fX12_draws_266_body fX12_draws_294 fX12_draws_300
    refine zp2_ifr (fun q => ?_) (fun q => ?_)
    · have := (z_ofL (k := 256) (by omega) rfl).mp q
      exact k t hd e3 e9 (fun j hj => hin j (by omega))
    have hi2 : i < 256 := by
      have : ¬ 256 ≤ i := fun z => q ((z_ofL (c := 256) (k := 256) (i := i) (by omega) rfl).mpr z)
      omega
    rw [z_ofC (by omega), z_ofS (by omega)]
    have c24 : zgi t 24 i = o.1 24 i := by show t.1 24 i = _; rw [e24]
    rw [c24]
    refine zp2_ckr (zp2_ifr (fun p => zp2_bvr (fun v ev => ?_)) (fun p => zp2_ckr (zp2_ckr (zp2_bvr (fun t1 g1 => zp2_bvr (fun v ev => ?_))))))
    · subst ev
      refine ih (i + 1) t (by omega) hd e24 e3 e9 (fun j hj => ?_) (fun j hj => hout j (by omega)) k
      by_cases z : j = i
      · rw [z, if_pos p]; exact hout i (by omega)
      · exact hin j (by omega)
    · subst ev
      refine ih (i + 1) t1 (by omega) (by rw [g1]; exact zQ.wi hd rfl) (by rw [g1, zsi_ne (by decide)]; exact e24) (by rw [g1, zsi_ne (by decide)]; exact e3) (by rw [g1, zsi_ne (by decide)]; exact e9) (fun j hj => ?_) (fun j hj => by rw [g1, zsi_nj (by omega)]; exact hout j (by omega)) k
      by_cases z : j = i
      · rw [z, g1, zsi_ej, if_neg p]
      · rw [g1, zsi_nj z]
        exact hin j (by omega)
/-! the class's loops -/
theorem c_147 {o : zSt} : ∀ (n i : Nat) (s : zSt), i ≤ 256 → zdC σ s → s.1 28 = o.1 28 → s.1 23 = o.1 23 → s.1 25 = o.1 25 → (∀ j : Nat, j < i → s.1 27 j = if o.1 28 j ≤ 0 then o.1 27 j else if o.1 27 j &&& 256 = 0 then 16 + o.1 28 j else o.1 27 j) → (∀ j : Nat, i ≤ j → s.1 27 j = o.1 27 j) → zpc (fX3_drawSprites_147 n s (Int32.ofNat i)) (fun r => zdC σ r ∧ r.1 23 = o.1 23 ∧ r.1 25 = o.1 25 ∧ ∀ j : Nat, j < 256 → r.1 27 j = if o.1 28 j ≤ 0 then o.1 27 j else if o.1 27 j &&& 256 = 0 then 16 + o.1 28 j else o.1 27 j) := by
  intro n
  induction n with
  | zero => intro i s _ _ _ _ _ _ _; exact zpc_none
  | succ n ih =>
    intro i s hi hd e28 e23 e25 hin hout
    show zpc (fX3_drawSprites_147_body (fX3_drawSprites_147 n) s (Int32.ofNat i)) _
    unfold fX3_drawSprites_147_body fX3_drawSprites_196
    refine zpc_if (fun q => zpc_some ?_) (fun q => ?_)
    · have := (z_ofL (k := 256) (by omega) rfl).mp q
      exact ⟨hd, e23, e25, fun j hj => hin j (by omega)⟩
    have hi2 : i < 256 := by
      have : ¬ 256 ≤ i := fun z => q ((z_ofL (c := 256) (k := 256) (i := i) (by omega) rfl).mpr z)
      omega
    rw [z_ofC (by omega), z_ofS (by omega)]
    have c28 : zgi s 28 i = o.1 28 i := by show s.1 28 i = _; rw [e28]
    have c27 : zgi s 27 i = o.1 27 i := hout i (by omega)
    rw [c28, c27]
    have stay : o.1 27 i = (if o.1 28 i ≤ 0 then o.1 27 i else if o.1 27 i &&& 256 = 0 then 16 + o.1 28 i else o.1 27 i) → zpc (zbv (Int32.ofNat (i + 1)) (fun v1 => fX3_drawSprites_147 n s v1)) (fun r => zdC σ r ∧ r.1 23 = o.1 23 ∧ r.1 25 = o.1 25 ∧ ∀ j : Nat, j < 256 → r.1 27 j = if o.1 28 j ≤ 0 then o.1 27 j else if o.1 27 j &&& 256 = 0 then 16 + o.1 28 j else o.1 27 j) := fun y => zpc_bv (fun v ev => by
      subst ev
      refine ih (i + 1) s (by omega) hd e28 e23 e25 (fun j hj => ?_) (fun j hj => hout j (by omega))
      by_cases z : j = i
      · rw [z, hout i (by omega)]; exact y
      · exact hin j (by omega))
    refine zpc_ck (zpc_if (fun p => stay (by rw [if_pos p])) (fun p => zpc_ck (zpc_if (fun p2 => zpc_ck (zpc_ck (zpc_bv (fun s1 g1 => zpc_bv (fun v ev => ?_))))) (fun p2 => stay (by rw [if_neg p, if_neg p2])))))
    subst ev
    refine ih (i + 1) s1 (by omega) (by rw [g1]; exact zQ.wi hd rfl) (by rw [g1, zsi_ne (by decide)]; exact e28) (by rw [g1, zsi_ne (by decide)]; exact e23) (by rw [g1, zsi_ne (by decide)]; exact e25) (fun j hj => ?_) (fun j hj => by rw [g1, zsi_nj (by omega)]; exact hout j (by omega))
    by_cases z : j = i
    · rw [z, g1, zsi_ej, if_neg p, if_pos p2]
    · rw [g1, zsi_nj z]
      exact hin j (by omega)
end ZT4
