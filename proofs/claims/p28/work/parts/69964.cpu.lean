section ZJN0
/-! THE PAINTER, 5: SPRITES -/
theorem zp2_ubi {o : Option (zSt × Int32)} {f : zSt → Int32 → Option zSt} {C0 : zSt → Option zSt} {p : Option zSt} {Q : zSt → zSt → Prop} {s : zSt} {v : Int32} (h : zpc o (fun r => r = (s, v))) (k : zp2 (zbu (f s v) C0) p Q) : zp2 (zbu (zbi o f) C0) p Q := by
  cases e : o with
  | none => exact zp2_nl
  | some r =>
    have z := h r e
    subst z
    exact k
theorem zp2_ubu {o : Option zSt} {f : zSt → Option zSt} {C0 : zSt → Option zSt} {p : Option zSt} {Q : zSt → zSt → Prop} {P : zSt → Prop} (h : zpc o P) (k : ∀ s, P s → zp2 (zbu (f s) C0) p Q) : zp2 (zbu (zbu o f) C0) p Q := by
  cases e : o with
  | none => exact zp2_nl
  | some r => exact k r (h r e)
section ZT5
variable {σ μ s t s0 t0 : zSt}
theorem c_fill28 {v : Int32} : ∀ (n i : Nat) (s : zSt), i ≤ 256 → zdC σ s → s.1 27 = s0.1 27 → s.1 25 = s0.1 25 → s.1 23 = s0.1 23 → (∀ j : Nat, j < i → s.1 28 j = v) → zpc (fJ7_fill_53178_k28_5 n s v (Int32.ofNat i) 256) (fun r => zdC σ r ∧ r.1 27 = s0.1 27 ∧ r.1 25 = s0.1 25 ∧ r.1 23 = s0.1 23 ∧ ∀ j : Nat, j < 256 → r.1 28 j = v) := by
  intro n
  induction n with
  | zero => intro i s _ _ _ _ _ _; exact zpc_none
  | succ n ih =>
    intro i s hi hd e27 e25 e23 hin
    show zpc (fJ7_fill_53178_k28_5_body (fJ7_fill_53178_k28_5 n) s v (Int32.ofNat i) 256) _
    unfold fJ7_fill_53178_k28_5_body
    refine zpc_if (fun q => zpc_some ?_) (fun q => ?_)
    · have := (z_ofL (k := 256) (by omega) rfl).mp q
      exact ⟨hd, e27, e25, e23, fun j hj => hin j (by omega)⟩
    have hi2 : i < 256 := by
      have : ¬ 256 ≤ i := fun z => q ((z_ofL (c := 256) (k := 256) (i := i) (by omega) rfl).mpr z)
      omega
    rw [z_ofC (by omega), z_ofS (by omega)]
    refine zpc_ck (zpc_bv (fun s1 g1 => zpc_bv (fun x ex => ?_)))
    subst ex
    refine ih (i + 1) s1 (by omega) (by rw [g1]; exact zQ.wi hd rfl) (by rw [g1, zsi_ne (by decide)]; exact e27) (by rw [g1, zsi_ne (by decide)]; exact e25) (by rw [g1, zsi_ne (by decide)]; exact e23) (fun j hj => ?_)
    by_cases z : j = i
    · rw [z, g1, zsi_ej]
    · rw [g1, zsi_nj z]; exact hin j (by omega)
noncomputable def zSr (s t : zSt) : Prop := ∀ j : Nat, j < 256 → zr 0 15 (s.1 28 j) ∧ t.1 24 j = (if s.1 28 j ≤ 0 then 0 else 16 + s.1 28 j)
noncomputable def zStt (s t : zSt) : Prop := t.1 3 62 = s.1 23 15 ∧ zr 0 255 (s.1 23 15)
noncomputable def zSi (σ μ s0 t0 s t : zSt) : Prop := zdC σ s ∧ zdM μ t ∧ s.1 27 = s0.1 27 ∧ s.1 25 = s0.1 25 ∧ t.1 22 = t0.1 22 ∧ t.1 23 = t0.1 23 ∧ t.1 9 = t0.1 9 ∧ zSr s t ∧ zStt s t
/-- the painter's own cells 7 and 8 -/
theorem zSi.pl (h : zSi σ μ s0 t0 s t) {v : Int32} : zSi σ μ s0 t0 (zsi s 3 7 v) t := by
  obtain ⟨h1, h2, h3, h4, h5, h6, h7, h8, h9⟩ := h
  exact ⟨zQ.wi h1 rfl, h2, by rw [zsi_ne (by decide)]; exact h3, by rw [zsi_ne (by decide)]; exact h4, h5, h6, h7, fun j hj => by rw [zsi_ne (by decide)]; exact h8 j hj, h9⟩
/-- a status bit -/
theorem zSi.st (h : zSi σ μ s0 t0 s t) {v : Int32} (hv : zr 0 255 v) : zSi σ μ s0 t0 (zsi s 23 15 v) (zsi t 3 62 v) := by
  obtain ⟨h1, h2, h3, h4, h5, h6, h7, h8, h9⟩ := h
  refine ⟨zQ.wi h1 rfl, zQ.wi h2 rfl, by rw [zsi_ne (by decide)]; exact h3, by rw [zsi_ne (by decide)]; exact h4, by rw [zsi_ne (by decide)]; exact h5, by rw [zsi_ne (by decide)]; exact h6, by rw [zsi_ne (by decide)]; exact h7, fun j hj => by rw [zsi_ne (by decide), zsi_ne (by decide)]; exact h8 j hj, ?_, ?_⟩
  · rw [zsi_ej, zsi_ej]
  · rw [zsi_ej]; exact hv
/-- a dot of a sprite -/
theorem zSi.dot (h : zSi σ μ s0 t0 s t) {j : Nat} {N : Int32} (hN : zr 1 15 N) : zSi σ μ s0 t0 (zsi s 28 j N) (zsi t 24 j (16 + N)) := by
  obtain ⟨h1, h2, h3, h4, h5, h6, h7, h8, h9⟩ := h
  refine ⟨zQ.wi h1 rfl, zQ.wi h2 rfl, by rw [zsi_ne (by decide)]; exact h3, by rw [zsi_ne (by decide)]; exact h4, by rw [zsi_ne (by decide)]; exact h5, by rw [zsi_ne (by decide)]; exact h6, by rw [zsi_ne (by decide)]; exact h7, fun i hi => ?_, ?_⟩
  · by_cases z : i = j
    · rw [z, zsi_ej, zsi_ej]
      refine ⟨zr_w hN (by decide), ?_⟩
      rw [if_neg (zq_lef hN rfl (by decide))]
    · rw [zsi_nj z, zsi_nj z]
      exact h8 i hi
  · unfold zStt
    rw [zsi_ne (by decide), zsi_ne (by decide)]
    exact h9
theorem zSi.dot0 (h : zSi σ μ s0 t0 s t) {j : Nat} (hj : j < 256) : t.1 24 j ≤ 0 ↔ s.1 28 j ≤ 0 := by
  obtain ⟨r, e⟩ := h.2.2.2.2.2.2.2.1 j hj
  rw [e]
  by_cases q : s.1 28 j ≤ 0
  · rw [if_pos q]
    exact ⟨fun _ => q, fun _ => by decide⟩
  · rw [if_neg q]
    refine ⟨fun z => absurd z ?_, fun z => absurd z q⟩
    exact zq_lef (zr_add (lo := 16) (hi := 31) (zr_c (lo := 16) (hi := 16) (x := 16) (by decide)) r (by decide)) rfl (by decide)
theorem v_tw0 : ∀ i : Fin 16, Int32.ofNat i.val >>> ((0 : Int32) &&& 31) = Int32.ofNat i.val / 1 := by decide +kernel
theorem v_tw1 : ∀ i : Fin 16, Int32.ofNat i.val >>> ((1 : Int32) &&& 31) = Int32.ofNat i.val / 2 ∧ 0 ≤ (Int32.ofNat i.val / 2).toInt ∧ (Int32.ofNat i.val / 2).toInt ≤ 7 := by decide +kernel
theorem v_tw2 : ∀ i : Fin 8, 0 ≤ (Int32.ofNat i.val / 1).toInt ∧ (Int32.ofNat i.val / 1).toInt ≤ 7 := by decide +kernel
/-- zoom: the class's shift, the reference's factor -/
noncomputable def zZm (tw zm : Int32) : Prop := (tw = 0 ∧ zm = 1) ∨ (tw = 1 ∧ zm = 2)
theorem zZm.w {tw zm : Int32} (h : zZm tw zm) : 8 <<< (tw &&& 31) = 8 * zm ∧ zr 8 16 (8 * zm) ∧ ¬ zm = 0 := by
  rcases h with ⟨a, b⟩ | ⟨a, b⟩ <;> subst a <;> subst b
  · exact ⟨by decide, zr_c (by decide), by decide⟩
  · exact ⟨by decide, zr_c (by decide), by decide⟩
theorem zZm.p {tw zm : Int32} (h : zZm tw zm) {i : Nat} (hi : ¬ 8 * zm ≤ Int32.ofNat i) (h16 : i < 100000) : Int32.ofNat i >>> (tw &&& 31) = Int32.ofNat i / zm ∧ zr 0 7 (Int32.ofNat i / zm) ∧ i < 16 := by
  have hi' : (Int32.ofNat i).toInt < (8 * zm).toInt := Int32.lt_iff_toInt_lt.mp (z_nle hi)
  rw [z_ofI h16] at hi'
  rcases h with ⟨a, b⟩ | ⟨a, b⟩ <;> subst a <;> subst b
  · rw [show (8 * (1 : Int32)).toInt = 8 from rfl] at hi'
    exact ⟨v_tw0 ⟨i, by omega⟩, v_tw2 ⟨i, by omega⟩, by omega⟩
  · rw [show (8 * (2 : Int32)).toInt = 16 from rfl] at hi'
    exact ⟨(v_tw1 ⟨i, by omega⟩).1, (v_tw1 ⟨i, by omega⟩).2, by omega⟩
theorem z_le0e {N : Int32} (h : zr 0 15 N) : N ≤ 0 ↔ N = 0 := by
  rw [Int32.le_iff_toInt_le, ← Int32.toInt_inj, show (0 : Int32).toInt = 0 from rfl]
  have := h.1
  omega
noncomputable abbrev zK8 := zSt → Int32 → Int32 → Int32 → Int32 → Int32 → Int32 → Int32 → Option zSt
/-- a sprite's dots, both sides -/
theorem t_111 (h : zVe σ μ) {C0 : zSt → Option zSt} {Q : zSt → zSt → Prop} {k73 : zK8} {L tb zm hg f e nn rw_ ti le tw A : Int32} (hz : zZm tw zm) (hA : A = (32 * ti) + (4 * (zrem (rw_ / zm) 8))) (k : ∀ s t, zSi σ μ s0 t0 s t → zp2 (C0 s) (fX12_sprites_349 k73 t L tb zm hg f e nn) Q) : ∀ (n m i : Nat) (s t : zSt), i ≤ 16 → zSi σ μ s0 t0 s t → s.1 3 7 = gPl σ A → zp2 (zbu (fX3_drawSprite_111 n s le tw (Int32.ofNat i)) C0) (fX12_sprites_250 k73 m t L tb zm hg f e nn rw_ ti le (Int32.ofNat i)) Q := by
  intro n
  induction n with
  | zero => intro m i s t _ _ _; exact zp2_nl
  | succ n ih =>
    intro m i s t hi hS hp
    cases m with
    | zero => exact zp2_nr
    | succ m =>
      show zp2 (zbu (fX3_drawSprite_111_body (fX3_drawSprite_111 n) s le tw (Int32.ofNat i)) C0) (fX12_sprites_250_body k73 (fX12_sprites_250 k73 m) t L tb zm hg f e nn rw_ ti le (Int32.ofNat i)) Q
      unfold fX3_drawSprite_111_body fX12_sprites_250_body
      rw [hz.w.1]
      by_cases q : 8 * zm ≤ Int32.ofNat i
      · rw [if_pos q, if_pos q]
        exact k s t hS
      rw [if_neg q, if_neg q]
      obtain ⟨z1, z2, z3⟩ := hz.p q (by omega)
      have next : ∀ s t : zSt, zSi σ μ s0 t0 s t → s.1 3 7 = gPl σ A → zp2 (zbu (fX3_drawSprite_190 (fX3_drawSprite_111 n) s le tw (Int32.ofNat i)) C0) (fX12_sprites_343 k73 (fX12_sprites_250 k73 m) t L tb zm hg f e nn rw_ ti le (Int32.ofNat i)) Q := fun s t a b => by
        unfold fX3_drawSprite_190 fX12_sprites_343
        rw [z_ofS (by omega)]
        exact ih m (i + 1) s t (by omega) a b
      have hM := hS.2.1
      refine zp2_ckr (zp2_ckr (zp2_ckr (zp2_bir (p_tdot h.1 hM.v) (fun t1 v1 e1 => ?_))))
      cases e1
      rw [← hA]
      obtain ⟨eN, rN⟩ := z_gnum h.1 (x := A) z2
      obtain ⟨N, hN⟩ : ∃ N, N = gTd σ A (Int32.ofNat i / zm) := ⟨_, rfl⟩
      rw [← hN] at eN rN
      rw [← hN]
      refine zp2_bvr (fun v5 e5 => ?_)
      show zp2 (zbu (zbi (fX3_numberIn s (zgi s 3 7) (Int32.ofNat i >>> (tw &&& 31))) (fun σ3 v4 => if v4 ≤ 0 then fX3_drawSprite_190 (fX3_drawSprite_111 n) σ3 le tw (Int32.ofNat i) else if le + Int32.ofNat i < 0 then fX3_drawSprite_190 (fX3_drawSprite_111 n) σ3 le tw (Int32.ofNat i) else if 256 ≤ le + Int32.ofNat i then fX3_drawSprite_190 (fX3_drawSprite_111 n) σ3 le tw (Int32.ofNat i) else zck (zin (le + Int32.ofNat i) 256) (if (zgi σ3 28 (le + Int32.ofNat i).toNatClampNeg) ≤ 0 then zck (zin (le + Int32.ofNat i) 256) (zbv (zsi σ3 28 ((le + Int32.ofNat i).toNatClampNeg) v4) (fun σ5 => fX3_drawSprite_190 (fX3_drawSprite_111 n) σ5 le tw (Int32.ofNat i))) else zbu (fX9_mark σ3 32) (fun σ6 => fX3_drawSprite_190 (fX3_drawSprite_111 n) σ6 le tw (Int32.ofNat i))))) C0) _ Q
      have hn : zpc (fX3_numberIn s (zgi s 3 7) (Int32.ofNat i >>> (tw &&& 31))) (fun r => r = (s, N)) := by
        have z := p_numC (σ := s) (x := zgi s 3 7) (p := Int32.ofNat i >>> (tw &&& 31))
        rw [show zgi s 3 7 = gPl σ A from hp, z1, eN] at z
        rw [show zgi s 3 7 = gPl σ A from hp, z1]
        exact z
      refine zp2_ubi hn ?_
      rw [e5]
      obtain ⟨X, eX⟩ : ∃ X, X = le + Int32.ofNat i := ⟨_, rfl⟩
      rw [← eX]
      by_cases n0 : N = 0
      · rw [if_pos ((z_le0e rN).mpr n0), if_pos n0]
        exact next s t hS hp
      rw [if_neg (fun z => n0 ((z_le0e rN).mp z)), if_neg n0]
      by_cases x0 : X < 0
      · rw [if_pos x0, if_pos x0]
        exact next s t hS hp
      rw [if_neg x0, if_neg x0]
      have x0' := Int32.le_iff_toInt_le.mp (z_nlt x0)
      rw [show (0 : Int32).toInt = 0 from rfl] at x0'
      have e255 : 256 ≤ X ↔ ¬ X ≤ 255 := by
        rw [Int32.le_iff_toInt_le, Int32.le_iff_toInt_le, show (256 : Int32).toInt = 256 from rfl, show (255 : Int32).toInt = 255 from rfl]
        omega
      by_cases x1 : 256 ≤ X
      · rw [if_pos x1, if_neg (e255.mp x1)]
        exact next s t hS hp
      have x1' : X ≤ 255 := Decidable.byContradiction (fun z => x1 (e255.mpr z))
      rw [if_neg x1, if_pos x1']
      have x2 := Int32.le_iff_toInt_le.mp x1'
      rw [show (255 : Int32).toInt = 255 from rfl] at x2
      have kX := z_clamp (x := X) x0'
      have jX : X.toNatClampNeg < 256 := by omega
      have d0 := hS.dot0 jX
      rw [z_uck]
      refine zp2_ckl (zp2_ckr ?_)
      by_cases y : zgi s 28 X.toNatClampNeg ≤ 0
      · rw [if_pos y, if_pos (show zgi t 24 X.toNatClampNeg ≤ 0 from d0.mpr y), z_uck]
        refine zp2_ckl (zp2_ckr (zp2_bvr (fun t6 g6 => ?_)))
        rw [g6]
        have rN1 : zr 1 15 N := ⟨by have := rN.1; have : ¬ N.toInt = 0 := fun z => n0 (Int32.toInt_inj.mp z); omega, rN.2⟩
        exact next _ _ (hS.dot rN1) (by rw [zsi_ne (by decide)]; exact hp)
      · rw [if_neg y, if_neg (show ¬ zgi t 24 X.toNatClampNeg ≤ 0 from fun z => y (d0.mp z))]
        refine zp2_ckr (zp2_ckr (zp2_bvr (fun t6 g6 => ?_)))
        have e62 : zgi t 3 (62 : Int32).toNatClampNeg = s.1 23 15 := hS.2.2.2.2.2.2.2.2.1
        rw [e62] at g6
        have r15 : zr 0 255 (s.1 23 15) := hS.2.2.2.2.2.2.2.2.2
        have r15' : zr 0 255 (s.1 23 15 ||| 32) := zr_or (lo := 0) (hi := 255) 8 r15 (zr_c (lo := 32) (hi := 32) (x := 32) (by decide)) (by decide)
        refine zp2_ubu (P := fun r => r = zsi s 23 15 (s.1 23 15 ||| 32)) (by unfold fX9_mark; exact zpc_ck (zpc_ck (zpc_bv (fun s1 f1 => zpc_some f1)))) (fun s1 f1 => ?_)
        rw [f1, g6]
        exact next _ _ (hS.st r15') (by rw [zsi_ne (by decide)]; exact hp)
end ZT5
end ZJN0
section ZJN1
/-! THE PAINTER, 6: ALL SPRITES OF A LINE -/
theorem zp2_usub {o o' : Option zSt} {C0 : zSt → Option zSt} {p : Option zSt} {Q : zSt → zSt → Prop} (hs : zpc o (fun r => o' = some r)) (h : zp2 (zbu o' C0) p Q) : zp2 (zbu o C0) p Q := by
  cases e : o with
  | none => exact zp2_nl
  | some r =>
    have z := hs r e
    rw [z] at h
    exact h
section ZT6
variable {σ μ s t s0 t0 : zSt}
noncomputable def zSe (σ μ s0 t0 r t : zSt) : Prop := zdC σ r ∧ zdM μ t ∧ r.1 25 = s0.1 25 ∧ t.1 22 = t0.1 22 ∧ t.1 23 = t0.1 23 ∧ t.1 9 = t0.1 9 ∧ zStt r t ∧ ∀ j : Nat, j < 256 → zr 0 31 (t.1 24 j) ∧ r.1 27 j = (if t.1 24 j ≤ 0 then s0.1 27 j else if s0.1 27 j &&& 256 = 0 then t.1 24 j else s0.1 27 j)
theorem t_144 (h : zSi σ μ s0 t0 s t) : zp2 (fX3_drawSprites_144 s ) (some t) (zSe σ μ s0 t0) := by
  obtain ⟨h1, h2, h3, h4, h5, h6, h7, h8, h9⟩ := h
  unfold fX3_drawSprites_144
  refine zp2_of (c_147 (σ := σ) (o := s) zfuel 0 s (by decide) h1 rfl rfl rfl (fun j hj => absurd hj (by omega)) (fun _ _ => rfl)) (zpc_some (Q := fun r => r = t) rfl) (fun r t' q e => ?_)
  obtain ⟨q1, q2, q3, q4⟩ := q
  subst e
  refine ⟨q1, h2, q3.trans h4, h5, h6, h7, ?_, fun j hj => ?_⟩
  · unfold zStt
    rw [q2]
    exact h9
  · obtain ⟨r8, e8⟩ := h8 j hj
    rw [q4 j hj, e8, h3]
    by_cases z : s.1 28 j ≤ 0
    · rw [if_pos z, if_pos z, if_pos (by decide)]
      exact ⟨zr_c (by decide), rfl⟩
    · have z2 : ¬ (16 + s.1 28 j) ≤ 0 := zq_lef (zr_add (lo := 16) (hi := 31) (zr_c (lo := 16) (hi := 16) (x := 16) (by decide)) r8 (by decide)) rfl (by decide)
      rw [if_neg z, if_neg z, if_neg z2]
      exact ⟨zr_add (zr_c (lo := 16) (hi := 16) (x := 16) (by decide)) r8 (by decide), rfl⟩
/-- which row of a sprite lies on the line -/
noncomputable def gRow (sh L u : Int32) : Int32 := if sh &&& 1 = 0 then ((L - u) - 1) &&& 255 else (((L - u) - 1) &&& 255) >>> ((1 : Int32) &&& 31)
noncomputable def gHg (sh : Int32) : Int32 := if sh &&& 2 = 0 then 8 else 16
noncomputable def gZm (sh : Int32) : Int32 := if sh &&& 1 = 0 then 1 else 2
theorem p_row {L u : Int32} : zpc (fX3_rowOfSprite s L u) (fun r => r = (s, if gHg (s.1 23 1) ≤ gRow (s.1 23 1) L u then -1 else gRow (s.1 23 1) L u)) := by
  unfold fX3_rowOfSprite
  refine zpc_bi (p_held (x := 1) (zr_c (by decide))) (fun s1 v e => zpc_bv (fun v3 e3 => ?_))
  cases e
  rw [show s.1 23 (1 : Int32).toNatClampNeg = s.1 23 1 from rfl]
  have go : ∀ w, w = gRow (s.1 23 1) L u → zpc (fX3_rowOfSprite_32 s (s.1 23 1) w) (fun r => r = (s, if gHg (s.1 23 1) ≤ gRow (s.1 23 1) L u then -1 else gRow (s.1 23 1) L u)) := fun w ew => by
    unfold fX3_rowOfSprite_32 fX3_rowOfSprite_47 fX3_rowOfSprite_56 gHg
    rw [ew]
    refine zpc_if (fun q => zpc_if (fun q2 => zpc_some ?_) (fun q2 => zpc_some ?_)) (fun q => zpc_if (fun q2 => zpc_some ?_) (fun q2 => zpc_some ?_))
    · rw [if_pos q, if_pos q2]
    · rw [if_pos q, if_neg q2]
    · rw [if_neg q, if_pos q2]
    · rw [if_neg q, if_neg q2]
  refine zpc_if (fun q => go _ ?_) (fun q => zpc_bv (fun v4 e4 => go _ ?_))
  · unfold gRow; rw [if_pos q, e3]
  · unfold gRow; rw [if_neg q, e4, e3]
/-- the reference's comparison is the same; its row, divided by the zoom, too -/
theorem v_row : ∀ c : Fin 256, ((8 ≤ Int32.ofNat c.val ↔ ¬ Int32.ofNat c.val < 8 * 1) ∧ (16 ≤ Int32.ofNat c.val ↔ ¬ Int32.ofNat c.val < 16 * 1) ∧ Int32.ofNat c.val / 1 = Int32.ofNat c.val) ∧ ((8 ≤ Int32.ofNat c.val >>> ((1 : Int32) &&& 31) ↔ ¬ Int32.ofNat c.val < 8 * 2) ∧ (16 ≤ Int32.ofNat c.val >>> ((1 : Int32) &&& 31) ↔ ¬ Int32.ofNat c.val < 16 * 2) ∧ Int32.ofNat c.val / 2 = Int32.ofNat c.val >>> ((1 : Int32) &&& 31)) ∧ (0 ≤ (Int32.ofNat c.val >>> ((1 : Int32) &&& 31)).toInt) := by decide +kernel
theorem z_row {sh L u : Int32} : (gHg sh ≤ gRow sh L u ↔ ¬ (((L - u) - 1) &&& 255) < gHg sh * gZm sh) ∧ (((L - u) - 1) &&& 255) / gZm sh = gRow sh L u ∧ zr 0 255 (gRow sh L u) := by
  have r : zr 0 255 (((L - u) - 1) &&& 255) := z_r8 _
  obtain ⟨c, ec⟩ := z_byteF r
  obtain ⟨⟨a1, a2, a3⟩, ⟨b1, b2, b3⟩, b4⟩ := v_row c
  unfold gHg gRow gZm
  rw [ec]
  by_cases q : sh &&& 1 = 0
  · rw [if_pos q, if_pos q]
    rw [ec] at r
    by_cases p : sh &&& 2 = 0
    · rw [if_pos p]; exact ⟨a1, a3, r⟩
    · rw [if_neg p]; exact ⟨a2, a3, r⟩
  · rw [if_neg q, if_neg q]
    have r2 : zr 0 255 (Int32.ofNat c.val >>> ((1 : Int32) &&& 31)) := ⟨b4, by
      have z := b3
      have h1 := z_quo (x := Int32.ofNat c.val) (s := (1 : Int32) &&& 31) (k := 1) (by rw [z_ofI (by omega)]; omega) rfl
      rw [h1, z_ofI (by omega)]
      omega⟩
    by_cases p : sh &&& 2 = 0
    · rw [if_pos p]; exact ⟨b1, b3, r2⟩
    · rw [if_neg p]; exact ⟨b2, b3, r2⟩
noncomputable def gLe (σ : zSt) (x : Int32) : Int32 := vb σ x - (if σ.1 23 0 &&& 8 = 0 then 0 else 8)
noncomputable def gTi (σ : zSt) (x : Int32) : Int32 := vb σ (x + 1) + (if σ.1 23 6 &&& 4 = 0 then 0 else 256)
noncomputable def gTe (σ : zSt) (x : Int32) : Int32 := if σ.1 23 1 &&& 2 = 0 then gTi σ x else gTi σ x &&& (-2)
theorem v_and1 : ∀ c : Fin 256, (Int32.ofNat c.val &&& 1 = 0 ∨ Int32.ofNat c.val &&& 1 = 1) := by decide +kernel
/-- the class: a sprite up to its dots -/
theorem c_sprite (h : zVe σ μ) (hs : zdC σ s) {x row : Int32} : zpc (fX3_drawSprite s x row) (fun r => fX3_drawSprite_111 zfuel (zsi s 3 7 (gPl σ ((32 * gTe σ x) + (4 * row)))) (gLe σ x) (σ.1 23 1 &&& 1) 0 = some r) := by
  have v := hs.v
  have g0 : s.1 23 (0 : Int32).toNatClampNeg = σ.1 23 0 := hs.r (j := 0) (by decide)
  have g1 : s.1 23 (1 : Int32).toNatClampNeg = σ.1 23 1 := hs.r (j := 1) (by decide)
  have g6 : s.1 23 (6 : Int32).toNatClampNeg = σ.1 23 6 := hs.r (j := 6) (by decide)
  have l100 : ∀ y, y = gTe σ x → zpc (fX3_drawSprite_100 s row (gLe σ x) (σ.1 23 1 &&& 1) y 32) (fun r => fX3_drawSprite_111 zfuel (zsi s 3 7 (gPl σ ((32 * gTe σ x) + (4 * row)))) (gLe σ x) (σ.1 23 1 &&& 1) 0 = some r) := fun y ey => by
    unfold fX3_drawSprite_100
    rw [ey]
    refine zpc_bu p_planes (fun s1 e1 => ?_)
    rw [e1, show gPl s ((32 * gTe σ x) + (4 * row)) = gPl σ ((32 * gTe σ x) + (4 * row)) by unfold gPl; rw [vb_of v, vb_of v, vb_of v, vb_of v]]
    exact fun r er => er
  have l61 : ∀ y z, z + y = gTi σ x → zpc (fX3_drawSprite_61 s row (gLe σ x) y z) (fun r => fX3_drawSprite_111 zfuel (zsi s 3 7 (gPl σ ((32 * gTe σ x) + (4 * row)))) (gLe σ x) (σ.1 23 1 &&& 1) 0 = some r) := fun y z e => by
    unfold fX3_drawSprite_61
    refine zpc_bv (fun v8 e8 => zpc_bi (p_held (x := 1) (zr_c (by decide))) (fun s1 v1 e1 => zpc_bv (fun v11 e11 => ?_)))
    cases e1
    rw [e] at e8
    rw [g1] at e11
    rw [g1, e11, e8]
    refine zpc_if (fun q => l100 _ ?_) (fun q => l100 _ ?_)
    · unfold gTe; rw [if_pos q]
    · unfold gTe; rw [if_neg q]
  have l28 : ∀ y, vb σ x - y = gLe σ x → zpc (fX3_drawSprite_28 s x row y (vb σ x)) (fun r => fX3_drawSprite_111 zfuel (zsi s 3 7 (gPl σ ((32 * gTe σ x) + (4 * row)))) (gLe σ x) (σ.1 23 1 &&& 1) 0 = some r) := fun y e => by
    unfold fX3_drawSprite_28
    refine zpc_bv (fun v12 e12 => zpc_bi p_vb (fun s1 v1 e1 => ?_))
    cases e1
    refine zpc_bi (p_held (x := 6) (zr_c (by decide))) (fun s1 v1 e1 => ?_)
    cases e1
    rw [e] at e12
    rw [g6, e12, vb_of v]
    refine zpc_if (fun q => l61 _ _ ?_) (fun q => l61 _ _ ?_)
    · unfold gTi; rw [if_pos q]
    · unfold gTi; rw [if_neg q]
  unfold fX3_drawSprite
  refine zpc_bi p_vb (fun s1 v1 e1 => ?_)
  cases e1
  refine zpc_bi (p_held (x := 0) (zr_c (by decide))) (fun s1 v1 e1 => ?_)
  cases e1
  rw [g0, vb_of v]
  refine zpc_if (fun q => l28 _ ?_) (fun q => l28 _ ?_)
  · unfold gLe; rw [if_pos q]
  · unfold gLe; rw [if_neg q]
theorem v_r16 : ∀ c : Fin 16, 32 * (Int32.ofNat c.val / 8) + 4 * (zrem (Int32.ofNat c.val) 8) = 4 * Int32.ofNat c.val := by decide +kernel
theorem v_r8 : ∀ c : Fin 8, zrem (Int32.ofNat c.val) 8 = Int32.ofNat c.val := by decide +kernel
theorem v_512 : ∀ c : Fin 512, Int32.ofNat c.val &&& 510 = Int32.ofNat c.val &&& (-2) := by decide +kernel
theorem gTi_r (h : zVe σ μ) {x : Int32} : zr 0 511 (gTi σ x) := by
  unfold gTi
  by_cases q : σ.1 23 6 &&& 4 = 0
  · rw [if_pos q]; exact zr_add (vb_r h.1 _) (zr_c (lo := 0) (hi := 0) (x := 0) (by decide)) (by decide)
  · rw [if_neg q]; exact zr_add (vb_r h.1 _) (zr_c (lo := 256) (hi := 256) (x := 256) (by decide)) (by decide)
/-- the reference: a sprite up to its dots -/
theorem m_sprite (h : zVe σ μ) (hd : zdM μ t) {k73 : zK8} {L tb f e nn u : Int32} (hlt : ¬ gHg (σ.1 23 1) ≤ gRow (σ.1 23 1) L u) : ∃ ti : Int32, (32 * gTe σ ((tb + 128) + (2 * nn))) + (4 * gRow (σ.1 23 1) L u) = (32 * ti) + (4 * (zrem ((((L - u) - 1) &&& 255) / gZm (σ.1 23 1)) 8)) ∧ zpc (zbi (fX12_video8 t ((tb + 129) + (2 * nn))) (fun σ16 v17 => zbi (fX12_bit σ16 6 2) (fun σ18 v19 => if v19 = 1 then fX12_sprites_183 k73 σ18 L tb (gZm (σ.1 23 1)) (gHg (σ.1 23 1)) f e nn (((L - u) - 1) &&& 255) 256 v17 else fX12_sprites_183 k73 σ18 L tb (gZm (σ.1 23 1)) (gHg (σ.1 23 1)) f e nn (((L - u) - 1) &&& 255) 0 v17))) (fun r => fX12_sprites_250 k73 zfuel t L tb (gZm (σ.1 23 1)) (gHg (σ.1 23 1)) f e nn (((L - u) - 1) &&& 255) ti (gLe σ ((tb + 128) + (2 * nn))) 0 = some r) := by
  obtain ⟨X, eX⟩ : ∃ X, X = (tb + 128) + (2 * nn) := ⟨_, rfl⟩
  obtain ⟨Y, eY⟩ : ∃ Y, Y = ((L - u) - 1) &&& 255 := ⟨_, rfl⟩
  have ea : (tb + 129) + (2 * nn) = X + 1 := by
    rw [eX, Int32.add_assoc (tb + 128), Int32.add_comm (2 * nn) 1, ← Int32.add_assoc (tb + 128), Int32.add_assoc tb 128 1]
    rfl
  obtain ⟨z1, z2, z3⟩ := z_row (sh := σ.1 23 1) (L := L) (u := u)
  rw [← eY] at z1 z2
  rw [← eX, ← eY, ea, z2]
  have f0 : t.1 3 47 = σ.1 23 0 := h.ej hd (j := 0) (by decide)
  have f6 : t.1 3 53 = σ.1 23 6 := h.ej hd (j := 6) (by decide)
  have b3 := p_bit_0_3 (μ := t) (by rw [f0]; exact h.r0)
  have b62 := p_bit_6_2 (μ := t) (by rw [f6]; exact h.rj (j := 6) (by decide))
  rw [f0] at b3
  rw [f6] at b62
  have l212 : ∀ y, zpc (fX12_sprites_212 k73 t L tb (gZm (σ.1 23 1)) (gHg (σ.1 23 1)) f e nn Y y) (fun r => fX12_sprites_250 k73 zfuel t L tb (gZm (σ.1 23 1)) (gHg (σ.1 23 1)) f e nn Y y (gLe σ X) 0 = some r) := fun y => by
    unfold fX12_sprites_212 fX12_sprites_244
    rw [← eX]
    refine zpc_bi (p_v8 h.1 hd.v) (fun t1 v1 e1 => ?_)
    cases e1
    refine zpc_bit b3 (fun q => zpc_if (fun z => absurd z (by decide)) (fun _ => zpc_bv (fun v8 e8 => ?_))) (fun q => zpc_if (fun _ => zpc_bv (fun v8 e8 => ?_)) (fun z => absurd rfl z))
    · rw [e8, show vb σ X - 0 = gLe σ X by unfold gLe; rw [if_pos q]]
      exact fun r er => er
    · rw [e8, show vb σ X - 8 = gLe σ X by unfold gLe; rw [if_neg q]]
      exact fun r er => er
  have low : ∀ ti, (∀ y z, z + y = gTi σ X → zpc (fX12_sprites_183 k73 t L tb (gZm (σ.1 23 1)) (gHg (σ.1 23 1)) f e nn Y y z) (fun r => fX12_sprites_250 k73 zfuel t L tb (gZm (σ.1 23 1)) (gHg (σ.1 23 1)) f e nn Y ti (gLe σ X) 0 = some r)) → zpc (zbi (fX12_video8 t (X + 1)) (fun σ16 v17 => zbi (fX12_bit σ16 6 2) (fun σ18 v19 => if v19 = 1 then fX12_sprites_183 k73 σ18 L tb (gZm (σ.1 23 1)) (gHg (σ.1 23 1)) f e nn Y 256 v17 else fX12_sprites_183 k73 σ18 L tb (gZm (σ.1 23 1)) (gHg (σ.1 23 1)) f e nn Y 0 v17))) (fun r => fX12_sprites_250 k73 zfuel t L tb (gZm (σ.1 23 1)) (gHg (σ.1 23 1)) f e nn Y ti (gLe σ X) 0 = some r) := fun ti H => by
    refine zpc_bi (p_v8 h.1 hd.v) (fun t1 v1 e1 => ?_)
    cases e1
    refine zpc_bit b62 (fun q => zpc_if (fun z => absurd z (by decide)) (fun _ => H _ _ ?_)) (fun q => zpc_if (fun _ => H _ _ ?_) (fun z => absurd rfl z))
    · unfold gTi; rw [if_pos q]
    · unfold gTi; rw [if_neg q]
  have rT := gTi_r h (x := X)
  have hl : (gRow (σ.1 23 1) L u).toInt < (gHg (σ.1 23 1)).toInt := Int32.lt_iff_toInt_lt.mp (z_nle hlt)
  by_cases p : σ.1 23 1 &&& 2 = 0
  · have eH : gHg (σ.1 23 1) = 8 := by unfold gHg; rw [if_pos p]
    rw [eH, show (8 : Int32).toInt = 8 from rfl] at hl
    obtain ⟨c, ec⟩ := z_F (m := 8) (b := 7) (x := gRow (σ.1 23 1) L u) ⟨z3.1, by omega⟩ (by decide)
    refine ⟨gTi σ X, ?_, low _ (fun y z eyz => ?_)⟩
    · unfold gTe
      rw [if_pos p, ec, v_r8 c]
    · unfold fX12_sprites_183
      refine zpc_bv (fun v13 e13 => ?_)
      rw [eyz] at e13
      rw [e13, eH]
      refine zpc_if (fun z => absurd z (by decide)) (fun _ => ?_)
      have z := l212 (gTi σ X)
      rw [eH] at z
      exact z
  · have eH : gHg (σ.1 23 1) = 16 := by unfold gHg; rw [if_neg p]
    rw [eH, show (16 : Int32).toInt = 16 from rfl] at hl
    obtain ⟨c, ec⟩ := z_F (m := 16) (b := 15) (x := gRow (σ.1 23 1) L u) ⟨z3.1, by omega⟩ (by decide)
    obtain ⟨d, ed⟩ := z_F (m := 512) (b := 511) (x := gTi σ X) rT (by decide)
    refine ⟨(gTi σ X &&& 510) + ((gRow (σ.1 23 1) L u) / 8), ?_, low _ (fun y z eyz => ?_)⟩
    · unfold gTe
      rw [if_neg p, show gTi σ X &&& 510 = gTi σ X &&& (-2) by rw [ed]; exact v_512 d, Int32.mul_add, Int32.add_assoc, ec, v_r16 c]
    · unfold fX12_sprites_183
      refine zpc_bv (fun v13 e13 => ?_)
      rw [eyz] at e13
      rw [e13, eH, z2]
      refine zpc_if (fun _ => zpc_ck (zpc_ck ?_)) (fun z => absurd rfl z)
      have z := l212 ((gTi σ X &&& 510) + ((gRow (σ.1 23 1) L u) / 8))
      rw [eH] at z
      exact z
/-- all sprites -/
theorem t_51 (h : zVe σ μ) {L tb e : Int32} : ∀ (n m i : Nat) (s t : zSt) (f : Int32), i ≤ 64 → zr 0 8 f → zSi σ μ s0 t0 s t → zp2 (fX3_drawSprites_51 n s L tb e f (Int32.ofNat i)) (fX12_sprites_73 m t L tb (gZm (σ.1 23 1)) (gHg (σ.1 23 1)) f e (Int32.ofNat i)) (zSe σ μ s0 t0) := by
  intro n
  induction n with
  | zero => intro m i s t f _ _ _; exact zp2_nl
  | succ n ih =>
    intro m i s t f hi hf hS
    cases m with
    | zero => exact zp2_nr
    | succ m =>
      show zp2 (fX3_drawSprites_51_body (fX3_drawSprites_51 n) s L tb e f (Int32.ofNat i)) (fX12_sprites_73_body (fX12_sprites_73 m) t L tb (gZm (σ.1 23 1)) (gHg (σ.1 23 1)) f e (Int32.ofNat i)) _
      unfold fX3_drawSprites_51_body fX12_sprites_73_body
      have hs := hS.1
      have hd := hS.2.1
      refine zp2_if (fun _ => t_144 hS) (fun q => ?_)
      have hi2 : i < 64 := by
        have : ¬ 64 ≤ i := fun z => q ((z_ofL (c := 64) (k := 64) (i := i) (by omega) rfl).mpr z)
        omega
      refine zp2_bil p_vb (fun s1 u e1 => ?_)
      cases e1
      refine zp2_bir (p_v8 h.1 hd.v) (fun t1 u e1 => ?_)
      cases e1
      rw [vb_of hs.v]
      obtain ⟨u, eu⟩ : ∃ u, u = vb σ (tb + Int32.ofNat i) := ⟨_, rfl⟩
      rw [← eu]
      have g1 : s.1 23 1 = σ.1 23 1 := hs.r (by decide)
      have next : ∀ (s t : zSt) (f : Int32), zr 0 8 f → zSi σ μ s0 t0 s t → zp2 (fX3_drawSprites_138 (fX3_drawSprites_51 n) s L tb e f (Int32.ofNat i)) (fX12_sprites_349 (fX12_sprites_73 m) t L tb (gZm (σ.1 23 1)) (gHg (σ.1 23 1)) f e (Int32.ofNat i)) (zSe σ μ s0 t0) := fun s t f a b => by
        unfold fX3_drawSprites_138 fX12_sprites_349
        rw [z_ofS (by omega)]
        exact zp2_bvl (fun v ev => zp2_bvr (fun w ew => by rw [ev, ew]; exact ih m (i + 1) s t f (by omega) a b))
      have main : zp2 (fX3_drawSprites_86 (fX3_drawSprites_51 n) s L tb e f (Int32.ofNat i) u) (fX12_sprites_104 (fX12_sprites_73 m) t L tb (gZm (σ.1 23 1)) (gHg (σ.1 23 1)) f e (Int32.ofNat i) u) (zSe σ μ s0 t0) := by
        obtain ⟨z1, z2, z3⟩ := z_row (sh := σ.1 23 1) (L := L) (u := u)
        unfold fX3_drawSprites_86 fX12_sprites_104
        refine zp2_bil p_row (fun s1 v1 e1 => zp2_bvr (fun v14 e14 => ?_))
        cases e1
        rw [g1]
        subst e14
        by_cases p : gHg (σ.1 23 1) ≤ gRow (σ.1 23 1) L u
        · rw [if_pos p]
          refine zp2_ifl (fun _ => zp2_ifr (fun z => absurd z (z1.mp p)) (fun _ => next s t f hf hS)) (fun z => absurd (by decide) z)
        rw [if_neg p]
        have lt : (((L - u) - 1) &&& 255) < gHg (σ.1 23 1) * gZm (σ.1 23 1) := Decidable.byContradiction (fun z => p (z1.mpr z))
        refine zp2_ifl (fun z => absurd z (zq_lt z3 rfl (by decide))) (fun _ => zp2_ifr (fun _ => ?_) (fun z => absurd lt z))
        refine zp2_bvl (fun v6 e6 => ?_)
        have tf : (f + 1).toInt = f.toInt + 1 := z_tadd hf (zr_c (lo := 1) (hi := 1) (x := 1) (by decide)) (by decide)
        have f0 := hf.1
        have f8 := hf.2
        have e8 : v6 ≤ 8 ↔ ¬ f = 8 := by
          rw [e6, Int32.le_iff_toInt_le, ← Int32.toInt_inj, tf, show (8 : Int32).toInt = 8 from rfl]
          omega
        refine zp2_ifn e8 (fun _ c8 => ?_) (fun _ c8 => ?_)
        · have rf : zr 0 8 (f + 1) := ⟨by omega, by have : ¬ f.toInt = 8 := fun z => c8 (Int32.toInt_inj.mp z); omega⟩
          subst e6
          refine zp2_bvr (fun v15 e15 => ?_)
          subst e15
          obtain ⟨ti, eA, pM⟩ := m_sprite h hd (k73 := fX12_sprites_73 m) (tb := tb) (f := f + 1) (e := e) (nn := Int32.ofNat i) p
          refine zp2_subr pM (zp2_usub (c_sprite h hs) ?_)
          have hz : zZm (σ.1 23 1 &&& 1) (gZm (σ.1 23 1)) := by
            unfold gZm
            obtain ⟨c, ec⟩ := z_byteF h.r1
            rcases v_and1 c with z | z
            · rw [← ec] at z
              rw [if_pos z]
              exact Or.inl ⟨z, rfl⟩
            · rw [← ec] at z
              rw [if_neg (by rw [z]; decide)]
              exact Or.inr ⟨z, rfl⟩
          exact t_111 h hz eA (fun s' t' q' => next s' t' (f + 1) rf q') zfuel zfuel 0 _ t (by decide) hS.pl zsi_ej
        · have r15 : zr 0 255 (s.1 23 15) := hS.2.2.2.2.2.2.2.2.2
          have e62 : zgi t 3 (62 : Int32).toNatClampNeg = s.1 23 15 := hS.2.2.2.2.2.2.2.2.1
          refine zp2_bul (P := fun r => r = zsi s 23 15 (s.1 23 15 ||| 64)) (by unfold fX9_mark; exact zpc_ck (zpc_ck (zpc_bv (fun s1 f1 => zpc_some f1)))) (fun s1 f1 => zp2_ckr (zp2_ckr (zp2_bvr (fun t1 g1 => ?_))))
          rw [e62] at g1
          rw [f1, g1]
          exact t_144 (hS.st (zr_or (lo := 0) (hi := 255) 8 r15 (zr_c (lo := 64) (hi := 64) (x := 64) (by decide)) (by decide)))
      exact zp2_if (fun _ => main) (fun _ => zp2_if (fun _ => t_144 hS) (fun _ => main))
theorem v_tab : ∀ c : Fin 256, 256 * (zrem (Int32.ofNat c.val / 2) 64) = 256 * ((Int32.ofNat c.val >>> ((1 : Int32) &&& 31)) &&& 63) := by decide +kernel
/-- sprites over tiles, both sides -/
theorem t_sprites (h : zVe σ μ) (hs : zdC σ s) (hd : zdM μ t) (hst : zStt s t) (h24 : ∀ j : Nat, j < 256 → t.1 24 j = 0) {L : Int32} : zp2 (fX3_drawSprites s L) (fX12_sprites t L) (zSe σ μ s t) := by
  have f0 : t.1 3 47 = σ.1 23 0 := h.ej hd (j := 0) (by decide)
  have f1 : t.1 3 48 = σ.1 23 1 := h.ej hd (j := 1) (by decide)
  have f5 : t.1 3 (47 + (5 : Int32)).toNatClampNeg = σ.1 23 5 := h.ej hd (j := 5) (by decide)
  have pM := p_heightM (μ := t) (by rw [f0]; exact h.r0) (by rw [f1]; exact h.r1)
  rw [f0, f1] at pM
  have b0 := p_bit_1_0 (μ := t) (by rw [f1]; exact h.r1)
  have b1 := p_bit_1_1 (μ := t) (by rw [f1]; exact h.r1)
  rw [f1] at b0 b1
  unfold fX3_drawSprites fX12_sprites
  unfold fJ7_fill_53178_k28
  refine zp2_bul (c_fill28 (σ := σ) (s0 := s) (v := 0) zfuel 0 s (by decide) hs rfl rfl rfl (fun j hj => absurd hj (by omega))) (fun s1 q => ?_)
  obtain ⟨q1, q2, q3, q4, q5⟩ := q
  have g0 : s1.1 23 0 = σ.1 23 0 := q1.r (by decide)
  have g1 : s1.1 23 1 = σ.1 23 1 := q1.r (by decide)
  have g5 : s1.1 23 (5 : Int32).toNatClampNeg = σ.1 23 5 := q1.r (j := 5) (by decide)
  have pC := p_heightC (σ := s1) (by rw [g0]; exact h.r0) (by rw [g1]; exact h.r1)
  rw [g0, g1] at pC
  refine zp2_bil (p_held (x := 5) (zr_c (by decide))) (fun s2 v2 e2 => zp2_bvl (fun tb etb => ?_))
  cases e2
  rw [g5] at etb
  refine zp2_bil pC (fun s2 v2 e2 => ?_)
  cases e2
  refine zp2_bir p_reg (fun t2 v2 e2 => zp2_ckr (zp2_ckr (zp2_bvr (fun tb' etb' => ?_))))
  cases e2
  rw [f5] at etb'
  have etb' : tb' = tb := by
    rw [etb', etb]
    obtain ⟨c, ec⟩ := z_byteF (h.rj (j := 5) (by decide))
    rw [ec]
    exact v_tab c
  subst etb'
  have hS : zSi σ μ s t s1 t := by
    refine ⟨q1, hd, q2, q3, rfl, rfl, rfl, fun j hj => ?_, ?_⟩
    · rw [q5 j hj, h24 j hj]
      exact ⟨zr_c (by decide), by rw [if_pos (by decide)]⟩
    · unfold zStt
      rw [q4]
      exact hst
  have fin : ∀ y z e e' : Int32, z = gZm (σ.1 23 1) → y = gHg (σ.1 23 1) → e = e' → zp2 (fX3_drawSprites_44 s1 L tb' e) (fX12_sprites_68 t L tb' z y 0 e') (zSe σ μ s t) := fun y z e e' ez ey ee => by
    unfold fX3_drawSprites_44 fX12_sprites_68
    rw [ez, ey, ee]
    exact t_51 h zfuel zfuel 0 s1 t 0 (by decide) (zr_c (by decide)) hS
  have l48 : ∀ y z : Int32, z = gZm (σ.1 23 1) → y = gHg (σ.1 23 1) → zp2 (if zht (σ.1 23 0) (σ.1 23 1) = 192 then fX3_drawSprites_44 s1 L tb' 1 else fX3_drawSprites_44 s1 L tb' 0) (fX12_sprites_48 t L tb' z y) (zSe σ μ s t) := fun y z ez ey => by
    unfold fX12_sprites_48
    refine zp2_bir pM (fun t2 v2 e2 => ?_)
    cases e2
    exact zp2_if (fun _ => fin y z 1 1 ez ey rfl) (fun _ => fin y z 0 0 ez ey rfl)
  have l30 : ∀ z : Int32, z = gZm (σ.1 23 1) → zp2 (if zht (σ.1 23 0) (σ.1 23 1) = 192 then fX3_drawSprites_44 s1 L tb' 1 else fX3_drawSprites_44 s1 L tb' 0) (fX12_sprites_30 t L tb' z) (zSe σ μ s t) := fun z ez => by
    unfold fX12_sprites_30
    refine zp2_bir b1 (fun t2 v2 e2 => ?_)
    cases e2
    by_cases q : σ.1 23 1 &&& 2 = 0
    · rw [if_pos q]
      exact zp2_ifr (fun z => absurd z (by decide)) (fun _ => l48 8 z ez (by unfold gHg; rw [if_pos q]))
    · rw [if_neg q]
      exact zp2_ifr (fun _ => l48 16 z ez (by unfold gHg; rw [if_neg q])) (fun z => absurd rfl z)
  refine zp2_bir b0 (fun t2 v2 e2 => ?_)
  cases e2
  by_cases q : σ.1 23 1 &&& 1 = 0
  · rw [if_pos q]
    exact zp2_ifr (fun z => absurd z (by decide)) (fun _ => l30 1 (by unfold gZm; rw [if_pos q]))
  · rw [if_neg q]
    exact zp2_ifr (fun _ => l30 2 (by unfold gZm; rw [if_neg q])) (fun z => absurd rfl z)
end ZT6
end ZJN1
section ZJN2
/-! THE PAINTER, 7: COLOURS -/
noncomputable def gHc (c : Int32) : Int32 := ((5 * (c &&& 3)) + (80 * ((c >>> ((2 : Int32) &&& 31)) &&& 3))) + (1280 * (c >>> ((4 : Int32) &&& 31)))
noncomputable def gCo (σ : zSt) (m v : Int32) : Int32 := if m = 4 then (if σ.1 3 1 = 0 then σ.1 23 (32 + v).toNatClampNeg &&& 63 else (σ.1 23 (32 + (2 * v)).toNatClampNeg ||| (σ.1 23 ((32 + (2 * v)) + 1).toNatClampNeg <<< ((8 : Int32) &&& 31))) &&& 4095) else (if σ.1 3 1 = 0 then zt3 (v &&& 15).toNatClampNeg else gHc (zt3 (v &&& 15).toNatClampNeg))
theorem v_gHc : ∀ c : Fin 64, ((5 * (zrem (Int32.ofNat c.val) 4)) + (80 * (zrem (Int32.ofNat c.val / 4) 4))) + (1280 * (Int32.ofNat c.val / 16)) = gHc (Int32.ofNat c.val) := by decide +kernel
section ZT7
variable {σ μ s t : zSt}
theorem zdC.h (h : zdC σ s) : s.1 3 1 = σ.1 3 1 := zQ.o h (k := 3) (a := 0) (b := 6) rfl (by decide) (by decide)
theorem c_mix {m : Int32} {o : zSt} : ∀ (n i : Nat) (s : zSt), i ≤ 32 → zdC σ s → s.1 27 = o.1 27 → s.1 25 = o.1 25 → s.1 23 = o.1 23 → (∀ j : Nat, j < i → s.1 29 j = gCo σ m (Int32.ofNat j)) → zpc (fX3_mixColours_2 n s m (Int32.ofNat i)) (fun r => zdC σ r ∧ r.1 27 = o.1 27 ∧ r.1 25 = o.1 25 ∧ r.1 23 = o.1 23 ∧ ∀ j : Nat, j < 32 → r.1 29 j = gCo σ m (Int32.ofNat j)) := by
  intro n
  induction n with
  | zero => intro i s _ _ _ _ _ _; exact zpc_none
  | succ n ih =>
    intro i s hi hd e27 e25 e23 hin
    show zpc (fX3_mixColours_2_body (fX3_mixColours_2 n) s m (Int32.ofNat i)) _
    unfold fX3_mixColours_2_body
    refine zpc_if (fun q => zpc_some ?_) (fun q => ?_)
    · have := (z_ofL (k := 32) (by omega) rfl).mp q
      exact ⟨hd, e27, e25, e23, fun j hj => hin j (by omega)⟩
    have hi2 : i < 32 := by
      have : ¬ 32 ≤ i := fun z => q ((z_ofL (c := 32) (k := 32) (i := i) (by omega) rfl).mpr z)
      omega
    have ri : zr 0 31 (Int32.ofNat i) := z_ofr (by omega) (by omega)
    have nx : ∀ v, v = gCo σ m (Int32.ofNat i) → zpc (zck (zin (Int32.ofNat i) 32) (zbv (zsi s 29 ((Int32.ofNat i).toNatClampNeg) v) (fun σ2 => fX3_mixColours_130 (fX3_mixColours_2 n) σ2 m (Int32.ofNat i)))) (fun r => zdC σ r ∧ r.1 27 = o.1 27 ∧ r.1 25 = o.1 25 ∧ r.1 23 = o.1 23 ∧ ∀ j : Nat, j < 32 → r.1 29 j = gCo σ m (Int32.ofNat j)) := fun v ev => by
      unfold fX3_mixColours_130
      rw [z_ofC (by omega), z_ofS (by omega)]
      refine zpc_ck (zpc_bv (fun s1 g1 => zpc_bv (fun x ex => ?_)))
      subst ex
      refine ih (i + 1) s1 (by omega) (by rw [g1]; exact zQ.wi hd rfl) (by rw [g1, zsi_ne (by decide)]; exact e27) (by rw [g1, zsi_ne (by decide)]; exact e25) (by rw [g1, zsi_ne (by decide)]; exact e23) (fun j hj => ?_)
      by_cases z : j = i
      · rw [z, g1, zsi_ej, ev]
      · rw [g1, zsi_nj z]; exact hin j (by omega)
    have g31 : zgi s 3 1 = σ.1 3 1 := hd.h
    rw [g31]
    refine zpc_if (fun m4 => ?_) (fun m4 => ?_)
    · refine zpc_if (fun q0 => ?_) (fun q0 => ?_)
      · have rr : zr 32 63 (32 + Int32.ofNat i) := zr_add (zr_c (lo := 32) (hi := 32) (x := 32) (by decide)) ri (by decide)
        refine zpc_bi (p_held (zr_w rr (by decide))) (fun s1 v1 e1 => ?_)
        cases e1
        unfold fX3_mixColours_78
        refine nx _ ?_
        have k := z_clamp (x := 32 + Int32.ofNat i) (by have := rr.1; omega)
        have k2 := rr.1
        have k3 := rr.2
        unfold gCo
        rw [if_pos m4, if_pos q0, hd.r2 (by omega) (by omega)]
      · have r2 : zr 0 62 (2 * Int32.ofNat i) := zr_mul (zr_c (lo := 2) (hi := 2) (x := 2) (by decide)) ri (by decide)
        have rr : zr 32 94 (32 + 2 * Int32.ofNat i) := zr_add (zr_c (lo := 32) (hi := 32) (x := 32) (by decide)) r2 (by decide)
        have rs : zr 33 95 (32 + 2 * Int32.ofNat i + 1) := zr_add rr (zr_c (lo := 1) (hi := 1) (x := 1) (by decide)) (by decide)
        refine zpc_bi (p_held (zr_w rr (by decide))) (fun s1 v1 e1 => ?_)
        cases e1
        refine zpc_bi (p_held (zr_w rs (by decide))) (fun s1 v1 e1 => ?_)
        cases e1
        unfold fX3_mixColours_78
        refine nx _ ?_
        have k := z_clamp (x := 32 + 2 * Int32.ofNat i) (by have := rr.1; omega)
        have k2 := rr.1
        have k3 := rr.2
        have l := z_clamp (x := 32 + 2 * Int32.ofNat i + 1) (by have := rs.1; omega)
        have l2 := rs.1
        have l3 := rs.2
        unfold gCo
        rw [if_pos m4, if_neg q0, hd.r2 (j := (32 + 2 * Int32.ofNat i).toNatClampNeg) (by omega) (by omega), hd.r2 (j := (32 + 2 * Int32.ofNat i + 1).toNatClampNeg) (by omega) (by omega)]
    · refine zpc_ck (zpc_bv (fun v4 e4 => ?_))
      unfold fX3_mixColours_129
      refine zpc_if (fun q0 => nx _ ?_) (fun q0 => nx _ ?_)
      · unfold gCo; rw [if_neg m4, if_pos q0, e4]
      · unfold gCo; rw [if_neg m4, if_neg q0, e4]; rfl
theorem z_cr (h : zE σ μ) {j : Nat} (hj : j < 64) : μ.1 8 j &&& 255 = σ.1 23 (32 + j) := by
  have q := h.at (z_pn23_32 (d := j) hj)
  rw [Nat.zero_add] at q
  exact q
theorem z_63 {x : Int32} : x &&& 63 = (x &&& 255) &&& 63 := by
  rw [Int32.and_assoc]
  rfl
theorem z_4096 {a b : Int32} (ha : zr 0 255 a) (hb : zr 0 255 b) : zrem (a ||| (b <<< ((8 : Int32) &&& 31))) 4096 = (a ||| (b <<< ((8 : Int32) &&& 31))) &&& 4095 := by
  have r : zr 0 65535 (a ||| (b <<< ((8 : Int32) &&& 31))) := zr_or (lo := 0) (hi := 65535) 16 ha (zr_shl (lo := 0) (hi := 65280) 8 rfl hb (by decide)) (by decide)
  exact z_remm 12 r rfl rfl (by decide) (by decide)
/-- the reference's colour -/
theorem m_col (h : zVe σ μ) (hd : zdM μ t) {v : Nat} (hv : v < 32) (hm : zmd (σ.1 23 0) (σ.1 23 1) = 4 ∨ v < 16) : zpc (fX12_colour t (Int32.ofNat v)) (fun r => r = (t, gCo σ (zmd (σ.1 23 0) (σ.1 23 1)) (Int32.ofNat v))) := by
  have f0 : t.1 3 47 = σ.1 23 0 := h.ej hd (j := 0) (by decide)
  have f1 : t.1 3 48 = σ.1 23 1 := h.ej hd (j := 1) (by decide)
  have pm := p_modeM (μ := t) (by rw [f0]; exact h.r0) (by rw [f1]; exact h.r1)
  rw [f0, f1] at pm
  have e03 : zgi t 0 3 = μ.1 0 3 := zQ.o hd (k := 0) (a := 0) (b := 30) rfl (by decide) (by decide)
  have t8 : t.1 8 = μ.1 8 := zQ.ro hd (k := 8) rfl
  obtain ⟨k0, k1, k2, k3, k4, k5⟩ := h.2.2.1
  have kk : (σ.1 3 1 = 0 ↔ ¬ μ.1 0 3 = 2) := by
    rw [k3]
    by_cases q : μ.1 0 3 = 2
    · rw [if_pos q]; exact ⟨fun z => absurd z (by decide), fun z => absurd q z⟩
    · rw [if_neg q]; exact ⟨fun _ => q, fun _ => rfl⟩
  unfold fX12_colour
  refine zpc_bi pm (fun t1 v1 e1 => ?_)
  cases e1
  obtain ⟨M, eM⟩ : ∃ M, M = zmd (σ.1 23 0) (σ.1 23 1) := ⟨_, rfl⟩
  rw [← eM] at hm
  rw [← eM, e03]
  have ri : zr 0 31 (Int32.ofNat v) := z_ofr (by omega) (by omega)
  have ci := z_ofC (i := v) (by omega)
  refine zpc_if (fun m4 => ?_) (fun m4 => ?_)
  · unfold fX12_colour_62
    refine zpc_if (fun q => zpc_ck (zpc_ck (zpc_ck (zpc_some ?_)))) (fun q => zpc_ck (zpc_some ?_))
    · have r2 : zr 0 62 (2 * Int32.ofNat v) := zr_mul (zr_c (lo := 2) (hi := 2) (x := 2) (by decide)) ri (by decide)
      have t2 : (2 * Int32.ofNat v).toInt = 2 * (Int32.ofNat v).toInt := z_tmul (zr_c (lo := 2) (hi := 2) (x := 2) (by decide)) ri (by decide)
      rw [z_ofI (by omega)] at t2
      have c2 := z_clamp r2.1
      have i2 : (2 * Int32.ofNat v).toNatClampNeg = 2 * v := by omega
      have o2 : (32 + 2 * Int32.ofNat v).toNatClampNeg = 32 + 2 * v := by rw [z_off r2 (k := 32) rfl (by decide), i2]
      have r3 : zr 1 63 (2 * Int32.ofNat v + 1) := zr_add r2 (zr_c (lo := 1) (hi := 1) (x := 1) (by decide)) (by decide)
      have t3 := z_tadd r2 (zr_c (lo := 1) (hi := 1) (x := 1) (by decide)) (by decide)
      rw [show (1 : Int32).toInt = 1 from rfl] at t3
      have c3 := z_clamp (x := 2 * Int32.ofNat v + 1) (by have := r3.1; omega)
      have i3 : (2 * Int32.ofNat v + 1).toNatClampNeg = 2 * v + 1 := by omega
      have o3 : (32 + 2 * Int32.ofNat v + 1).toNatClampNeg = 32 + (2 * v + 1) := by
        have e : 32 + 2 * Int32.ofNat v + 1 = 32 + (2 * Int32.ofNat v + 1) := Int32.add_assoc _ _ _
        rw [e, z_off (x := 2 * Int32.ofNat v + 1) (c := 32) (k := 32) (a := 0) (b := 63) (zr_w r3 (by decide)) rfl (by decide), i3]
      unfold gCo
      rw [if_pos m4, if_neg (fun z => (kk.mp z) q), o2, o3, ← z_cr h.1 (j := 2 * v) (by omega), ← z_cr h.1 (j := 2 * v + 1) (by omega)]
      show (t, zrem ((t.1 8 (2 * Int32.ofNat v).toNatClampNeg &&& 255) ||| ((t.1 8 (2 * Int32.ofNat v + 1).toNatClampNeg &&& 255) <<< ((8 : Int32) &&& 31))) 4096) = _
      rw [t8, i2, i3, z_4096 (z_r8 _) (z_r8 _)]
    · have o1 : (32 + Int32.ofNat v).toNatClampNeg = 32 + v := by rw [z_off ri (k := 32) rfl (by decide), ci]
      unfold gCo
      rw [if_pos m4, if_pos (kk.mpr q), o1, ← z_cr h.1 (j := v) (by omega), ← z_63]
      show (t, t.1 8 (Int32.ofNat v).toNatClampNeg &&& 63) = _
      rw [t8, ci]
  · have v16 : v < 16 := hm.resolve_left m4
    have fin : ∀ c : Int32, zr 0 63 c → c = zt3 (Int32.ofNat v &&& 15).toNatClampNeg → zpc (fX12_colour_217 t c) (fun r => r = (t, gCo σ M (Int32.ofNat v))) := fun c rc ec => by
      unfold fX12_colour_217 fX12_colour_252
      rw [e03]
      refine zpc_if (fun q => zpc_ck (zpc_ck (zpc_ck (zpc_ck (zpc_some ?_))))) (fun q => zpc_some ?_)
      · unfold gCo
        rw [if_neg m4, if_neg (fun z => (kk.mp z) q), ← ec]
        obtain ⟨d, ed⟩ := z_F (m := 64) rc (by decide)
        rw [ed, v_gHc d]
      · unfold gCo
        rw [if_neg m4, if_pos (kk.mpr q), ec]
    have cs : v = 0 ∨ v = 1 ∨ v = 2 ∨ v = 3 ∨ v = 4 ∨ v = 5 ∨ v = 6 ∨ v = 7 ∨ v = 8 ∨ v = 9 ∨ v = 10 ∨ v = 11 ∨ v = 12 ∨ v = 13 ∨ v = 14 ∨ v = 15 := by omega
    rcases cs with z | z | z | z | z | z | z | z | z | z | z | z | z | z | z | z
    · subst z; exact zpc_if (fun y => absurd y (by decide)) (fun _ => zpc_if (fun y => absurd y (by decide)) (fun _ => zpc_if (fun y => absurd y (by decide)) (fun _ => zpc_if (fun y => absurd y (by decide)) (fun _ => zpc_if (fun y => absurd y (by decide)) (fun _ => zpc_if (fun y => absurd y (by decide)) (fun _ => zpc_if (fun y => absurd y (by decide)) (fun _ => zpc_if (fun y => absurd y (by decide)) (fun _ => zpc_if (fun y => absurd y (by decide)) (fun _ => zpc_if (fun y => absurd y (by decide)) (fun _ => zpc_if (fun y => absurd y (by decide)) (fun _ => zpc_if (fun y => absurd y (by decide)) (fun _ => zpc_if (fun y => absurd y (by decide)) (fun _ => zpc_if (fun y => absurd y (by decide)) (fun _ => (fin 0 (zr_c (by decide)) rfl)))))))))))))))
    · subst z; exact zpc_if (fun y => absurd y (by decide)) (fun _ => zpc_if (fun y => absurd y (by decide)) (fun _ => zpc_if (fun y => absurd y (by decide)) (fun _ => zpc_if (fun y => absurd y (by decide)) (fun _ => zpc_if (fun y => absurd y (by decide)) (fun _ => zpc_if (fun y => absurd y (by decide)) (fun _ => zpc_if (fun y => absurd y (by decide)) (fun _ => zpc_if (fun y => absurd y (by decide)) (fun _ => zpc_if (fun y => absurd y (by decide)) (fun _ => zpc_if (fun y => absurd y (by decide)) (fun _ => zpc_if (fun y => absurd y (by decide)) (fun _ => zpc_if (fun y => absurd y (by decide)) (fun _ => zpc_if (fun y => absurd y (by decide)) (fun _ => zpc_if (fun y => absurd y (by decide)) (fun _ => (fin 0 (zr_c (by decide)) rfl)))))))))))))))
    · subst z; exact zpc_if (fun _ => (fin 8 (zr_c (by decide)) rfl)) (fun y => absurd rfl y)
    · subst z; exact zpc_if (fun y => absurd y (by decide)) (fun _ => zpc_if (fun _ => (fin 12 (zr_c (by decide)) rfl)) (fun y => absurd rfl y))
    · subst z; exact zpc_if (fun y => absurd y (by decide)) (fun _ => zpc_if (fun y => absurd y (by decide)) (fun _ => zpc_if (fun _ => (fin 16 (zr_c (by decide)) rfl)) (fun y => absurd rfl y)))
    · subst z; exact zpc_if (fun y => absurd y (by decide)) (fun _ => zpc_if (fun y => absurd y (by decide)) (fun _ => zpc_if (fun y => absurd y (by decide)) (fun _ => zpc_if (fun _ => (fin 48 (zr_c (by decide)) rfl)) (fun y => absurd rfl y))))
    · subst z; exact zpc_if (fun y => absurd y (by decide)) (fun _ => zpc_if (fun y => absurd y (by decide)) (fun _ => zpc_if (fun y => absurd y (by decide)) (fun _ => zpc_if (fun y => absurd y (by decide)) (fun _ => zpc_if (fun _ => (fin 1 (zr_c (by decide)) rfl)) (fun y => absurd rfl y)))))
    · subst z; exact zpc_if (fun y => absurd y (by decide)) (fun _ => zpc_if (fun y => absurd y (by decide)) (fun _ => zpc_if (fun y => absurd y (by decide)) (fun _ => zpc_if (fun y => absurd y (by decide)) (fun _ => zpc_if (fun y => absurd y (by decide)) (fun _ => zpc_if (fun _ => (fin 60 (zr_c (by decide)) rfl)) (fun y => absurd rfl y))))))
    · subst z; exact zpc_if (fun y => absurd y (by decide)) (fun _ => zpc_if (fun y => absurd y (by decide)) (fun _ => zpc_if (fun y => absurd y (by decide)) (fun _ => zpc_if (fun y => absurd y (by decide)) (fun _ => zpc_if (fun y => absurd y (by decide)) (fun _ => zpc_if (fun y => absurd y (by decide)) (fun _ => zpc_if (fun _ => (fin 2 (zr_c (by decide)) rfl)) (fun y => absurd rfl y)))))))
    · subst z; exact zpc_if (fun y => absurd y (by decide)) (fun _ => zpc_if (fun y => absurd y (by decide)) (fun _ => zpc_if (fun y => absurd y (by decide)) (fun _ => zpc_if (fun y => absurd y (by decide)) (fun _ => zpc_if (fun y => absurd y (by decide)) (fun _ => zpc_if (fun y => absurd y (by decide)) (fun _ => zpc_if (fun y => absurd y (by decide)) (fun _ => zpc_if (fun _ => (fin 3 (zr_c (by decide)) rfl)) (fun y => absurd rfl y))))))))
    · subst z; exact zpc_if (fun y => absurd y (by decide)) (fun _ => zpc_if (fun y => absurd y (by decide)) (fun _ => zpc_if (fun y => absurd y (by decide)) (fun _ => zpc_if (fun y => absurd y (by decide)) (fun _ => zpc_if (fun y => absurd y (by decide)) (fun _ => zpc_if (fun y => absurd y (by decide)) (fun _ => zpc_if (fun y => absurd y (by decide)) (fun _ => zpc_if (fun y => absurd y (by decide)) (fun _ => zpc_if (fun _ => (fin 5 (zr_c (by decide)) rfl)) (fun y => absurd rfl y)))))))))
    · subst z; exact zpc_if (fun y => absurd y (by decide)) (fun _ => zpc_if (fun y => absurd y (by decide)) (fun _ => zpc_if (fun y => absurd y (by decide)) (fun _ => zpc_if (fun y => absurd y (by decide)) (fun _ => zpc_if (fun y => absurd y (by decide)) (fun _ => zpc_if (fun y => absurd y (by decide)) (fun _ => zpc_if (fun y => absurd y (by decide)) (fun _ => zpc_if (fun y => absurd y (by decide)) (fun _ => zpc_if (fun y => absurd y (by decide)) (fun _ => zpc_if (fun _ => (fin 15 (zr_c (by decide)) rfl)) (fun y => absurd rfl y))))))))))
    · subst z; exact zpc_if (fun y => absurd y (by decide)) (fun _ => zpc_if (fun y => absurd y (by decide)) (fun _ => zpc_if (fun y => absurd y (by decide)) (fun _ => zpc_if (fun y => absurd y (by decide)) (fun _ => zpc_if (fun y => absurd y (by decide)) (fun _ => zpc_if (fun y => absurd y (by decide)) (fun _ => zpc_if (fun y => absurd y (by decide)) (fun _ => zpc_if (fun y => absurd y (by decide)) (fun _ => zpc_if (fun y => absurd y (by decide)) (fun _ => zpc_if (fun y => absurd y (by decide)) (fun _ => zpc_if (fun _ => (fin 4 (zr_c (by decide)) rfl)) (fun y => absurd rfl y)))))))))))
    · subst z; exact zpc_if (fun y => absurd y (by decide)) (fun _ => zpc_if (fun y => absurd y (by decide)) (fun _ => zpc_if (fun y => absurd y (by decide)) (fun _ => zpc_if (fun y => absurd y (by decide)) (fun _ => zpc_if (fun y => absurd y (by decide)) (fun _ => zpc_if (fun y => absurd y (by decide)) (fun _ => zpc_if (fun y => absurd y (by decide)) (fun _ => zpc_if (fun y => absurd y (by decide)) (fun _ => zpc_if (fun y => absurd y (by decide)) (fun _ => zpc_if (fun y => absurd y (by decide)) (fun _ => zpc_if (fun y => absurd y (by decide)) (fun _ => zpc_if (fun _ => (fin 51 (zr_c (by decide)) rfl)) (fun y => absurd rfl y))))))))))))
    · subst z; exact zpc_if (fun y => absurd y (by decide)) (fun _ => zpc_if (fun y => absurd y (by decide)) (fun _ => zpc_if (fun y => absurd y (by decide)) (fun _ => zpc_if (fun y => absurd y (by decide)) (fun _ => zpc_if (fun y => absurd y (by decide)) (fun _ => zpc_if (fun y => absurd y (by decide)) (fun _ => zpc_if (fun y => absurd y (by decide)) (fun _ => zpc_if (fun y => absurd y (by decide)) (fun _ => zpc_if (fun y => absurd y (by decide)) (fun _ => zpc_if (fun y => absurd y (by decide)) (fun _ => zpc_if (fun y => absurd y (by decide)) (fun _ => zpc_if (fun y => absurd y (by decide)) (fun _ => zpc_if (fun _ => (fin 21 (zr_c (by decide)) rfl)) (fun y => absurd rfl y)))))))))))))
    · subst z; exact zpc_if (fun y => absurd y (by decide)) (fun _ => zpc_if (fun y => absurd y (by decide)) (fun _ => zpc_if (fun y => absurd y (by decide)) (fun _ => zpc_if (fun y => absurd y (by decide)) (fun _ => zpc_if (fun y => absurd y (by decide)) (fun _ => zpc_if (fun y => absurd y (by decide)) (fun _ => zpc_if (fun y => absurd y (by decide)) (fun _ => zpc_if (fun y => absurd y (by decide)) (fun _ => zpc_if (fun y => absurd y (by decide)) (fun _ => zpc_if (fun y => absurd y (by decide)) (fun _ => zpc_if (fun y => absurd y (by decide)) (fun _ => zpc_if (fun y => absurd y (by decide)) (fun _ => zpc_if (fun y => absurd y (by decide)) (fun _ => zpc_if (fun _ => (fin 63 (zr_c (by decide)) rfl)) (fun y => absurd rfl y))))))))))))))
/-- the painter's work keeps the relation -/
theorem zVe.draw (h : zVe σ μ) (hs : zdC σ s) (hd : zdM μ t) (hst : zStt s t) (hp : ∀ j : Nat, j < 61440 → t.1 9 j = s.1 25 j) : zVe s t := by
  have chk : (zTb.all (fun e => Nat.beq e.1 25 || ((Nat.beq e.1 23 && Nat.beq e.2.1 0) || (zof [25, 27, 28, 29] [(3, 7, 8), (23, 15, 15)] e.1 e.2.1 (e.2.1 + e.2.2.1 - 1) && zof [22, 23, 24, 25, 9] [(3, 62, 62)] e.2.2.2.1 e.2.2.2.2.1 (e.2.2.2.2.1 + e.2.2.1 - 1))))) = true := by decide +kernel
  have chg : (zGt.all (fun e => (Nat.beq e.1 23 && Nat.beq e.2.1 15) || zof [25, 27, 28, 29] [(3, 7, 8), (23, 15, 15)] e.1 e.2.1 (e.2.1 + e.2.2.1 - 1))) = true := by decide +kernel
  have only25 : ∀ e ∈ zTb, e.1 = 25 → e = (25, 0, 61440, 9, 0, (-1)) := by decide +kernel
  have only23 : ∀ e ∈ zTb, e.1 = 23 → e.2.1 = 0 → e = (23, 0, 17, 3, 47, (-1)) := by decide +kernel
  rw [List.all_eq_true] at chk chg
  refine h.of (fun e he i hi => ?_) (fun k j a b eg => ?_) ⟨zQ.o hs (k := 0) (a := 0) (b := 0) rfl (by decide) (by decide), zQ.o hs (k := 2) (a := 0) (b := 1) rfl (by decide) (by decide), hs.h, zQ.o hs (k := 6) (a := 0) (b := 0) rfl (by decide) (by decide), zQ.o hs (k := 2) (a := 0) (b := 1) rfl (by decide) (by decide)⟩ (zQ.o hd (k := 0) (a := 3) (b := 3) rfl (by decide) (by decide)) (hs.r2 (by decide) (by decide))
  · have z := chk e he
    rw [Bool.or_eq_true, Bool.or_eq_true, Bool.and_eq_true, Bool.and_eq_true] at z
    rcases z with z | ⟨z1, z2⟩ | ⟨z1, z2⟩
    · have ee := only25 e he (Nat.eq_of_beq_eq_true z)
      subst ee
      show t.1 9 (0 + i) &&& (-1) = s.1 25 (0 + i)
      rw [z_an1, Nat.zero_add]
      exact hp i hi
    · have ee := only23 e he (Nat.eq_of_beq_eq_true z1) (Nat.eq_of_beq_eq_true z2)
      subst ee
      have hi : i < 17 := hi
      show t.1 3 (47 + i) &&& (-1) = s.1 23 (0 + i)
      rw [z_an1, Nat.zero_add]
      by_cases y : i = 15
      · subst y
        exact hst.1
      · by_cases x : i ≤ 14
        · rw [hs.r x]
          exact h.ej hd x
        · have y16 : i = 16 := by omega
          subst y16
          rw [hs.r2 (by decide) (by decide), hd.r2 (by decide) (by decide)]
          exact h.e16
    · rw [zQ.o hs z1 (by omega) (by omega), zQ.o hd z2 (by omega) (by omega)]
      exact h.1 e he i hi
  · obtain ⟨e, he, e1, e2, e3⟩ := zGf_mem eg
    have z := chg e he
    rw [Bool.or_eq_true, Bool.and_eq_true] at z
    rcases z with ⟨z1, z2⟩ | z
    · have y1 : e.1 = 23 := Nat.eq_of_beq_eq_true z1
      have y2 : e.2.1 = 15 := Nat.eq_of_beq_eq_true z2
      have y3 : e.2.2.1 = 1 := by
        have w : ∀ e ∈ zGt, e.1 = 23 → e.2.1 = 15 → e.2.2.1 = 1 := by decide +kernel
        exact w e he y1 y2
      have k23 : k = 23 := e1.symm.trans y1
      have j15 : j = 15 := by omega
      subst k23
      subst j15
      have eg : some ((0 : Int), (255 : Int)) = some (a, b) := eg
      cases eg
      exact hst.2
    · rw [e1] at z
      rw [zQ.o hs z e2 (by omega)]
      exact h.2.1 k j a b eg
/-- the line, dot by dot, into the picture -/
theorem t_302 (h : zVe σ μ) {L : Int32} (hL : zr 0 239 L) : ∀ (n m i : Nat) (s t : zSt), i ≤ 256 → zdC σ s → zdM μ t → zStt s t → (∀ j : Nat, j < 61440 → t.1 9 j = s.1 25 j) → (∀ v : Nat, v < 32 → s.1 29 v = gCo σ (zmd (σ.1 23 0) (σ.1 23 1)) (Int32.ofNat v)) → (∀ j : Nat, j < 256 → ∃ v : Nat, v < 32 ∧ (zmd (σ.1 23 0) (σ.1 23 1) = 4 ∨ v < 16) ∧ t.1 22 j = Int32.ofNat v ∧ s.1 27 j &&& 31 = Int32.ofNat v) → zp2 (fX3_draw_152 n s L (Int32.ofNat i)) (fX12_draws_302 m t L (Int32.ofNat i)) (fun r r' => zVe r r' ∧ zdC σ r ∧ zdM μ r') := by
  intro n
  induction n with
  | zero => intro m i s t _ _ _ _ _ _ _; exact zp2_nl
  | succ n ih =>
    intro m i s t hi hs hd hst hp hc hn
    cases m with
    | zero => exact zp2_nr
    | succ m =>
      show zp2 (fX3_draw_152_body (fX3_draw_152 n) s L (Int32.ofNat i)) (fX12_draws_302_body (fX12_draws_302 m) t L (Int32.ofNat i)) _
      unfold fX3_draw_152_body fX12_draws_302_body
      refine zp2_if (fun _ => zp2_some ⟨h.draw hs hd hst hp, hs, hd⟩) (fun q => ?_)
      have hi2 : i < 256 := by
        have : ¬ 256 ≤ i := fun z => q ((z_ofL (c := 256) (k := 256) (i := i) (by omega) rfl).mpr z)
        omega
      obtain ⟨v, v1, v2, v3, v4⟩ := hn i hi2
      have ci := z_ofC (i := i) (by omega)
      have r6 : zr 0 61184 (256 * L) := zr_mul (zr_c (lo := 256) (hi := 256) (x := 256) (by decide)) hL (by decide)
      have ra : zr 0 61439 (256 * L + Int32.ofNat i) := zr_add r6 (z_ofr (b := 255) (by omega) (by omega)) (by decide)
      have ka := z_clamp ra.1
      have kb := ra.2
      rw [ci, Int32.mul_comm L 256]
      obtain ⟨A, eA⟩ : ∃ A, A = (256 * L + Int32.ofNat i).toNatClampNeg := ⟨_, rfl⟩
      rw [show zgi s 27 i &&& 31 = Int32.ofNat v from v4, show zgi t 22 i = Int32.ofNat v from v3, ← eA, z_ofS (by omega)]
      have hA : A < 61440 := by omega
      refine zp2_ckl (zp2_ckl (zp2_ckl (zp2_bvl (fun s1 f1 => zp2_bvl (fun x ex => ?_)))))
      subst ex
      rw [z_ofC (i := v) (by omega), show zgi s 29 v = gCo σ (zmd (σ.1 23 0) (σ.1 23 1)) (Int32.ofNat v) from hc v v1] at f1
      refine zp2_ckr (zp2_bir (m_col h hd v1 v2) (fun t1 w1 e1 => zp2_ckr (zp2_bvr (fun t3 g3 => zp2_bvr (fun x ex => ?_)))))
      cases e1
      subst ex
      refine ih m (i + 1) s1 t3 (by omega) (by rw [f1]; exact zQ.wi hs rfl) (by rw [g3]; exact zQ.wi hd rfl) ?_ (fun j hj => ?_) (fun w hw => ?_) (fun j hj => ?_)
      · unfold zStt
        rw [f1, g3, zsi_ne (by decide), zsi_ne (by decide)]
        exact hst
      · rw [f1, g3]
        by_cases z : j = A
        · rw [z, zsi_ej, zsi_ej]
        · rw [zsi_nj z, zsi_nj z]; exact hp j hj
      · rw [f1, zsi_ne (by decide)]; exact hc w hw
      · rw [f1, g3, zsi_ne (by decide), zsi_ne (by decide)]; exact hn j hj
end ZT7
end ZJN2
section ZJN3
/-! THE PAINTER, 8: THE FOURTH MODE, AND NO PICTURE -/
section ZT8
variable {σ μ s t : zSt}
theorem c_fill27 {v : Int32} {o : zSt} : ∀ (n i : Nat) (s : zSt), i ≤ 256 → zdC σ s → s.1 25 = o.1 25 → s.1 23 = o.1 23 → (∀ j : Nat, j < i → s.1 27 j = v) → zpc (fJ7_fill_53178_k27_5 n s v (Int32.ofNat i) 256) (fun r => zdC σ r ∧ r.1 25 = o.1 25 ∧ r.1 23 = o.1 23 ∧ ∀ j : Nat, j < 256 → r.1 27 j = v) := by
  intro n
  induction n with
  | zero => intro i s _ _ _ _ _; exact zpc_none
  | succ n ih =>
    intro i s hi hd e25 e23 hin
    show zpc (fJ7_fill_53178_k27_5_body (fJ7_fill_53178_k27_5 n) s v (Int32.ofNat i) 256) _
    unfold fJ7_fill_53178_k27_5_body
    refine zpc_if (fun q => zpc_some ?_) (fun q => ?_)
    · have := (z_ofL (k := 256) (by omega) rfl).mp q
      exact ⟨hd, e25, e23, fun j hj => hin j (by omega)⟩
    have hi2 : i < 256 := by
      have : ¬ 256 ≤ i := fun z => q ((z_ofL (c := 256) (k := 256) (i := i) (by omega) rfl).mpr z)
      omega
    rw [z_ofC (by omega), z_ofS (by omega)]
    refine zpc_ck (zpc_bv (fun s1 g1 => zpc_bv (fun x ex => ?_)))
    subst ex
    refine ih (i + 1) s1 (by omega) (by rw [g1]; exact zQ.wi hd rfl) (by rw [g1, zsi_ne (by decide)]; exact e25) (by rw [g1, zsi_ne (by decide)]; exact e23) (fun j hj => ?_)
    by_cases z : j = i
    · rw [z, g1, zsi_ej]
    · rw [g1, zsi_nj z]; exact hin j (by omega)
theorem c_fill8 {v : Int32} {o : zSt} : ∀ (n i : Nat) (s : zSt), i ≤ 8 → zdC σ s → s.1 25 = o.1 25 → s.1 23 = o.1 23 → (∀ j : Nat, j < i → s.1 27 j = v) → (∀ j : Nat, i ≤ j → s.1 27 j = o.1 27 j) → zpc (fJ7_fill_fda19_k27_10 n s 8 v (Int32.ofNat i)) (fun r => zdC σ r ∧ r.1 25 = o.1 25 ∧ r.1 23 = o.1 23 ∧ ∀ j : Nat, j < 256 → r.1 27 j = if j < 8 then v else o.1 27 j) := by
  intro n
  induction n with
  | zero => intro i s _ _ _ _ _ _; exact zpc_none
  | succ n ih =>
    intro i s hi hd e25 e23 hin hout
    show zpc (fJ7_fill_fda19_k27_10_body (fJ7_fill_fda19_k27_10 n) s 8 v (Int32.ofNat i)) _
    unfold fJ7_fill_fda19_k27_10_body
    refine zpc_if (fun q => zpc_some ?_) (fun q => ?_)
    · have := (z_ofL (k := 8) (by omega) rfl).mp q
      refine ⟨hd, e25, e23, fun j hj => ?_⟩
      by_cases z : j < 8
      · rw [if_pos z]; exact hin j (by omega)
      · rw [if_neg z]; exact hout j (by omega)
    have hi2 : i < 8 := by
      have : ¬ 8 ≤ i := fun z => q ((z_ofL (c := 8) (k := 8) (i := i) (by omega) rfl).mpr z)
      omega
    rw [z_ofC (by omega), z_ofS (by omega)]
    refine zpc_ck (zpc_bv (fun s1 g1 => zpc_bv (fun x ex => ?_)))
    subst ex
    refine ih (i + 1) s1 (by omega) (by rw [g1]; exact zQ.wi hd rfl) (by rw [g1, zsi_ne (by decide)]; exact e25) (by rw [g1, zsi_ne (by decide)]; exact e23) (fun j hj => ?_) (fun j hj => by rw [g1, zsi_nj (by omega)]; exact hout j (by omega))
    by_cases z : j = i
    · rw [z, g1, zsi_ej]
    · rw [g1, zsi_nj z]; exact hin j (by omega)
/-- what a line's dots are -/
noncomputable def zDt (σ s t : zSt) : Prop := ∀ j : Nat, j < 256 → ∃ v : Nat, v < 32 ∧ (zmd (σ.1 23 0) (σ.1 23 1) = 4 ∨ v < 16) ∧ t.1 22 j = Int32.ofNat v ∧ s.1 27 j &&& 31 = Int32.ofNat v
noncomputable def zFi (σ μ r r' : zSt) : Prop := zVe r r' ∧ zdC σ r ∧ zdM μ r'
theorem t_d144 (h : zVe σ μ) {L : Int32} (hL : zr 0 239 L) (hs : zdC σ s) (hd : zdM μ t) (hst : zStt s t) (hp : ∀ j : Nat, j < 61440 → t.1 9 j = s.1 25 j) (hn : zDt σ s t) : zp2 (fX3_draw_144 s L (zmd (σ.1 23 0) (σ.1 23 1))) (fX12_draws_302 zfuel t L 0) (zFi σ μ) := by
  unfold fX3_draw_144 fX3_mixColours
  refine zp2_bul (c_mix (σ := σ) (o := s) zfuel 0 s (by decide) hs rfl rfl rfl (fun j hj => absurd hj (by omega))) (fun s1 q => ?_)
  obtain ⟨q1, q2, q3, q4, q5⟩ := q
  refine t_302 h hL zfuel zfuel 0 s1 t (by decide) q1 hd ?_ (fun j hj => ?_) q5 (fun j hj => ?_)
  · unfold zStt
    rw [q4]
    exact hst
  · rw [q3]; exact hp j hj
  · rw [q2]; exact hn j hj
theorem v_bk : ∀ c : Fin 256, (Int32.ofNat c.val &&& 15) = Int32.ofNat (c.val % 16) ∧ zrem (Int32.ofNat c.val) 16 = Int32.ofNat (c.val % 16) := by decide +kernel
theorem v_31 : ∀ c : Fin 32, Int32.ofNat c.val &&& 31 = Int32.ofNat c.val := by decide +kernel
theorem v_16p : ∀ c : Fin 16, 16 + Int32.ofNat c.val = Int32.ofNat (16 + c.val) ∧ 0 + Int32.ofNat c.val = Int32.ofNat c.val := by decide +kernel
theorem v_oc : ∀ c : Fin 32, (Int32.ofNat c.val + 0) &&& 31 = Int32.ofNat c.val ∧ (Int32.ofNat c.val + 256) &&& 31 = Int32.ofNat c.val ∧ (Int32.ofNat c.val + 0) &&& 256 = 0 ∧ ¬ (Int32.ofNat c.val + 256) &&& 256 = 0 := by decide +kernel
/-- the fourth mode -/
theorem t_mode4 (h : zVe σ μ) {L bk : Int32} {b : Nat} (hL : zr 0 239 L) (hb : bk = Int32.ofNat b) (hb2 : b < 32) (hm : zmd (σ.1 23 0) (σ.1 23 1) = 4) (hs : zdC σ s) (hd : zdM μ t) (hst : zStt s t) (hp : ∀ j : Nat, j < 61440 → t.1 9 j = s.1 25 j) (h24 : ∀ j : Nat, j < 256 → t.1 24 j = 0 ∧ t.1 25 j = 0) : zp2 (zbu (fX3_drawTiles s L) (fun σ12 => zbu (fX3_drawSprites σ12 L) (fun σ13 => zbi (fX9_held σ13 0) (fun σ14 v15 => if (v15 &&& 32) = 0 then fX3_draw_144 σ14 L (zmd (σ.1 23 0) (σ.1 23 1)) else zbu (fJ7_fill_fda19_k27 σ14 0 8 bk) (fun σ16 => fX3_draw_144 σ16 L (zmd (σ.1 23 0) (σ.1 23 1))))))) (fX12_draws_97 zfuel t L bk 0) (zFi σ μ) := by
  refine zp2_bul (c_tiles (L := L) h hs) (fun s1 q => ?_)
  obtain ⟨⟨q1, q3, q4⟩, q2⟩ := q
  refine m_97 h hL (o := t) zfuel 0 t (by decide) hd rfl rfl h24 (fun j hj => absurd hj (by omega)) (fun t1 hd1 e3 e9 h24' e22 => ?_)
  have hst1 : zStt s1 t1 := by
    unfold zStt
    rw [q4, e3]
    exact hst
  refine zp2_buu (t_sprites h q1 hd1 hst1 (fun j hj => (h24' j hj).1)) (fun r t2 q => ?_)
  obtain ⟨w1, w2, w3, w4, w5, w6, w7, w8⟩ := q
  have hpr : ∀ j : Nat, j < 61440 → t2.1 9 j = r.1 25 j := fun j hj => by rw [w6, w3, e9, q3]; exact hp j hj
  have g0 : r.1 23 (0 : Int32).toNatClampNeg = σ.1 23 0 := w1.r (j := 0) (by decide)
  refine zp2_bil (p_held (x := 0) (zr_c (by decide))) (fun r1 v1 e1 => ?_)
  cases e1
  rw [g0]
  -- the dots behind the sprites
  have dots : ∀ j : Nat, j < 256 → ∃ v : Nat, v < 32 ∧ (if t2.1 24 j ≤ 0 then t2.1 22 j else if t2.1 23 j = 0 then t2.1 24 j else t2.1 22 j) = Int32.ofNat v ∧ r.1 27 j &&& 31 = Int32.ofNat v := fun j hj => by
    obtain ⟨z1, z2⟩ := w8 j hj
    obtain ⟨y1, y2⟩ := e22 j hj
    have x1 := q2 j hj
    obtain ⟨N, eN⟩ : ∃ N, N = tNu σ (tNm σ) (tAc σ L) (tSt σ) (tDn σ L) L (Int32.ofNat j) := ⟨_, rfl⟩
    obtain ⟨w, ew⟩ : ∃ w, w = tBi σ (tNm σ) (tAc σ L) (tSt σ) (tDn σ L) L (Int32.ofNat j) := ⟨_, rfl⟩
    rw [← eN, ← ew] at y1 y2 x1
    have rN : zr 0 15 N := by
      rw [eN]
      unfold tNu
      refine (z_gnum h.1 ?_).2
      have r7 : zr 0 7 (tCo (tAc σ L) (Int32.ofNat j) &&& 7) := zr_andr (lo := 0) (hi := 7) (zr_c (lo := 7) (hi := 7) (by decide)) (by decide)
      unfold tPc
      by_cases q : tBi σ (tNm σ) (tAc σ L) (tSt σ) (tDn σ L) L (Int32.ofNat j) &&& 512 = 0
      · rw [if_pos q]; exact r7
      · rw [if_neg q]; exact zr_sub (lo := 0) (hi := 7) (zr_c (lo := 7) (hi := 7) (x := 7) (by decide)) r7 (by decide)
    have r16 : zr 0 16 (o16 w) := by
      unfold o16
      by_cases q : w &&& 2048 = 0
      · rw [if_pos q]; exact zr_c (by decide)
      · rw [if_neg q]; exact zr_c (by decide)
    have rS : zr 0 31 (N + o16 w) := zr_add rN r16 (by decide)
    obtain ⟨c, ec⟩ := z_F (m := 32) rS (by decide)
    obtain ⟨c1, c2, c3, c4⟩ := v_oc c
    rw [← ec] at c1 c2 c3 c4
    obtain ⟨d, ed⟩ := z_F (m := 32) z1 (by decide)
    have d1 := v_31 d
    rw [← ed] at d1
    have ox : s1.1 27 j = (N + o16 w) + (if oAh N w = 0 then 0 else 256) := x1
    rw [w5, w4, y1, y2, z2, ox]
    by_cases a : t2.1 24 j ≤ 0
    · rw [if_pos a, if_pos a]
      refine ⟨c.val, c.isLt, ec, ?_⟩
      by_cases b : oAh N w = 0
      · rw [if_pos b, c1, ec]
      · rw [if_neg b, c2, ec]
    · rw [if_neg a, if_neg a]
      by_cases b : oAh N w = 0
      · rw [if_pos b, if_pos b, if_pos c3]
        exact ⟨d.val, d.isLt, ed, by rw [d1, ed]⟩
      · rw [if_neg b, if_neg b, if_neg c4]
        exact ⟨c.val, c.isLt, ec, by rw [c2, ec]⟩
  refine m_123 (μ := μ) (o := t2) zfuel 0 t2 (by decide) w2 rfl rfl rfl rfl (fun j hj => absurd hj (by omega)) (fun _ _ => rfl) (fun t3 hd3 a3 a9 a22 => ?_)
  refine m_168 h (o := t3) zfuel 0 t3 (by decide) hd3 rfl rfl (Or.inl rfl) (fun j hj => absurd hj (by omega)) (fun _ _ => rfl) (fun t4 hd4 b3 b9 b22 => ?_)
  have st4 : ∀ r2 : zSt, r2.1 23 = r.1 23 → zStt r2 t4 := fun r2 e => by
    unfold zStt
    rw [e, b3, a3]
    exact w7
  have pp4 : ∀ r2 : zSt, r2.1 25 = r.1 25 → ∀ j : Nat, j < 61440 → t4.1 9 j = r2.1 25 j := fun r2 e j hj => by
    rw [e, b9, a9]
    exact hpr j hj
  by_cases p : σ.1 23 0 &&& 32 = 0
  · rw [if_pos p]
    refine t_d144 h hL w1 hd4 (st4 r rfl) (pp4 r rfl) (fun j hj => ?_)
    obtain ⟨v, v1, v2, v3⟩ := dots j hj
    refine ⟨v, v1, Or.inl hm, ?_, v3⟩
    rw [b22 j hj, if_neg (fun z => z.2 p), a22 j hj]
    exact v2
  · rw [if_neg p]
    unfold fJ7_fill_fda19_k27 fJ7_rangeCheck_23922
    refine zp2_ubu (P := fun x => x = r) (zpc_if (fun _ => zpc_if (fun _ => zpc_if (fun _ => zpc_some rfl) (fun z => absurd (by decide) z)) (fun z => absurd (by decide) z)) (fun z => absurd (by decide) z)) (fun r1 e1 => ?_)
    subst e1
    refine zp2_bul (c_fill8 (σ := σ) (o := r1) zfuel 0 r1 (by decide) w1 rfl rfl (fun j hj => absurd hj (by omega)) (fun _ _ => rfl)) (fun r2 q => ?_)
    obtain ⟨u1, u2, u3, u4⟩ := q
    refine t_d144 h hL u1 hd4 (st4 r2 u3) (pp4 r2 u2) (fun j hj => ?_)
    by_cases z : j < 8
    · refine ⟨b, hb2, Or.inl hm, ?_, ?_⟩
      · rw [b22 j hj, if_pos ⟨z, p⟩, hb]
      · rw [u4 j hj, if_pos z, hb]
        exact v_31 ⟨b, hb2⟩
    · obtain ⟨v, v1, v2, v3⟩ := dots j hj
      refine ⟨v, v1, Or.inl hm, ?_, ?_⟩
      · rw [b22 j hj, if_neg (fun y => z y.1), a22 j hj]
        exact v2
      · rw [u4 j hj, if_neg z]
        exact v3
end ZT8
end ZJN3
