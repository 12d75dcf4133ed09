/-! THE PAINTER, 5: SPRITES -/
theorem zp2_ubi {o : Option (zSt × Int32)} {f : zSt → Int32 → Option zSt} {C0 : zSt → Option zSt} {p : Option zSt} {Q : zSt → zSt → Prop} {s : zSt} {v : Int32} (h : zpc o (fun r => r = (s, v))) (k : zp2 (zbu (f s v) C0) p Q) : zp2 (zbu (zbi o f) C0) p Q := by
  cases e : o with
  | none => exact zp2_nl
  | some r =>
    have z := h r e
    subst z
    exact k
theorem zp2_ubu {o : Option zSt} {f : zSt → Option zSt} {C0 : zSt → Option zSt} {p : Option zSt} {Q : zSt → zSt → Prop} {P : zSt → Prop} (h : zpc o P) (k : ∀ s, P s → zp2 (zbu (f s) C0) p Q) : zp2 (zbu (zbu o f) C0) p Q := by
  cases e : o with
  | none => exact zp2_nl
  | some r => exact k r (h r e)
section ZT5
variable {σ μ s t s0 t0 : zSt}
theorem c_fill28 {v : Int32} : ∀ (n i : Nat) (s : zSt), i ≤ 256 → zdC σ s → s.1 27 = s0.1 27 → s.1 25 = s0.1 25 → s.1 23 = s0.1 23 → (∀ j : Nat, j < i → s.1 28 j = v) → zpc (fJ7_fill_53178_k28_5 n s v (Int32.ofNat i) 256) (fun r => zdC σ r ∧ r.1 27 = s0.1 27 ∧ r.1 25 = s0.1 25 ∧ r.1 23 = s0.1 23 ∧ ∀ j : Nat, j < 256 → r.1 28 j = v) := by
  intro n
  induction n with
  | zero => intro i s _ _ _ _ _ _; exact zpc_none
  | succ n ih =>
    intro i s hi hd e27 e25 e23 hin
    show zpc (fJ7_fill_53178_k28_5_body (fJ7_fill_53178_k28_5 n) s v (Int32.ofNat i) 256) _
    unfold fJ7_fill_53178_k28_5_body
    refine zpc_if (fun q => zpc_some ?_) (fun q => ?_)
    · have := (z_ofL (k := 256) (by omega) rfl).mp q
      exact ⟨hd, e27, e25, e23, fun j hj => hin j (by omega)⟩
    have hi2 : i < 256 := by
      have : ¬ 256 ≤ i := fun z => q ((z_ofL (c := 256) (k := 256) (i := i) (by omega) rfl).mpr z)
      omega
    rw [z_ofC (by omega), z_ofS (by omega)]
    refine zpc_ck (zpc_bv (fun s1 g1 => zpc_bv (fun x ex => ?_)))
    subst ex
    refine ih (i + 1) s1 (by omega) (by rw [g1]; exact zQ.wi hd rfl) (by rw [g1, zsi_ne (by decide)]; exact e27) (by rw [g1, zsi_ne (by decide)]; exact e25) (by rw [g1, zsi_ne (by decide)]; exact e23) (fun j hj => ?_)
    by_cases z : j = i
    · rw [z, g1, zsi_ej]
    · rw [g1, zsi_nj z]; exact hin j (by omega)
def zSr (s t : zSt) : Prop := ∀ j : Nat, j < 256 → zr 0 15 (s.1 28 j) ∧ t.1 24 j = (if s.1 28 j ≤ 0 then 0 else 16 + s.1 28 j)
def zStt (s t : zSt) : Prop := t.1 3 62 = s.1 23 15 ∧ zr 0 255 (s.1 23 15)
def zSi (σ μ s0 t0 s t : zSt) : Prop := zdC σ s ∧ zdM μ t ∧ s.1 27 = s0.1 27 ∧ s.1 25 = s0.1 25 ∧ t.1 22 = t0.1 22 ∧ t.1 23 = t0.1 23 ∧ t.1 9 = t0.1 9 ∧ zSr s t ∧ zStt s t
/-- the painter's own cells 7 and 8 -/
theorem zSi.pl (h : zSi σ μ s0 t0 s t) {v : Int32} : zSi σ μ s0 t0 (zsi s 3 7 v) t := by
  obtain ⟨h1, h2, h3, h4, h5, h6, h7, h8, h9⟩ := h
  exact ⟨zQ.wi h1 rfl, h2, by rw [zsi_ne (by decide)]; exact h3, by rw [zsi_ne (by decide)]; exact h4, h5, h6, h7, fun j hj => by rw [zsi_ne (by decide)]; exact h8 j hj, h9⟩
/-- a status bit -/
theorem zSi.st (h : zSi σ μ s0 t0 s t) {v : Int32} (hv : zr 0 255 v) : zSi σ μ s0 t0 (zsi s 23 15 v) (zsi t 3 62 v) := by
  obtain ⟨h1, h2, h3, h4, h5, h6, h7, h8, h9⟩ := h
  refine ⟨zQ.wi h1 rfl, zQ.wi h2 rfl, by rw [zsi_ne (by decide)]; exact h3, by rw [zsi_ne (by decide)]; exact h4, by rw [zsi_ne (by decide)]; exact h5, by rw [zsi_ne (by decide)]; exact h6, by rw [zsi_ne (by decide)]; exact h7, fun j hj => by rw [zsi_ne (by decide), zsi_ne (by decide)]; exact h8 j hj, ?_, ?_⟩
  · rw [zsi_ej, zsi_ej]
  · rw [zsi_ej]; exact hv
/-- a dot of a sprite -/
theorem zSi.dot (h : zSi σ μ s0 t0 s t) {j : Nat} {N : Int32} (hN : zr 1 15 N) : zSi σ μ s0 t0 (zsi s 28 j N) (zsi t 24 j (16 + N)) := by
  obtain ⟨h1, h2, h3, h4, h5, h6, h7, h8, h9⟩ := h
  refine ⟨zQ.wi h1 rfl, zQ.wi h2 rfl, by rw [zsi_ne (by decide)]; exact h3, by rw [zsi_ne (by decide)]; exact h4, by rw [zsi_ne (by decide)]; exact h5, by rw [zsi_ne (by decide)]; exact h6, by rw [zsi_ne (by decide)]; exact h7, fun i hi => ?_, ?_⟩
  · by_cases z : i = j
    · rw [z, zsi_ej, zsi_ej]
      refine ⟨zr_w hN (by decide), ?_⟩
      rw [if_neg (zq_lef hN rfl (by decide))]
    · rw [zsi_nj z, zsi_nj z]
      exact h8 i hi
  · unfold zStt
    rw [zsi_ne (by decide), zsi_ne (by decide)]
    exact h9
theorem zSi.dot0 (h : zSi σ μ s0 t0 s t) {j : Nat} (hj : j < 256) : t.1 24 j ≤ 0 ↔ s.1 28 j ≤ 0 := by
  obtain ⟨r, e⟩ := h.2.2.2.2.2.2.2.1 j hj
  rw [e]
  by_cases q : s.1 28 j ≤ 0
  · rw [if_pos q]
    exact ⟨fun _ => q, fun _ => by decide⟩
  · rw [if_neg q]
    refine ⟨fun z => absurd z ?_, fun z => absurd z q⟩
    exact zq_lef (zr_add (lo := 16) (hi := 31) (zr_c (lo := 16) (hi := 16) (x := 16) (by decide)) r (by decide)) rfl (by decide)
theorem v_tw0 : ∀ i : Fin 16, Int32.ofNat i.val >>> ((0 : Int32) &&& 31) = Int32.ofNat i.val / 1 := by decide +kernel
theorem v_tw1 : ∀ i : Fin 16, Int32.ofNat i.val >>> ((1 : Int32) &&& 31) = Int32.ofNat i.val / 2 ∧ 0 ≤ (Int32.ofNat i.val / 2).toInt ∧ (Int32.ofNat i.val / 2).toInt ≤ 7 := by decide +kernel
theorem v_tw2 : ∀ i : Fin 8, 0 ≤ (Int32.ofNat i.val / 1).toInt ∧ (Int32.ofNat i.val / 1).toInt ≤ 7 := by decide +kernel
/-- zoom: the class's shift, the reference's factor -/
def zZm (tw zm : Int32) : Prop := (tw = 0 ∧ zm = 1) ∨ (tw = 1 ∧ zm = 2)
theorem zZm.w {tw zm : Int32} (h : zZm tw zm) : 8 <<< (tw &&& 31) = 8 * zm ∧ zr 8 16 (8 * zm) ∧ ¬ zm = 0 := by
  rcases h with ⟨a, b⟩ | ⟨a, b⟩ <;> subst a <;> subst b
  · exact ⟨by decide, zr_c (by decide), by decide⟩
  · exact ⟨by decide, zr_c (by decide), by decide⟩
theorem zZm.p {tw zm : Int32} (h : zZm tw zm) {i : Nat} (hi : ¬ 8 * zm ≤ Int32.ofNat i) (h16 : i < 100000) : Int32.ofNat i >>> (tw &&& 31) = Int32.ofNat i / zm ∧ zr 0 7 (Int32.ofNat i / zm) ∧ i < 16 := by
  have hi' : (Int32.ofNat i).toInt < (8 * zm).toInt := Int32.lt_iff_toInt_lt.mp (z_nle hi)
  rw [z_ofI h16] at hi'
  rcases h with ⟨a, b⟩ | ⟨a, b⟩ <;> subst a <;> subst b
  · rw [show (8 * (1 : Int32)).toInt = 8 from rfl] at hi'
    exact ⟨v_tw0 ⟨i, by omega⟩, v_tw2 ⟨i, by omega⟩, by omega⟩
  · rw [show (8 * (2 : Int32)).toInt = 16 from rfl] at hi'
    exact ⟨(v_tw1 ⟨i, by omega⟩).1, (v_tw1 ⟨i, by omega⟩).2, by omega⟩
theorem z_le0e {N : Int32} (h : zr 0 15 N) : N ≤ 0 ↔ N = 0 := by
  rw [Int32.le_iff_toInt_le, ← Int32.toInt_inj, show (0 : Int32).toInt = 0 from rfl]
  have := h.1
  omega
abbrev zK8 := zSt → Int32 → Int32 → Int32 → Int32 → Int32 → Int32 → Int32 → Option zSt
/-- a sprite's dots, both sides -/
theorem t_111 (h : zVe σ μ) {C0 : zSt → Option zSt} {Q : zSt → zSt → Prop} {k73 : zK8} {L tb zm hg f e nn rw_ ti le tw A : Int32} (hz : zZm tw zm) (hA : A = (32 * ti) + (4 * (zrem (rw_ / zm) 8))) (k : ∀ s t, zSi σ μ s0 t0 s t → zp2 (C0 s) (fX12_sprites_349 k73 t L tb zm hg f e nn) Q) : ∀ (n m i : Nat) (s t : zSt), i ≤ 16 → zSi σ μ s0 t0 s t → s.1 3 7 = gPl σ A → zp2 (zbu (fX3_drawSprite_111 n s le tw (Int32.ofNat i)) C0) (fX12_sprites_250 k73 m t L tb zm hg f e nn rw_ ti le (Int32.ofNat i)) Q := by
  intro n
  induction n with
  | zero => intro m i s t _ _ _; exact zp2_nl
  | succ n ih =>
    intro m i s t hi hS hp
    cases m with
    | zero => exact zp2_nr
    | succ m =>
      show zp2 (zbu (fX3_drawSprite_111_body (fX3_drawSprite_111 n) s le tw (Int32.ofNat i)) C0) (fX12_sprites_250_body k73 (fX12_sprites_250 k73 m) t L tb zm hg f e nn rw_ ti le (Int32.ofNat i)) Q
      unfold fX3_drawSprite_111_body fX12_sprites_250_body
      rw [hz.w.1]
      by_cases q : 8 * zm ≤ Int32.ofNat i
      · rw [if_pos q, if_pos q]
        exact k s t hS
      rw [if_neg q, if_neg q]
      obtain ⟨z1, z2, z3⟩ := hz.p q (by omega)
      have next : ∀ s t : zSt, zSi σ μ s0 t0 s t → s.1 3 7 = gPl σ A → zp2 (zbu (fX3_drawSprite_190 (fX3_drawSprite_111 n) s le tw (Int32.ofNat i)) C0) (fX12_sprites_343 k73 (fX12_sprites_250 k73 m) t L tb zm hg f e nn rw_ ti le (Int32.ofNat i)) Q := fun s t a b => by
        unfold fX3_drawSprite_190 fX12_sprites_343
        rw [z_ofS (by omega)]
        exact ih m (i + 1) s t (by omega) a b
      have hM := hS.2.1
      refine zp2_ckr (zp2_ckr (zp2_ckr (zp2_bir (p_tdot h.1 hM.v) (fun t1 v1 e1 => ?_))))
      cases e1
      rw [← hA]
      obtain ⟨eN, rN⟩ := z_gnum h.1 (x := A) z2
      obtain ⟨N, hN⟩ : ∃ N, N = gTd σ A (Int32.ofNat i / zm) := ⟨_, rfl⟩
      rw [← hN] at eN rN
      rw [← hN]
      refine zp2_bvr (fun v5 e5 => ?_)
      show zp2 (zbu (zbi (fX3_numberIn s (zgi s 3 7) (Int32.ofNat i >>> (tw &&& 31))) (fun σ3 v4 => if v4 ≤ 0 then fX3_drawSprite_190 (fX3_drawSprite_111 n) σ3 le tw (Int32.ofNat i) else if le + Int32.ofNat i < 0 then fX3_drawSprite_190 (fX3_drawSprite_111 n) σ3 le tw (Int32.ofNat i) else if 256 ≤ le + Int32.ofNat i then fX3_drawSprite_190 (fX3_drawSprite_111 n) σ3 le tw (Int32.ofNat i) else zck (zin (le + Int32.ofNat i) 256) (if (zgi σ3 28 (le + Int32.ofNat i).toNatClampNeg) ≤ 0 then zck (zin (le + Int32.ofNat i) 256) (zbv (zsi σ3 28 ((le + Int32.ofNat i).toNatClampNeg) v4) (fun σ5 => fX3_drawSprite_190 (fX3_drawSprite_111 n) σ5 le tw (Int32.ofNat i))) else zbu (fX9_mark σ3 32) (fun σ6 => fX3_drawSprite_190 (fX3_drawSprite_111 n) σ6 le tw (Int32.ofNat i))))) C0) _ Q
      have hn : zpc (fX3_numberIn s (zgi s 3 7) (Int32.ofNat i >>> (tw &&& 31))) (fun r => r = (s, N)) := by
        have z := p_numC (σ := s) (x := zgi s 3 7) (p := Int32.ofNat i >>> (tw &&& 31))
        rw [show zgi s 3 7 = gPl σ A from hp, z1, eN] at z
        rw [show zgi s 3 7 = gPl σ A from hp, z1]
        exact z
      refine zp2_ubi hn ?_
      rw [e5]
      obtain ⟨X, eX⟩ : ∃ X, X = le + Int32.ofNat i := ⟨_, rfl⟩
      rw [← eX]
      by_cases n0 : N = 0
      · rw [if_pos ((z_le0e rN).mpr n0), if_pos n0]
        exact next s t hS hp
      rw [if_neg (fun z => n0 ((z_le0e rN).mp z)), if_neg n0]
      by_cases x0 : X < 0
      · rw [if_pos x0, if_pos x0]
        exact next s t hS hp
      rw [if_neg x0, if_neg x0]
      have x0' := Int32.le_iff_toInt_le.mp (z_nlt x0)
      rw [show (0 : Int32).toInt = 0 from rfl] at x0'
      have e255 : 256 ≤ X ↔ ¬ X ≤ 255 := by
        rw [Int32.le_iff_toInt_le, Int32.le_iff_toInt_le, show (256 : Int32).toInt = 256 from rfl, show (255 : Int32).toInt = 255 from rfl]
        omega
      by_cases x1 : 256 ≤ X
      · rw [if_pos x1, if_neg (e255.mp x1)]
        exact next s t hS hp
      have x1' : X ≤ 255 := Decidable.byContradiction (fun z => x1 (e255.mpr z))
      rw [if_neg x1, if_pos x1']
      have x2 := Int32.le_iff_toInt_le.mp x1'
      rw [show (255 : Int32).toInt = 255 from rfl] at x2
      have kX := z_clamp (x := X) x0'
      have jX : X.toNatClampNeg < 256 := by omega
      have d0 := hS.dot0 jX
      rw [z_uck]
      refine zp2_ckl (zp2_ckr ?_)
      by_cases y : zgi s 28 X.toNatClampNeg ≤ 0
      · rw [if_pos y, if_pos (show zgi t 24 X.toNatClampNeg ≤ 0 from d0.mpr y), z_uck]
        refine zp2_ckl (zp2_ckr (zp2_bvr (fun t6 g6 => ?_)))
        rw [g6]
        have rN1 : zr 1 15 N := ⟨by have := rN.1; have : ¬ N.toInt = 0 := fun z => n0 (Int32.toInt_inj.mp z); omega, rN.2⟩
        exact next _ _ (hS.dot rN1) (by rw [zsi_ne (by decide)]; exact hp)
      · rw [if_neg y, if_neg (show ¬ zgi t 24 X.toNatClampNeg ≤ 0 from fun z => y (d0.mp z))]
        refine zp2_ckr (zp2_ckr (zp2_bvr (fun t6 g6 => ?_)))
        have e62 : zgi t 3 (62 : Int32).toNatClampNeg = s.1 23 15 := hS.2.2.2.2.2.2.2.2.1
        rw [e62] at g6
        have r15 : zr 0 255 (s.1 23 15) := hS.2.2.2.2.2.2.2.2.2
        have r15' : zr 0 255 (s.1 23 15 ||| 32) := zr_or (lo := 0) (hi := 255) 8 r15 (zr_c (lo := 32) (hi := 32) (x := 32) (by decide)) (by decide)
        refine zp2_ubu (P := fun r => r = zsi s 23 15 (s.1 23 15 ||| 32)) (by unfold fX9_mark; exact zpc_ck (zpc_ck (zpc_bv (fun s1 f1 => zpc_some f1)))) (fun s1 f1 => ?_)
        rw [f1, g6]
        exact next _ _ (hS.st r15') (by rw [zsi_ne (by decide)]; exact hp)
end ZT5
