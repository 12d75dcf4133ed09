/-! THE PAINTER, 11: SPRITES OF THE OLD MODES -/
theorem v_s15 : ∀ i : Fin 16, (((15 - Int32.ofNat i.val) &&& 31).toBitVec.smod 32).toNat = 15 - i.val := by decide +kernel
theorem v_i16 : ∀ i : Fin 16, (Int32.ofNat i.val ≤ 7 ↔ i.val ≤ 7) ∧ zrem (Int32.ofNat i.val) 8 = Int32.ofNat (i.val % 8) := by decide +kernel
/-- two bytes side by side -/
theorem z_two {a b : Int32} (ha : zr 0 255 a) (hb : zr 0 255 b) {i : Nat} (hi : i < 16) : (((a <<< ((8 : Int32) &&& 31)) ||| b) >>> ((15 - Int32.ofNat i) &&& 31)) &&& 1 = if Int32.ofNat i ≤ 7 then (a >>> ((7 - zrem (Int32.ofNat i) 8) &&& 31)) &&& 1 else (b >>> ((7 - zrem (Int32.ofNat i) 8) &&& 31)) &&& 1 := by
  obtain ⟨q1, q2⟩ := v_i16 ⟨i, hi⟩
  have q1 : Int32.ofNat i ≤ 7 ↔ i ≤ 7 := q1
  have q2 : zrem (Int32.ofNat i) 8 = Int32.ofNat (i % 8) := q2
  have s15 : (((15 - Int32.ofNat i) &&& 31).toBitVec.smod 32).toNat = 15 - i := v_s15 ⟨i, hi⟩
  have s7 : (((7 - Int32.ofNat (i % 8)) &&& 31).toBitVec.smod 32).toNat = 7 - i % 8 := v_s7s ⟨i % 8, by omega⟩
  rw [q2, zbt_m0, zbt_m0, zbt_m0, zbt_sar s15 (by omega), zbt_sar s7 (by omega), zbt_sar s7 (by omega), zbt_or, zbt_shl (n := 8) rfl (by omega), Nat.add_zero, Nat.add_zero]
  by_cases z : i ≤ 7
  · rw [if_pos (q1.mpr z), decide_eq_false (by omega), zbt_by hb (i := 15 - i) (by omega) (by omega), show 15 - i - 8 = 7 - i % 8 by omega]
    cases zbt (7 - i % 8) a <;> rfl
  · rw [if_neg (fun y => z (q1.mp y)), decide_eq_true (by omega), show 15 - i = 7 - i % 8 by omega]
    cases zbt (7 - i % 8) b <;> rfl
theorem zp2_uubu {o : Option zSt} {f g : zSt → Option zSt} {C0 : zSt → Option zSt} {p : Option zSt} {Q : zSt → zSt → Prop} {P : zSt → Prop} (h : zpc o P) (k : ∀ s, P s → zp2 (zbu (zbu (f s) g) C0) p Q) : zp2 (zbu (zbu (zbu o f) g) C0) p Q := by
  cases e : o with
  | none => exact zp2_nl
  | some r => exact k r (h r e)
section ZTB
variable {σ μ s t s0 t0 : zSt}
def zOr (s t : zSt) : Prop := ∀ j : Nat, j < 256 → (s.1 28 j = 0 ∧ t.1 25 j = 0 ∧ t.1 24 j = 0) ∨ ∃ c : Fin 16, s.1 28 j = 256 ||| Int32.ofNat c.val ∧ t.1 25 j = 1 ∧ t.1 24 j = Int32.ofNat c.val
def zOi (σ μ s0 t0 s t : zSt) : Prop := zdC σ s ∧ zdM μ t ∧ s.1 27 = s0.1 27 ∧ s.1 25 = s0.1 25 ∧ t.1 22 = t0.1 22 ∧ t.1 9 = t0.1 9 ∧ zOr s t ∧ zStt s t
theorem zOi.st (h : zOi σ μ s0 t0 s t) {v : Int32} (hv : zr 0 255 v) : zOi σ μ s0 t0 (zsi s 23 15 v) (zsi t 3 62 v) := by
  obtain ⟨h1, h2, h3, h4, h5, h7, h8, h9⟩ := h
  refine ⟨zQ.wi h1 rfl, zQ.wi h2 rfl, by rw [zsi_ne (by decide)]; exact h3, by rw [zsi_ne (by decide)]; exact h4, by rw [zsi_ne (by decide)]; exact h5, by rw [zsi_ne (by decide)]; exact h7, fun j hj => by rw [zsi_ne (by decide), zsi_ne (by decide), zsi_ne (by decide)]; exact h8 j hj, ?_, ?_⟩
  · rw [zsi_ej, zsi_ej]
  · rw [zsi_ej]; exact hv
theorem v_256 : ∀ c : Fin 16, (256 ||| Int32.ofNat c.val) &&& 15 = Int32.ofNat c.val ∧ ¬ (256 ||| Int32.ofNat c.val) = 0 ∧ (Int32.ofNat c.val ≤ 0 ↔ Int32.ofNat c.val = 0) ∧ Int32.ofNat c.val &&& 15 = Int32.ofNat c.val := by decide +kernel
/-- a dot is taken -/
theorem zOi.dot (h : zOi σ μ s0 t0 s t) {j : Nat} (hj : j < 256) {d : Fin 16} {s1 t1 : zSt} (es : s1 = if s.1 28 j &&& 15 = 0 then zsi s 28 j (256 ||| Int32.ofNat d.val) else s) (et : t1 = if Int32.ofNat d.val ≤ 0 then zsi t 25 j 1 else if t.1 24 j = 0 then zsi (zsi t 25 j 1) 24 j (Int32.ofNat d.val) else zsi t 25 j 1) : zOi σ μ s0 t0 s1 t1 := by
  obtain ⟨h1, h2, h3, h4, h5, h7, h8, h9⟩ := h
  have fs : zdC σ s1 ∧ s1.1 27 = s.1 27 ∧ s1.1 25 = s.1 25 ∧ s1.1 23 = s.1 23 ∧ (∀ i : Nat, ¬ i = j → s1.1 28 i = s.1 28 i) := by
    rw [es]
    by_cases q : s.1 28 j &&& 15 = 0
    · rw [if_pos q]
      exact ⟨zQ.wi h1 rfl, zsi_ne (by decide), zsi_ne (by decide), zsi_ne (by decide), fun i hi => zsi_nj hi⟩
    · rw [if_neg q]
      exact ⟨h1, rfl, rfl, rfl, fun _ _ => rfl⟩
  have ft : zdM μ t1 ∧ t1.1 22 = t.1 22 ∧ t1.1 9 = t.1 9 ∧ t1.1 3 = t.1 3 ∧ (∀ i : Nat, ¬ i = j → t1.1 24 i = t.1 24 i ∧ t1.1 25 i = t.1 25 i) := by
    rw [et]
    by_cases q : Int32.ofNat d.val ≤ 0
    · rw [if_pos q]
      exact ⟨zQ.wi h2 rfl, zsi_ne (by decide), zsi_ne (by decide), zsi_ne (by decide), fun i hi => ⟨by rw [zsi_ne (by decide)], zsi_nj hi⟩⟩
    · rw [if_neg q]
      by_cases p : t.1 24 j = 0
      · rw [if_pos p]
        exact ⟨zQ.wi (zQ.wi h2 rfl) rfl, by rw [zsi_ne (by decide), zsi_ne (by decide)], by rw [zsi_ne (by decide), zsi_ne (by decide)], by rw [zsi_ne (by decide), zsi_ne (by decide)], fun i hi => ⟨by rw [zsi_nj hi, zsi_ne (by decide)], by rw [zsi_ne (by decide), zsi_nj hi]⟩⟩
      · rw [if_neg p]
        exact ⟨zQ.wi h2 rfl, zsi_ne (by decide), zsi_ne (by decide), zsi_ne (by decide), fun i hi => ⟨by rw [zsi_ne (by decide)], zsi_nj hi⟩⟩
  obtain ⟨a1, a2, a3, a4, a5⟩ := fs
  obtain ⟨b1, b2, b3, b4, b5⟩ := ft
  refine ⟨a1, b1, a2.trans h3, a3.trans h4, b2.trans h5, b3.trans h7, fun i hi => ?_, ?_⟩
  · by_cases z : i = j
    · subst z
      obtain ⟨w1, w2, w3, w4⟩ := v_256 d
      rcases h8 i hi with ⟨x1, x2, x3⟩ | ⟨c, x1, x2, x3⟩
      · right
        refine ⟨d, ?_, ?_, ?_⟩
        · rw [es, if_pos (by rw [x1]; decide), zsi_ej]
        · rw [et]
          by_cases q : Int32.ofNat d.val ≤ 0
          · rw [if_pos q]; exact zsi_ej
          · rw [if_neg q, if_pos x3, zsi_ne (by decide)]; exact zsi_ej
        · rw [et]
          by_cases q : Int32.ofNat d.val ≤ 0
          · rw [if_pos q, zsi_ne (by decide), x3, w3.mp q]
          · rw [if_neg q, if_pos x3]; exact zsi_ej
      · obtain ⟨y1, y2, y3, y4⟩ := v_256 c
        right
        by_cases p : Int32.ofNat c.val = 0
        · refine ⟨d, ?_, ?_, ?_⟩
          · rw [es, if_pos (by rw [x1, y1, p]), zsi_ej]
          · rw [et]
            by_cases q : Int32.ofNat d.val ≤ 0
            · rw [if_pos q]; exact zsi_ej
            · rw [if_neg q, if_pos (by rw [x3, p]), zsi_ne (by decide)]; exact zsi_ej
          · rw [et]
            by_cases q : Int32.ofNat d.val ≤ 0
            · rw [if_pos q, zsi_ne (by decide), x3, p, w3.mp q]
            · rw [if_neg q, if_pos (by rw [x3, p])]; exact zsi_ej
        · refine ⟨c, ?_, ?_, ?_⟩
          · rw [es, if_neg (by rw [x1, y1]; exact p)]; exact x1
          · rw [et]
            by_cases q : Int32.ofNat d.val ≤ 0
            · rw [if_pos q]; exact zsi_ej
            · rw [if_neg q, if_neg (by rw [x3]; exact p)]; exact zsi_ej
          · rw [et]
            by_cases q : Int32.ofNat d.val ≤ 0
            · rw [if_pos q, zsi_ne (by decide)]; exact x3
            · rw [if_neg q, if_neg (by rw [x3]; exact p), zsi_ne (by decide)]; exact x3
    · rw [a5 i z, (b5 i z).1, (b5 i z).2]
      exact h8 i hi
  · unfold zStt
    rw [b4, a4]
    exact h9
/-- large or small -/
def zLg (lg hg : Int32) : Prop := (lg = 0 ∧ hg = 8) ∨ (lg = 1 ∧ hg = 16)
theorem zZm.q {tw zm hg : Int32} {i : Nat} (h : zZm tw zm) (hh : hg = 8 ∨ hg = 16) (hi : ¬ hg * zm ≤ Int32.ofNat i) (h16 : i < 100000) : ∃ p : Nat, p < 16 ∧ (hg = 8 → p < 8) ∧ Int32.ofNat i >>> (tw &&& 31) = Int32.ofNat p ∧ Int32.ofNat i / zm = Int32.ofNat p ∧ i < 32 := by
  have v32a : ∀ i : Fin 32, Int32.ofNat i.val >>> ((0 : Int32) &&& 31) = Int32.ofNat i.val ∧ Int32.ofNat i.val / 1 = Int32.ofNat i.val ∧ Int32.ofNat i.val >>> ((1 : Int32) &&& 31) = Int32.ofNat (i.val / 2) ∧ Int32.ofNat i.val / 2 = Int32.ofNat (i.val / 2) := by decide +kernel
  have hi' : (Int32.ofNat i).toInt < (hg * zm).toInt := Int32.lt_iff_toInt_lt.mp (z_nle hi)
  rw [z_ofI h16] at hi'
  rcases h with ⟨a, b⟩ | ⟨a, b⟩ <;> subst a <;> subst b <;> rcases hh with c | c <;> subst c
  · rw [show ((8 : Int32) * 1).toInt = 8 from rfl] at hi'
    obtain ⟨x1, x2, x3, x4⟩ := v32a ⟨i, by omega⟩
    exact ⟨i, by omega, fun _ => by omega, x1, x2, by omega⟩
  · rw [show ((16 : Int32) * 1).toInt = 16 from rfl] at hi'
    obtain ⟨x1, x2, x3, x4⟩ := v32a ⟨i, by omega⟩
    exact ⟨i, by omega, fun z => absurd z (by decide), x1, x2, by omega⟩
  · rw [show ((8 : Int32) * 2).toInt = 16 from rfl] at hi'
    obtain ⟨x1, x2, x3, x4⟩ := v32a ⟨i, by omega⟩
    exact ⟨i / 2, by omega, fun _ => by omega, x3, x4, by omega⟩
  · rw [show ((16 : Int32) * 2).toInt = 32 from rfl] at hi'
    obtain ⟨x1, x2, x3, x4⟩ := v32a ⟨i, by omega⟩
    exact ⟨i / 2, by omega, fun z => absurd z (by decide), x3, x4, by omega⟩
theorem zZm.w2 {tw zm hg : Int32} (h : zZm tw zm) (hh : hg = 8 ∨ hg = 16) : hg <<< (tw &&& 31) = hg * zm := by
  rcases h with ⟨a, b⟩ | ⟨a, b⟩ <;> subst a <;> subst b <;> rcases hh with c | c <;> subst c <;> decide
abbrev zK6 := zSt → Int32 → Int32 → Int32 → Int32 → Int32 → Option zSt
/-- a sprite's dots, both sides -/
theorem t_158 (h : zVe σ μ) {C0 : zSt → Option zSt} {Q : zSt → zSt → Prop} {k40 : zK6} {L zm hg f nn rw_ pt le tw lg la A : Int32} {d : Fin 16} (hz : zZm tw zm) (hl : zLg lg hg) (hA : A = ((2048 * (σ.1 23 6 &&& 7)) + (8 * pt)) + (rw_ / zm)) (hd15 : la &&& 15 = Int32.ofNat d.val) (k : ∀ s t, zOi σ μ s0 t0 s t → zp2 (C0 s) (fX12_oldSprites_388 k40 t L zm hg f nn) Q) : ∀ (n m i : Nat) (s t : zSt), i ≤ 32 → zOi σ μ s0 t0 s t → zp2 (zbu (fX3_drawOldSprite_158 n s la le tw lg ((vb σ A <<< ((8 : Int32) &&& 31)) ||| (if lg = 0 then 0 else vb σ (A + 16))) (Int32.ofNat i)) C0) (fX12_oldSprites_231 k40 m t L zm hg f nn rw_ pt (Int32.ofNat d.val) le (Int32.ofNat i)) Q := by
  have hh : hg = 8 ∨ hg = 16 := hl.elim (fun z => Or.inl z.2) (fun z => Or.inr z.2)
  intro n
  induction n with
  | zero => intro m i s t _ _; exact zp2_nl
  | succ n ih =>
    intro m i s t hi hS
    cases m with
    | zero => exact zp2_nr
    | succ m =>
      obtain ⟨BB, eBB⟩ : ∃ BB, BB = (vb σ A <<< ((8 : Int32) &&& 31)) ||| (if lg = 0 then 0 else vb σ (A + 16)) := ⟨_, rfl⟩
      rw [← eBB] at ih ⊢
      show zp2 (zbu (fX3_drawOldSprite_158_body (fX3_drawOldSprite_158 n) s la le tw lg BB (Int32.ofNat i)) C0) (fX12_oldSprites_231_body k40 (fX12_oldSprites_231 k40 m) t L zm hg f nn rw_ pt (Int32.ofNat d.val) le (Int32.ofNat i)) Q
      have hd := hS.2.1
      have f6 : t.1 3 (47 + (6 : Int32)).toNatClampNeg = σ.1 23 6 := h.ej hd (j := 6) (by decide)
      have eC : fX3_drawOldSprite_158_body (fX3_drawOldSprite_158 n) s la le tw lg BB (Int32.ofNat i) = fX3_drawOldSprite_172 (fX3_drawOldSprite_158 n) s la le tw lg BB (Int32.ofNat i) hg (Int32.ofNat i) := by
        unfold fX3_drawOldSprite_158_body
        rcases hl with ⟨a, b⟩ | ⟨a, b⟩
        · rw [if_pos a, b]
        · rw [if_neg (by rw [a]; decide), b]
      rw [eC]
      unfold fX3_drawOldSprite_172 fX12_oldSprites_231_body
      rw [hz.w2 hh]
      by_cases q : hg * zm ≤ Int32.ofNat i
      · rw [if_pos q, if_pos q]
        exact k s t hS
      rw [if_neg q, if_neg q]
      obtain ⟨p, p16, p8, e1, e2, i32⟩ := hz.q hh q (by omega)
      have next : ∀ s t : zSt, zOi σ μ s0 t0 s t → zp2 (zbu (fX3_drawOldSprite_224 (fX3_drawOldSprite_158 n) s la le tw lg BB (Int32.ofNat i)) C0) (fX12_oldSprites_382 k40 (fX12_oldSprites_231 k40 m) t L zm hg f nn rw_ pt (Int32.ofNat d.val) le (Int32.ofNat i)) Q := fun s t a => by
        unfold fX3_drawOldSprite_224 fX12_oldSprites_382
        rw [z_ofS (by omega)]
        exact ih m (i + 1) s t (by omega) a
      have rb1 := vb_r h.1 A
      have rb2 : zr 0 255 (if lg = 0 then 0 else vb σ (A + 16)) := by
        by_cases z : lg = 0
        · rw [if_pos z]; exact zr_c (by decide)
        · rw [if_neg z]; exact vb_r h.1 _
      have bit := z_two rb1 rb2 p16
      rw [← eBB] at bit
      rw [e1, bit]
      -- the reference's bit
      have p7 : Int32.ofNat p ≤ 7 ↔ p ≤ 7 := (v_i16 ⟨p, p16⟩).1
      have pM : zp2 (zbu (zbv (le + Int32.ofNat i) (fun v2 => if (if Int32.ofNat p ≤ 7 then (vb σ A >>> ((7 - zrem (Int32.ofNat p) 8) &&& 31)) &&& 1 else ((if lg = 0 then 0 else vb σ (A + 16)) >>> ((7 - zrem (Int32.ofNat p) 8) &&& 31)) &&& 1) = 0 then fX3_drawOldSprite_224 (fX3_drawOldSprite_158 n) s la le tw lg BB (Int32.ofNat i) else if v2 < 0 then fX3_drawOldSprite_224 (fX3_drawOldSprite_158 n) s la le tw lg BB (Int32.ofNat i) else if 256 ≤ v2 then fX3_drawOldSprite_224 (fX3_drawOldSprite_158 n) s la le tw lg BB (Int32.ofNat i) else zbu (fX3_takeDot s v2 (la &&& 15)) (fun σ3 => fX3_drawOldSprite_224 (fX3_drawOldSprite_158 n) σ3 la le tw lg BB (Int32.ofNat i)))) C0) (if Int32.ofNat p ≤ 7 then fX12_oldSprites_283 k40 (fX12_oldSprites_231 k40 m) t L zm hg f nn rw_ pt (Int32.ofNat d.val) le (Int32.ofNat i) (Int32.ofNat p) 0 A else fX12_oldSprites_283 k40 (fX12_oldSprites_231 k40 m) t L zm hg f nn rw_ pt (Int32.ofNat d.val) le (Int32.ofNat i) (Int32.ofNat p) 16 A) Q := by
        have l283 : ∀ (y w : Int32), vb σ (A + y) = w → zp2 (zbu (if (w >>> ((7 - zrem (Int32.ofNat p) 8) &&& 31)) &&& 1 = 0 then fX3_drawOldSprite_224 (fX3_drawOldSprite_158 n) s la le tw lg BB (Int32.ofNat i) else if le + Int32.ofNat i < 0 then fX3_drawOldSprite_224 (fX3_drawOldSprite_158 n) s la le tw lg BB (Int32.ofNat i) else if 256 ≤ le + Int32.ofNat i then fX3_drawOldSprite_224 (fX3_drawOldSprite_158 n) s la le tw lg BB (Int32.ofNat i) else zbu (fX3_takeDot s (le + Int32.ofNat i) (la &&& 15)) (fun σ3 => fX3_drawOldSprite_224 (fX3_drawOldSprite_158 n) σ3 la le tw lg BB (Int32.ofNat i))) C0) (fX12_oldSprites_283 k40 (fX12_oldSprites_231 k40 m) t L zm hg f nn rw_ pt (Int32.ofNat d.val) le (Int32.ofNat i) (Int32.ofNat p) y A) Q := fun y w ew => by
          unfold fX12_oldSprites_283
          refine zp2_bir (p_v8 h.1 hd.v) (fun t1 v1 e1 => zp2_ckr (zp2_bvr (fun v7 e7 => zp2_bvr (fun v8 e8 => ?_))))
          cases e1
          rw [ew] at e7
          rw [← e7, e8]
          obtain ⟨X, eX⟩ : ∃ X, X = le + Int32.ofNat i := ⟨_, rfl⟩
          rw [← eX]
          by_cases b0 : v7 = 0
          · rw [if_pos b0, if_pos b0]
            exact next s t hS
          rw [if_neg b0, if_neg b0]
          by_cases x0 : X < 0
          · rw [if_pos x0, if_pos x0]
            exact next s t hS
          rw [if_neg x0, if_neg x0]
          have x0' := Int32.le_iff_toInt_le.mp (z_nlt x0)
          rw [show (0 : Int32).toInt = 0 from rfl] at x0'
          have e255 : 256 ≤ X ↔ ¬ X ≤ 255 := by
            rw [Int32.le_iff_toInt_le, Int32.le_iff_toInt_le, show (256 : Int32).toInt = 256 from rfl, show (255 : Int32).toInt = 255 from rfl]
            omega
          by_cases x1 : 256 ≤ X
          · rw [if_pos x1, if_neg (e255.mp x1)]
            exact next s t hS
          have x1' : X ≤ 255 := Decidable.byContradiction (fun z => x1 (e255.mpr z))
          rw [if_neg x1, if_pos x1']
          have x2 := Int32.le_iff_toInt_le.mp x1'
          rw [show (255 : Int32).toInt = 255 from rfl] at x2
          have kX := z_clamp (x := X) x0'
          have jX : X.toNatClampNeg < 256 := by omega
          rw [hd15]
          -- the dot itself
          have dot : ∀ s t : zSt, zOi σ μ s0 t0 s t → zp2 (zbu (zbu (fX3_takeDot_18 s X (Int32.ofNat d.val)) (fun σ3 => fX3_drawOldSprite_224 (fX3_drawOldSprite_158 n) σ3 la le tw lg BB (Int32.ofNat i))) C0) (fX12_oldSprites_350 k40 (fX12_oldSprites_231 k40 m) t L zm hg f nn rw_ pt (Int32.ofNat d.val) le (Int32.ofNat i) X) Q := fun s t a => by
            refine zp2_ubu (P := fun r => r = if s.1 28 X.toNatClampNeg &&& 15 = 0 then zsi s 28 X.toNatClampNeg (256 ||| Int32.ofNat d.val) else s) ?_ (fun s1 es => ?_)
            · unfold fX3_takeDot_18 fX3_takeDot_41
              refine zpc_ck (zpc_if (fun z => zpc_ck (zpc_bv (fun s1 f1 => zpc_some ?_))) (fun z => zpc_some ?_))
              · rw [if_pos (show s.1 28 X.toNatClampNeg &&& 15 = 0 from z), f1]
              · rw [if_neg (show ¬ s.1 28 X.toNatClampNeg &&& 15 = 0 from z)]
            · unfold fX12_oldSprites_350
              refine zp2_ckr (zp2_bvr (fun t3 g3 => ?_))
              have g3 : t3 = zsi t 25 X.toNatClampNeg 1 := g3
              have c24 : zgi t3 24 X.toNatClampNeg = t.1 24 X.toNatClampNeg := by rw [g3]; show (zsi t 25 X.toNatClampNeg 1).1 24 _ = _; rw [zsi_ne (by decide)]
              by_cases z : Int32.ofNat d.val ≤ 0
              · rw [if_pos z]
                exact next _ _ (a.dot jX es (t1 := t3) (by rw [if_pos z]; exact g3))
              · rw [if_neg z, c24]
                refine zp2_ckr ?_
                by_cases y : t.1 24 X.toNatClampNeg = 0
                · rw [if_pos y]
                  refine zp2_ckr (zp2_bvr (fun t4 g4 => ?_))
                  exact next _ _ (a.dot jX es (t1 := t4) (by rw [if_neg z, if_pos y, g4, g3]))
                · rw [if_neg y]
                  exact next _ _ (a.dot jX es (t1 := t3) (by rw [if_neg z, if_neg y]; exact g3))
          unfold fX3_takeDot
          rw [z_uck, z_uck]
          refine zp2_ckl (zp2_ckr ?_)
          have same : zgi s 28 X.toNatClampNeg = 0 ↔ zgi t 25 X.toNatClampNeg = 0 := by
            rcases hS.2.2.2.2.2.2.1 X.toNatClampNeg jX with ⟨a1, a2, a3⟩ | ⟨c, a1, a2, a3⟩
            · exact ⟨fun _ => a2, fun _ => a1⟩
            · refine ⟨fun z => absurd ((show s.1 28 X.toNatClampNeg = 0 from z).symm.trans a1) (fun y => (v_256 c).2.1 y.symm), fun z => absurd ((show t.1 25 X.toNatClampNeg = 0 from z).symm.trans a2) (by decide)⟩
          by_cases z : zgi s 28 X.toNatClampNeg = 0
          · rw [if_pos z, if_pos (same.mp z)]
            exact dot s t hS
          · rw [if_neg z, if_neg (fun y => z (same.mpr y))]
            refine zp2_ckr (zp2_ckr (zp2_bvr (fun t9 g9 => ?_)))
            have e62 : zgi t 3 (62 : Int32).toNatClampNeg = s.1 23 15 := hS.2.2.2.2.2.2.2.1
            rw [e62] at g9
            have r15 : zr 0 255 (s.1 23 15) := hS.2.2.2.2.2.2.2.2
            refine zp2_uubu (P := fun r => r = zsi s 23 15 (s.1 23 15 ||| 32)) (by unfold fX9_mark; exact zpc_ck (zpc_ck (zpc_bv (fun s1 f1 => zpc_some f1)))) (fun s1 f1 => ?_)
            rw [f1, g9]
            exact dot _ _ (hS.st (zr_or (lo := 0) (hi := 255) 8 r15 (zr_c (lo := 32) (hi := 32) (x := 32) (by decide)) (by decide)))
        by_cases z : Int32.ofNat p ≤ 7
        · rw [if_pos z, if_pos z]
          exact l283 0 (vb σ A) (by rw [Int32.add_zero])
        · rw [if_neg z, if_neg z]
          have lg1 : ¬ lg = 0 := fun y => by
            rcases hl with ⟨a, b⟩ | ⟨a, b⟩
            · exact z (p7.mpr (by have := p8 b; omega))
            · rw [a] at y; exact absurd y (by decide)
          rw [if_neg lg1]
          exact l283 16 (vb σ (A + 16)) rfl
      refine zp2_ckr (zp2_bvr (fun v10 e10 => ?_))
      rw [e2] at e10
      subst e10
      refine zp2_bir p_reg (fun t1 w1 e1 => zp2_ckr (zp2_ckr ?_))
      cases e1
      rw [f6, (z_o1 (h.rj (j := 6) (by decide))).2.1, ← hA]
      exact pM
end ZTB
