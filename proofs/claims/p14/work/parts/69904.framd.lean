/-! frames, cell by cell -/
def zcv (R : List Nat) (A : List (Nat × Nat × Nat)) (k j : Nat) : Bool := R.any (Nat.beq k) || A.any (fun e => Nat.beq e.1 k && (Nat.ble e.2.1 j && Nat.ble j e.2.2))
def zQ (R : List Nat) (A : List (Nat × Nat × Nat)) (S : List Nat) (B : List (Nat × Nat × Nat)) (σ0 σ : zSt) : Prop := (∀ k j, zcv R A k j = false → σ.1 k j = σ0.1 k j) ∧ (∀ k j, zcv S B k j = false → σ.2 k j = σ0.2 k j)
section ZQ
variable {R S : List Nat} {A B : List (Nat × Nat × Nat)} {σ0 σ σ1 : zSt}
theorem zQ.rf : zQ R A S B σ σ := ⟨fun _ _ _ => rfl, fun _ _ _ => rfl⟩
theorem zQ.tr (h : zQ R A S B σ0 σ) (k : zQ R A S B σ σ1) : zQ R A S B σ0 σ1 := ⟨fun i j c => (k.1 i j c).trans (h.1 i j c), fun i j c => (k.2 i j c).trans (h.2 i j c)⟩
theorem zQ.wi (h : zQ R A S B σ0 σ) {k j : Nat} {v : Int32} (c : zcv R A k j = true) : zQ R A S B σ0 (zsi σ k j v) := by
  refine ⟨fun i l q => ?_, h.2⟩
  rw [zsi_off (fun r => by rw [r.1, r.2, c] at q; exact absurd q (by decide))]
  exact h.1 i l q
theorem zQ.wr (h : zQ R A S B σ0 σ) {k a b : Nat} {lo hi : Int} {x v : Int32} (hx : zr lo hi x) (m : A.any (fun e => Nat.beq e.1 k && (Nat.beq e.2.1 a && Nat.beq e.2.2 b)) = true) (c : (a : Int) ≤ lo ∧ hi ≤ (b : Int)) : zQ R A S B σ0 (zsi σ k x.toNatClampNeg v) := by
  refine h.wi ?_
  have h1 := hx.1
  have h2 := hx.2
  have kx := z_clamp (x := x) (by omega)
  unfold zcv
  rw [Bool.or_eq_true]
  right
  rw [List.any_eq_true] at m ⊢
  obtain ⟨e, e1, e2⟩ := m
  rw [Bool.and_eq_true, Bool.and_eq_true] at e2
  refine ⟨e, e1, ?_⟩
  rw [Bool.and_eq_true, Bool.and_eq_true]
  have a1 : e.2.1 = a := Nat.eq_of_beq_eq_true e2.2.1
  have b1 : e.2.2 = b := Nat.eq_of_beq_eq_true e2.2.2
  exact ⟨e2.1, Nat.ble_eq.mpr (by omega), Nat.ble_eq.mpr (by omega)⟩
theorem zr_ge {x c : Int32} {a b k : Int} (h : zr a b x) (hc : c.toInt = k) (q : c ≤ x) : zr k b x := ⟨by have := Int32.le_iff_toInt_le.mp q; omega, h.2⟩
theorem zr_nge {x c : Int32} {a b k m : Int} (h : zr a b x) (hc : c.toInt = k) (q : ¬ c ≤ x) (hm : k - 1 = m) : zr a m x := ⟨h.1, by have := Int32.lt_iff_toInt_lt.mp (z_nle q); omega⟩
theorem zsl_off {k j k1 j1 : Nat} {v : Int64} (h : ¬ (k1 = k ∧ j1 = j)) : (zsl σ k j v).2 k1 j1 = σ.2 k1 j1 := by
  show (bif Nat.beq k1 k then vp_updL (σ.2 k1) j v else σ.2 k1) j1 = _
  cases q : Nat.beq k1 k with
  | false => rfl
  | true =>
    show (if j1 = j then v else σ.2 k1 j1) = _
    rw [if_neg (fun r => h ⟨Nat.eq_of_beq_eq_true q, r⟩)]
theorem zQ.wl (h : zQ R A S B σ0 σ) {k j : Nat} {v : Int64} (c : zcv S B k j = true) : zQ R A S B σ0 (zsl σ k j v) := by
  refine ⟨h.1, fun i l q => ?_⟩
  rw [zsl_off (fun r => by rw [r.1, r.2, c] at q; exact absurd q (by decide))]
  exact h.2 i l q
end ZQ
theorem fd_fX9_height {σ0 : zSt} {σ : zSt} (h : (zQ [25, 27, 28, 29, 3] [(23, 15, 15)] [] []) σ0 σ) : zpc (fX9_height σ) (fun r => (zQ [25, 27, 28, 29, 3] [(23, 15, 15)] [] []) σ0 (r.1)) := by
  unfold fX9_height
  exact zpc_ck (zpc_if (fun _ => zpc_ck (zpc_if (fun _ => zpc_some h) (fun _ => zpc_if (fun _ => zpc_some h) (fun _ => zpc_some h)))) (fun _ => zpc_some h))
theorem fd_fX9_held_20 {σ0 : zSt} {σ : zSt} {s0 : Int32} (h : (zQ [25, 27, 28, 29, 3] [(23, 15, 15)] [] []) σ0 σ) : zpc (fX9_held_20 σ s0) (fun r => (zQ [25, 27, 28, 29, 3] [(23, 15, 15)] [] []) σ0 (r.1)) := by
  unfold fX9_held_20
  exact zpc_some h
theorem fd_fX9_held_19 {σ0 : zSt} {σ : zSt} (h : (zQ [25, 27, 28, 29, 3] [(23, 15, 15)] [] []) σ0 σ) : zpc (fX9_held_19 σ) (fun r => (zQ [25, 27, 28, 29, 3] [(23, 15, 15)] [] []) σ0 (r.1)) := by
  unfold fX9_held_19
  exact fd_fX9_held_20 h
theorem fd_fX9_held {σ0 : zSt} {σ : zSt} {x1 : Int32} (h : (zQ [25, 27, 28, 29, 3] [(23, 15, 15)] [] []) σ0 σ) : zpc (fX9_held σ x1) (fun r => (zQ [25, 27, 28, 29, 3] [(23, 15, 15)] [] []) σ0 (r.1)) := by
  unfold fX9_held
  exact zpc_if (fun _ => fd_fX9_held_19 h) (fun _ => zpc_if (fun _ => fd_fX9_held_19 h) (fun _ => zpc_ck (fd_fX9_held_20 h)))
theorem fd_fX9_mode_57 {σ0 : zSt} {σ : zSt} {s0 : Int32} (h : (zQ [25, 27, 28, 29, 3] [(23, 15, 15)] [] []) σ0 σ) : zpc (fX9_mode_57 σ s0) (fun r => (zQ [25, 27, 28, 29, 3] [(23, 15, 15)] [] []) σ0 (r.1)) := by
  unfold fX9_mode_57
  exact zpc_some h
theorem fd_fX9_mode {σ0 : zSt} {σ : zSt} (h : (zQ [25, 27, 28, 29, 3] [(23, 15, 15)] [] []) σ0 σ) : zpc (fX9_mode σ) (fun r => (zQ [25, 27, 28, 29, 3] [(23, 15, 15)] [] []) σ0 (r.1)) := by
  unfold fX9_mode
  exact zpc_ck (zpc_if (fun _ => zpc_ck (zpc_if (fun _ => zpc_ck (zpc_if (fun _ => zpc_ck (zpc_if (fun _ => fd_fX9_mode_57 h) (fun _ => fd_fX9_mode_57 h))) (fun _ => zpc_some h))) (fun _ => zpc_some h))) (fun _ => zpc_some h))
theorem fd_fJ7_fill_53178_k27_5_body {σ0 : zSt} {k5 : zSt → Int32 → Int32 → Int32 → Option (zSt)} (hk5 : ∀ (y0 : zSt) (y1 : Int32) (y2 : Int32) (y3 : Int32), (zQ [25, 27, 28, 29, 3] [(23, 15, 15)] [] []) σ0 y0 → zpc (k5 y0 y1 y2 y3) (fun r => (zQ [25, 27, 28, 29, 3] [(23, 15, 15)] [] []) σ0 (r))) {σ : zSt} {x1 : Int32} {x2 : Int32} {x3 : Int32} (h : (zQ [25, 27, 28, 29, 3] [(23, 15, 15)] [] []) σ0 σ) : zpc (fJ7_fill_53178_k27_5_body k5 σ x1 x2 x3) (fun r => (zQ [25, 27, 28, 29, 3] [(23, 15, 15)] [] []) σ0 (r)) := by
  unfold fJ7_fill_53178_k27_5_body
  exact zpc_if (fun _ => zpc_some h) (fun _ => zpc_ck (zpc_bs (zQ.wi h rfl) (fun σ1 hσ1 => zpc_bv (fun v2 _ => hk5 _ _ _ _ hσ1))))
theorem fd_fJ7_fill_53178_k27_5 {σ0 : zSt} : ∀ (n : Nat) (y0 : zSt) (y1 : Int32) (y2 : Int32) (y3 : Int32), (zQ [25, 27, 28, 29, 3] [(23, 15, 15)] [] []) σ0 y0 → zpc (fJ7_fill_53178_k27_5 n y0 y1 y2 y3) (fun r => (zQ [25, 27, 28, 29, 3] [(23, 15, 15)] [] []) σ0 (r)) := by
  intro n
  induction n with
  | zero => intro y0 y1 y2 y3 h; exact zpc_none
  | succ n ih => intro y0 y1 y2 y3 h; exact fd_fJ7_fill_53178_k27_5_body ih h
theorem fd_fJ7_fill_53178_k27 {σ0 : zSt} {σ : zSt} {x1 : Int32} (h : (zQ [25, 27, 28, 29, 3] [(23, 15, 15)] [] []) σ0 σ) : zpc (fJ7_fill_53178_k27 σ x1) (fun r => (zQ [25, 27, 28, 29, 3] [(23, 15, 15)] [] []) σ0 (r)) := by
  unfold fJ7_fill_53178_k27
  exact fd_fJ7_fill_53178_k27_5 _ _ _ _ _ h
theorem fd_fX3_mixColours_130 {σ0 : zSt} {k2 : zSt → Int32 → Int32 → Option (zSt)} (hk2 : ∀ (y0 : zSt) (y1 : Int32) (y2 : Int32), (zQ [25, 27, 28, 29, 3] [(23, 15, 15)] [] []) σ0 y0 → zpc (k2 y0 y1 y2) (fun r => (zQ [25, 27, 28, 29, 3] [(23, 15, 15)] [] []) σ0 (r))) {σ : zSt} {x1 : Int32} {x2 : Int32} (h : (zQ [25, 27, 28, 29, 3] [(23, 15, 15)] [] []) σ0 σ) : zpc (fX3_mixColours_130 k2 σ x1 x2) (fun r => (zQ [25, 27, 28, 29, 3] [(23, 15, 15)] [] []) σ0 (r)) := by
  unfold fX3_mixColours_130
  exact zpc_bv (fun v1 _ => hk2 _ _ _ h)
theorem fd_fX3_mixColours_78 {σ0 : zSt} {k2 : zSt → Int32 → Int32 → Option (zSt)} (hk2 : ∀ (y0 : zSt) (y1 : Int32) (y2 : Int32), (zQ [25, 27, 28, 29, 3] [(23, 15, 15)] [] []) σ0 y0 → zpc (k2 y0 y1 y2) (fun r => (zQ [25, 27, 28, 29, 3] [(23, 15, 15)] [] []) σ0 (r))) {σ : zSt} {x1 : Int32} {x2 : Int32} {s0 : Int32} {s1 : Int32} (h : (zQ [25, 27, 28, 29, 3] [(23, 15, 15)] [] []) σ0 σ) : zpc (fX3_mixColours_78 k2 σ x1 x2 s0 s1) (fun r => (zQ [25, 27, 28, 29, 3] [(23, 15, 15)] [] []) σ0 (r)) := by
  unfold fX3_mixColours_78
  exact zpc_ck (zpc_bs (zQ.wi h rfl) (fun σ2 hσ2 => fd_fX3_mixColours_130 hk2 hσ2))
theorem fd_fX3_mixColours_129 {σ0 : zSt} {k2 : zSt → Int32 → Int32 → Option (zSt)} (hk2 : ∀ (y0 : zSt) (y1 : Int32) (y2 : Int32), (zQ [25, 27, 28, 29, 3] [(23, 15, 15)] [] []) σ0 y0 → zpc (k2 y0 y1 y2) (fun r => (zQ [25, 27, 28, 29, 3] [(23, 15, 15)] [] []) σ0 (r))) {σ : zSt} {x1 : Int32} {x2 : Int32} {s0 : Int32} {s1 : Int32} (h : (zQ [25, 27, 28, 29, 3] [(23, 15, 15)] [] []) σ0 σ) : zpc (fX3_mixColours_129 k2 σ x1 x2 s0 s1) (fun r => (zQ [25, 27, 28, 29, 3] [(23, 15, 15)] [] []) σ0 (r)) := by
  unfold fX3_mixColours_129
  exact zpc_ck (zpc_bs (zQ.wi h rfl) (fun σ3 hσ3 => fd_fX3_mixColours_130 hk2 hσ3))
theorem fd_fX3_mixColours_2_body {σ0 : zSt} {k2 : zSt → Int32 → Int32 → Option (zSt)} (hk2 : ∀ (y0 : zSt) (y1 : Int32) (y2 : Int32), (zQ [25, 27, 28, 29, 3] [(23, 15, 15)] [] []) σ0 y0 → zpc (k2 y0 y1 y2) (fun r => (zQ [25, 27, 28, 29, 3] [(23, 15, 15)] [] []) σ0 (r))) {σ : zSt} {x1 : Int32} {x2 : Int32} (h : (zQ [25, 27, 28, 29, 3] [(23, 15, 15)] [] []) σ0 σ) : zpc (fX3_mixColours_2_body k2 σ x1 x2) (fun r => (zQ [25, 27, 28, 29, 3] [(23, 15, 15)] [] []) σ0 (r)) := by
  unfold fX3_mixColours_2_body
  exact zpc_if (fun _ => zpc_some h) (fun _ => zpc_if (fun _ => zpc_if (fun _ => zpc_bi (fd_fX9_held h) (fun σ5 v6 hσ5 => fd_fX3_mixColours_78 hk2 hσ5)) (fun _ => zpc_bi (fd_fX9_held h) (fun σ7 v8 hσ7 => zpc_bi (fd_fX9_held hσ7) (fun σ9 v10 hσ9 => fd_fX3_mixColours_78 hk2 hσ9)))) (fun _ => zpc_ck (zpc_bv (fun v4 _ => zpc_if (fun _ => fd_fX3_mixColours_129 hk2 h) (fun _ => fd_fX3_mixColours_129 hk2 h)))))
theorem fd_fX3_mixColours_2 {σ0 : zSt} : ∀ (n : Nat) (y0 : zSt) (y1 : Int32) (y2 : Int32), (zQ [25, 27, 28, 29, 3] [(23, 15, 15)] [] []) σ0 y0 → zpc (fX3_mixColours_2 n y0 y1 y2) (fun r => (zQ [25, 27, 28, 29, 3] [(23, 15, 15)] [] []) σ0 (r)) := by
  intro n
  induction n with
  | zero => intro y0 y1 y2 h; exact zpc_none
  | succ n ih => intro y0 y1 y2 h; exact fd_fX3_mixColours_2_body ih h
theorem fd_fX3_mixColours {σ0 : zSt} {σ : zSt} {x1 : Int32} (h : (zQ [25, 27, 28, 29, 3] [(23, 15, 15)] [] []) σ0 σ) : zpc (fX3_mixColours σ x1) (fun r => (zQ [25, 27, 28, 29, 3] [(23, 15, 15)] [] []) σ0 (r)) := by
  unfold fX3_mixColours
  exact fd_fX3_mixColours_2 _ _ _ _ h
theorem fd_fX9_vramByte {σ0 : zSt} {σ : zSt} {x1 : Int32} (h : (zQ [25, 27, 28, 29, 3] [(23, 15, 15)] [] []) σ0 σ) : zpc (fX9_vramByte σ x1) (fun r => (zQ [25, 27, 28, 29, 3] [(23, 15, 15)] [] []) σ0 (r.1)) := by
  unfold fX9_vramByte
  exact zpc_ck (zpc_some h)
theorem fd_fX3_takePlanes {σ0 : zSt} {σ : zSt} {x1 : Int32} (h : (zQ [25, 27, 28, 29, 3] [(23, 15, 15)] [] []) σ0 σ) : zpc (fX3_takePlanes σ x1) (fun r => (zQ [25, 27, 28, 29, 3] [(23, 15, 15)] [] []) σ0 (r)) := by
  unfold fX3_takePlanes
  exact zpc_bi (fd_fX9_vramByte h) (fun σ1 v2 hσ1 => zpc_bi (fd_fX9_vramByte hσ1) (fun σ3 v4 hσ3 => zpc_bi (fd_fX9_vramByte hσ3) (fun σ5 v6 hσ5 => zpc_bi (fd_fX9_vramByte hσ5) (fun σ7 v8 hσ7 => zpc_bs (zQ.wi hσ7 rfl) (fun σ9 hσ9 => zpc_some hσ9)))))
theorem fd_fX3_takeTile_60 {σ0 : zSt} {σ : zSt} {s0 : Int32} (h : (zQ [25, 27, 28, 29, 3] [(23, 15, 15)] [] []) σ0 σ) : zpc (fX3_takeTile_60 σ s0) (fun r => (zQ [25, 27, 28, 29, 3] [(23, 15, 15)] [] []) σ0 (r)) := by
  unfold fX3_takeTile_60
  exact zpc_bu (fd_fX3_takePlanes h) (fun σ1 hσ1 => zpc_some hσ1)
theorem fd_fX3_takeTile {σ0 : zSt} {σ : zSt} {x1 : Int32} {x2 : Int32} (h : (zQ [25, 27, 28, 29, 3] [(23, 15, 15)] [] []) σ0 σ) : zpc (fX3_takeTile σ x1 x2) (fun r => (zQ [25, 27, 28, 29, 3] [(23, 15, 15)] [] []) σ0 (r)) := by
  unfold fX3_takeTile
  exact zpc_bv (fun v2 _ => zpc_bi (fd_fX9_vramByte h) (fun σ3 v4 hσ3 => zpc_bi (fd_fX9_vramByte hσ3) (fun σ5 v6 hσ5 => zpc_bs (zQ.wi hσ5 rfl) (fun σ7 hσ7 => zpc_if (fun _ => fd_fX3_takeTile_60 hσ7) (fun _ => fd_fX3_takeTile_60 hσ7)))))
theorem fd_fX3_numberIn {σ0 : zSt} {σ : zSt} {x0 : Int32} {x1 : Int32} (h : (zQ [25, 27, 28, 29, 3] [(23, 15, 15)] [] []) σ0 σ) : zpc (fX3_numberIn σ x0 x1) (fun r => (zQ [25, 27, 28, 29, 3] [(23, 15, 15)] [] []) σ0 (r.1)) := by
  unfold fX3_numberIn
  exact zpc_bv (fun v1 _ => zpc_some h)
theorem fd_fX3_drawTiles_316 {σ0 : zSt} {k143 : zSt → Int32 → Int32 → Int32 → Int32 → Int32 → Int32 → Option (zSt)} (hk143 : ∀ (y0 : zSt) (y1 : Int32) (y2 : Int32) (y3 : Int32) (y4 : Int32) (y5 : Int32) (y6 : Int32), (zQ [25, 27, 28, 29, 3] [(23, 15, 15)] [] []) σ0 y0 → zpc (k143 y0 y1 y2 y3 y4 y5 y6) (fun r => (zQ [25, 27, 28, 29, 3] [(23, 15, 15)] [] []) σ0 (r))) {σ : zSt} {x1 : Int32} {x5 : Int32} {x6 : Int32} {x7 : Int32} {x8 : Int32} {x9 : Int32} {s0 : Int32} {s1 : Int32} {s2 : Int32} (h : (zQ [25, 27, 28, 29, 3] [(23, 15, 15)] [] []) σ0 σ) : zpc (fX3_drawTiles_316 k143 σ x1 x5 x6 x7 x8 x9 s0 s1 s2) (fun r => (zQ [25, 27, 28, 29, 3] [(23, 15, 15)] [] []) σ0 (r)) := by
  unfold fX3_drawTiles_316
  exact zpc_ck (zpc_bs (zQ.wi h rfl) (fun σ1 hσ1 => zpc_bv (fun v2 _ => hk143 _ _ _ _ _ _ _ hσ1)))
theorem fd_fX3_drawTiles_303 {σ0 : zSt} {k143 : zSt → Int32 → Int32 → Int32 → Int32 → Int32 → Int32 → Option (zSt)} (hk143 : ∀ (y0 : zSt) (y1 : Int32) (y2 : Int32) (y3 : Int32) (y4 : Int32) (y5 : Int32) (y6 : Int32), (zQ [25, 27, 28, 29, 3] [(23, 15, 15)] [] []) σ0 y0 → zpc (k143 y0 y1 y2 y3 y4 y5 y6) (fun r => (zQ [25, 27, 28, 29, 3] [(23, 15, 15)] [] []) σ0 (r))) {σ : zSt} {x1 : Int32} {x5 : Int32} {x6 : Int32} {x7 : Int32} {x8 : Int32} {x9 : Int32} {x13 : Int32} {s0 : Int32} {s1 : Int32} {s2 : Int32} (h : (zQ [25, 27, 28, 29, 3] [(23, 15, 15)] [] []) σ0 σ) : zpc (fX3_drawTiles_303 k143 σ x1 x5 x6 x7 x8 x9 x13 s0 s1 s2) (fun r => (zQ [25, 27, 28, 29, 3] [(23, 15, 15)] [] []) σ0 (r)) := by
  unfold fX3_drawTiles_303
  exact zpc_if (fun _ => fd_fX3_drawTiles_316 hk143 h) (fun _ => fd_fX3_drawTiles_316 hk143 h)
theorem fd_fX3_drawTiles_276 {σ0 : zSt} {k143 : zSt → Int32 → Int32 → Int32 → Int32 → Int32 → Int32 → Option (zSt)} (hk143 : ∀ (y0 : zSt) (y1 : Int32) (y2 : Int32) (y3 : Int32) (y4 : Int32) (y5 : Int32) (y6 : Int32), (zQ [25, 27, 28, 29, 3] [(23, 15, 15)] [] []) σ0 y0 → zpc (k143 y0 y1 y2 y3 y4 y5 y6) (fun r => (zQ [25, 27, 28, 29, 3] [(23, 15, 15)] [] []) σ0 (r))) {σ : zSt} {x1 : Int32} {x5 : Int32} {x6 : Int32} {x7 : Int32} {x8 : Int32} {x9 : Int32} {x12 : Int32} {s0 : Int32} (h : (zQ [25, 27, 28, 29, 3] [(23, 15, 15)] [] []) σ0 σ) : zpc (fX3_drawTiles_276 k143 σ x1 x5 x6 x7 x8 x9 x12 s0) (fun r => (zQ [25, 27, 28, 29, 3] [(23, 15, 15)] [] []) σ0 (r)) := by
  unfold fX3_drawTiles_276
  exact zpc_if (fun _ => fd_fX3_drawTiles_303 hk143 h) (fun _ => fd_fX3_drawTiles_303 hk143 h)
theorem fd_fX3_drawTiles_275 {σ0 : zSt} {k143 : zSt → Int32 → Int32 → Int32 → Int32 → Int32 → Int32 → Option (zSt)} (hk143 : ∀ (y0 : zSt) (y1 : Int32) (y2 : Int32) (y3 : Int32) (y4 : Int32) (y5 : Int32) (y6 : Int32), (zQ [25, 27, 28, 29, 3] [(23, 15, 15)] [] []) σ0 y0 → zpc (k143 y0 y1 y2 y3 y4 y5 y6) (fun r => (zQ [25, 27, 28, 29, 3] [(23, 15, 15)] [] []) σ0 (r))) {σ : zSt} {x1 : Int32} {x5 : Int32} {x6 : Int32} {x7 : Int32} {x8 : Int32} {x9 : Int32} {x12 : Int32} (h : (zQ [25, 27, 28, 29, 3] [(23, 15, 15)] [] []) σ0 σ) : zpc (fX3_drawTiles_275 k143 σ x1 x5 x6 x7 x8 x9 x12) (fun r => (zQ [25, 27, 28, 29, 3] [(23, 15, 15)] [] []) σ0 (r)) := by
  unfold fX3_drawTiles_275
  exact fd_fX3_drawTiles_276 hk143 h
theorem fd_fX3_drawTiles_242 {σ0 : zSt} {k143 : zSt → Int32 → Int32 → Int32 → Int32 → Int32 → Int32 → Option (zSt)} (hk143 : ∀ (y0 : zSt) (y1 : Int32) (y2 : Int32) (y3 : Int32) (y4 : Int32) (y5 : Int32) (y6 : Int32), (zQ [25, 27, 28, 29, 3] [(23, 15, 15)] [] []) σ0 y0 → zpc (k143 y0 y1 y2 y3 y4 y5 y6) (fun r => (zQ [25, 27, 28, 29, 3] [(23, 15, 15)] [] []) σ0 (r))) {σ : zSt} {x1 : Int32} {x5 : Int32} {x6 : Int32} {x7 : Int32} {x8 : Int32} {x9 : Int32} {s0 : Int32} (h : (zQ [25, 27, 28, 29, 3] [(23, 15, 15)] [] []) σ0 σ) : zpc (fX3_drawTiles_242 k143 σ x1 x5 x6 x7 x8 x9 s0) (fun r => (zQ [25, 27, 28, 29, 3] [(23, 15, 15)] [] []) σ0 (r)) := by
  unfold fX3_drawTiles_242
  exact zpc_bi (fd_fX3_numberIn h) (fun σ3 v4 hσ3 => zpc_if (fun _ => fd_fX3_drawTiles_275 hk143 hσ3) (fun _ => zpc_if (fun _ => fd_fX3_drawTiles_275 hk143 hσ3) (fun _ => fd_fX3_drawTiles_276 hk143 hσ3)))
theorem fd_fX3_drawTiles_215 {σ0 : zSt} {k143 : zSt → Int32 → Int32 → Int32 → Int32 → Int32 → Int32 → Option (zSt)} (hk143 : ∀ (y0 : zSt) (y1 : Int32) (y2 : Int32) (y3 : Int32) (y4 : Int32) (y5 : Int32) (y6 : Int32), (zQ [25, 27, 28, 29, 3] [(23, 15, 15)] [] []) σ0 y0 → zpc (k143 y0 y1 y2 y3 y4 y5 y6) (fun r => (zQ [25, 27, 28, 29, 3] [(23, 15, 15)] [] []) σ0 (r))) {σ : zSt} {x1 : Int32} {x5 : Int32} {x6 : Int32} {x7 : Int32} {x8 : Int32} {x9 : Int32} {x10 : Int32} (h : (zQ [25, 27, 28, 29, 3] [(23, 15, 15)] [] []) σ0 σ) : zpc (fX3_drawTiles_215 k143 σ x1 x5 x6 x7 x8 x9 x10) (fun r => (zQ [25, 27, 28, 29, 3] [(23, 15, 15)] [] []) σ0 (r)) := by
  unfold fX3_drawTiles_215
  exact zpc_if (fun _ => fd_fX3_drawTiles_242 hk143 h) (fun _ => fd_fX3_drawTiles_242 hk143 h)
theorem fd_fX3_drawTiles_212 {σ0 : zSt} {k143 : zSt → Int32 → Int32 → Int32 → Int32 → Int32 → Int32 → Option (zSt)} (hk143 : ∀ (y0 : zSt) (y1 : Int32) (y2 : Int32) (y3 : Int32) (y4 : Int32) (y5 : Int32) (y6 : Int32), (zQ [25, 27, 28, 29, 3] [(23, 15, 15)] [] []) σ0 y0 → zpc (k143 y0 y1 y2 y3 y4 y5 y6) (fun r => (zQ [25, 27, 28, 29, 3] [(23, 15, 15)] [] []) σ0 (r))) {σ : zSt} {x1 : Int32} {x5 : Int32} {x6 : Int32} {x7 : Int32} {x8 : Int32} {x9 : Int32} {x10 : Int32} {s0 : Int32} {s1 : Int32} (h : (zQ [25, 27, 28, 29, 3] [(23, 15, 15)] [] []) σ0 σ) : zpc (fX3_drawTiles_212 k143 σ x1 x5 x6 x7 x8 x9 x10 s0 s1) (fun r => (zQ [25, 27, 28, 29, 3] [(23, 15, 15)] [] []) σ0 (r)) := by
  unfold fX3_drawTiles_212
  exact zpc_bu (fd_fX3_takeTile h) (fun σ5 hσ5 => fd_fX3_drawTiles_215 hk143 hσ5)
theorem fd_fX3_drawTiles_210 {σ0 : zSt} {k143 : zSt → Int32 → Int32 → Int32 → Int32 → Int32 → Int32 → Option (zSt)} (hk143 : ∀ (y0 : zSt) (y1 : Int32) (y2 : Int32) (y3 : Int32) (y4 : Int32) (y5 : Int32) (y6 : Int32), (zQ [25, 27, 28, 29, 3] [(23, 15, 15)] [] []) σ0 y0 → zpc (k143 y0 y1 y2 y3 y4 y5 y6) (fun r => (zQ [25, 27, 28, 29, 3] [(23, 15, 15)] [] []) σ0 (r))) {σ : zSt} {x1 : Int32} {x5 : Int32} {x6 : Int32} {x7 : Int32} {x8 : Int32} {x9 : Int32} {x10 : Int32} {s0 : Int32} (h : (zQ [25, 27, 28, 29, 3] [(23, 15, 15)] [] []) σ0 σ) : zpc (fX3_drawTiles_210 k143 σ x1 x5 x6 x7 x8 x9 x10 s0) (fun r => (zQ [25, 27, 28, 29, 3] [(23, 15, 15)] [] []) σ0 (r)) := by
  unfold fX3_drawTiles_210
  exact fd_fX3_drawTiles_212 hk143 h
theorem fd_fX3_drawTiles_183 {σ0 : zSt} {k143 : zSt → Int32 → Int32 → Int32 → Int32 → Int32 → Int32 → Option (zSt)} (hk143 : ∀ (y0 : zSt) (y1 : Int32) (y2 : Int32) (y3 : Int32) (y4 : Int32) (y5 : Int32) (y6 : Int32), (zQ [25, 27, 28, 29, 3] [(23, 15, 15)] [] []) σ0 y0 → zpc (k143 y0 y1 y2 y3 y4 y5 y6) (fun r => (zQ [25, 27, 28, 29, 3] [(23, 15, 15)] [] []) σ0 (r))) {σ : zSt} {x1 : Int32} {x5 : Int32} {x6 : Int32} {x7 : Int32} {x8 : Int32} {x9 : Int32} {x10 : Int32} (h : (zQ [25, 27, 28, 29, 3] [(23, 15, 15)] [] []) σ0 σ) : zpc (fX3_drawTiles_183 k143 σ x1 x5 x6 x7 x8 x9 x10) (fun r => (zQ [25, 27, 28, 29, 3] [(23, 15, 15)] [] []) σ0 (r)) := by
  unfold fX3_drawTiles_183
  exact zpc_if (fun _ => fd_fX3_drawTiles_210 hk143 h) (fun _ => zpc_if (fun _ => fd_fX3_drawTiles_210 hk143 h) (fun _ => fd_fX3_drawTiles_212 hk143 h))
theorem fd_fX3_drawTiles_143_body {σ0 : zSt} {k143 : zSt → Int32 → Int32 → Int32 → Int32 → Int32 → Int32 → Option (zSt)} (hk143 : ∀ (y0 : zSt) (y1 : Int32) (y2 : Int32) (y3 : Int32) (y4 : Int32) (y5 : Int32) (y6 : Int32), (zQ [25, 27, 28, 29, 3] [(23, 15, 15)] [] []) σ0 y0 → zpc (k143 y0 y1 y2 y3 y4 y5 y6) (fun r => (zQ [25, 27, 28, 29, 3] [(23, 15, 15)] [] []) σ0 (r))) {σ : zSt} {x1 : Int32} {x5 : Int32} {x6 : Int32} {x7 : Int32} {x8 : Int32} {x9 : Int32} (h : (zQ [25, 27, 28, 29, 3] [(23, 15, 15)] [] []) σ0 σ) : zpc (fX3_drawTiles_143_body k143 σ x1 x5 x6 x7 x8 x9) (fun r => (zQ [25, 27, 28, 29, 3] [(23, 15, 15)] [] []) σ0 (r)) := by
  unfold fX3_drawTiles_143_body
  exact zpc_if (fun _ => zpc_some h) (fun _ => zpc_bv (fun v6 _ => zpc_if (fun _ => fd_fX3_drawTiles_183 hk143 h) (fun _ => zpc_if (fun _ => fd_fX3_drawTiles_183 hk143 h) (fun _ => zpc_if (fun _ => fd_fX3_drawTiles_183 hk143 h) (fun _ => fd_fX3_drawTiles_215 hk143 h)))))
theorem fd_fX3_drawTiles_143 {σ0 : zSt} : ∀ (n : Nat) (y0 : zSt) (y1 : Int32) (y2 : Int32) (y3 : Int32) (y4 : Int32) (y5 : Int32) (y6 : Int32), (zQ [25, 27, 28, 29, 3] [(23, 15, 15)] [] []) σ0 y0 → zpc (fX3_drawTiles_143 n y0 y1 y2 y3 y4 y5 y6) (fun r => (zQ [25, 27, 28, 29, 3] [(23, 15, 15)] [] []) σ0 (r)) := by
  intro n
  induction n with
  | zero => intro y0 y1 y2 y3 y4 y5 y6 h; exact zpc_none
  | succ n ih => intro y0 y1 y2 y3 y4 y5 y6 h; exact fd_fX3_drawTiles_143_body ih h
theorem fd_fX3_drawTiles_138 {σ0 : zSt} {σ : zSt} {x1 : Int32} {x5 : Int32} {x6 : Int32} {x7 : Int32} {s0 : Int32} (h : (zQ [25, 27, 28, 29, 3] [(23, 15, 15)] [] []) σ0 σ) : zpc (fX3_drawTiles_138 σ x1 x5 x6 x7 s0) (fun r => (zQ [25, 27, 28, 29, 3] [(23, 15, 15)] [] []) σ0 (r)) := by
  unfold fX3_drawTiles_138
  exact fd_fX3_drawTiles_143 _ _ _ _ _ _ _ _ h
theorem fd_fX3_drawTiles_122 {σ0 : zSt} {σ : zSt} {x1 : Int32} {x3 : Int32} {x5 : Int32} {x6 : Int32} {s0 : Int32} {s1 : Int32} (h : (zQ [25, 27, 28, 29, 3] [(23, 15, 15)] [] []) σ0 σ) : zpc (fX3_drawTiles_122 σ x1 x3 x5 x6 s0 s1) (fun r => (zQ [25, 27, 28, 29, 3] [(23, 15, 15)] [] []) σ0 (r)) := by
  unfold fX3_drawTiles_122
  exact zpc_ck (zpc_bv (fun v7 _ => zpc_if (fun _ => fd_fX3_drawTiles_138 h) (fun _ => fd_fX3_drawTiles_138 h)))
theorem fd_fX3_drawTiles_96 {σ0 : zSt} {σ : zSt} {x1 : Int32} {x2 : Int32} {x3 : Int32} {x5 : Int32} {s0 : Int32} (h : (zQ [25, 27, 28, 29, 3] [(23, 15, 15)] [] []) σ0 σ) : zpc (fX3_drawTiles_96 σ x1 x2 x3 x5 s0) (fun r => (zQ [25, 27, 28, 29, 3] [(23, 15, 15)] [] []) σ0 (r)) := by
  unfold fX3_drawTiles_96
  exact zpc_bi (fd_fX9_held h) (fun σ8 v9 hσ8 => zpc_if (fun _ => fd_fX3_drawTiles_122 hσ8) (fun _ => fd_fX3_drawTiles_122 hσ8))
theorem fd_fX3_drawTiles_87 {σ0 : zSt} {σ : zSt} {x1 : Int32} {x2 : Int32} {x3 : Int32} {x5 : Int32} (h : (zQ [25, 27, 28, 29, 3] [(23, 15, 15)] [] []) σ0 σ) : zpc (fX3_drawTiles_87 σ x1 x2 x3 x5) (fun r => (zQ [25, 27, 28, 29, 3] [(23, 15, 15)] [] []) σ0 (r)) := by
  unfold fX3_drawTiles_87
  exact zpc_bi (fd_fX9_held h) (fun σ10 v11 hσ10 => fd_fX3_drawTiles_96 hσ10)
theorem fd_fX3_drawTiles_68 {σ0 : zSt} {σ : zSt} {x1 : Int32} {x2 : Int32} {x3 : Int32} {s0 : Int32} (h : (zQ [25, 27, 28, 29, 3] [(23, 15, 15)] [] []) σ0 σ) : zpc (fX3_drawTiles_68 σ x1 x2 x3 s0) (fun r => (zQ [25, 27, 28, 29, 3] [(23, 15, 15)] [] []) σ0 (r)) := by
  unfold fX3_drawTiles_68
  exact zpc_if (fun _ => fd_fX3_drawTiles_87 h) (fun _ => zpc_if (fun _ => fd_fX3_drawTiles_87 h) (fun _ => fd_fX3_drawTiles_96 h))
theorem fd_fX3_drawTiles_18 {σ0 : zSt} {σ : zSt} {x1 : Int32} {s0 : Int32} (h : (zQ [25, 27, 28, 29, 3] [(23, 15, 15)] [] []) σ0 σ) : zpc (fX3_drawTiles_18 σ x1 s0) (fun r => (zQ [25, 27, 28, 29, 3] [(23, 15, 15)] [] []) σ0 (r)) := by
  unfold fX3_drawTiles_18
  exact zpc_bi (fd_fX9_held h) (fun σ12 v13 hσ12 => zpc_bi (fd_fX9_held hσ12) (fun σ14 v15 hσ14 => zpc_if (fun _ => fd_fX3_drawTiles_68 hσ14) (fun _ => fd_fX3_drawTiles_68 hσ14)))
theorem fd_fX3_drawTiles {σ0 : zSt} {σ : zSt} {x1 : Int32} (h : (zQ [25, 27, 28, 29, 3] [(23, 15, 15)] [] []) σ0 σ) : zpc (fX3_drawTiles σ x1) (fun r => (zQ [25, 27, 28, 29, 3] [(23, 15, 15)] [] []) σ0 (r)) := by
  unfold fX3_drawTiles
  exact zpc_bi (fd_fX9_height h) (fun σ16 v17 hσ16 => zpc_if (fun _ => fd_fX3_drawTiles_18 hσ16) (fun _ => fd_fX3_drawTiles_18 hσ16))
theorem fd_fJ7_fill_53178_k28_5_body {σ0 : zSt} {k5 : zSt → Int32 → Int32 → Int32 → Option (zSt)} (hk5 : ∀ (y0 : zSt) (y1 : Int32) (y2 : Int32) (y3 : Int32), (zQ [25, 27, 28, 29, 3] [(23, 15, 15)] [] []) σ0 y0 → zpc (k5 y0 y1 y2 y3) (fun r => (zQ [25, 27, 28, 29, 3] [(23, 15, 15)] [] []) σ0 (r))) {σ : zSt} {x1 : Int32} {x2 : Int32} {x3 : Int32} (h : (zQ [25, 27, 28, 29, 3] [(23, 15, 15)] [] []) σ0 σ) : zpc (fJ7_fill_53178_k28_5_body k5 σ x1 x2 x3) (fun r => (zQ [25, 27, 28, 29, 3] [(23, 15, 15)] [] []) σ0 (r)) := by
  unfold fJ7_fill_53178_k28_5_body
  exact zpc_if (fun _ => zpc_some h) (fun _ => zpc_ck (zpc_bs (zQ.wi h rfl) (fun σ1 hσ1 => zpc_bv (fun v2 _ => hk5 _ _ _ _ hσ1))))
theorem fd_fJ7_fill_53178_k28_5 {σ0 : zSt} : ∀ (n : Nat) (y0 : zSt) (y1 : Int32) (y2 : Int32) (y3 : Int32), (zQ [25, 27, 28, 29, 3] [(23, 15, 15)] [] []) σ0 y0 → zpc (fJ7_fill_53178_k28_5 n y0 y1 y2 y3) (fun r => (zQ [25, 27, 28, 29, 3] [(23, 15, 15)] [] []) σ0 (r)) := by
  intro n
  induction n with
  | zero => intro y0 y1 y2 y3 h; exact zpc_none
  | succ n ih => intro y0 y1 y2 y3 h; exact fd_fJ7_fill_53178_k28_5_body ih h
theorem fd_fJ7_fill_53178_k28 {σ0 : zSt} {σ : zSt} {x1 : Int32} (h : (zQ [25, 27, 28, 29, 3] [(23, 15, 15)] [] []) σ0 σ) : zpc (fJ7_fill_53178_k28 σ x1) (fun r => (zQ [25, 27, 28, 29, 3] [(23, 15, 15)] [] []) σ0 (r)) := by
  unfold fJ7_fill_53178_k28
  exact fd_fJ7_fill_53178_k28_5 _ _ _ _ _ h
theorem fd_fX3_rowOfSprite_56 {σ0 : zSt} {σ : zSt} {s0 : Int32} (h : (zQ [25, 27, 28, 29, 3] [(23, 15, 15)] [] []) σ0 σ) : zpc (fX3_rowOfSprite_56 σ s0) (fun r => (zQ [25, 27, 28, 29, 3] [(23, 15, 15)] [] []) σ0 (r.1)) := by
  unfold fX3_rowOfSprite_56
  exact zpc_some h
theorem fd_fX3_rowOfSprite_47 {σ0 : zSt} {σ : zSt} {x4 : Int32} {s0 : Int32} {s1 : Int32} (h : (zQ [25, 27, 28, 29, 3] [(23, 15, 15)] [] []) σ0 σ) : zpc (fX3_rowOfSprite_47 σ x4 s0 s1) (fun r => (zQ [25, 27, 28, 29, 3] [(23, 15, 15)] [] []) σ0 (r.1)) := by
  unfold fX3_rowOfSprite_47
  exact zpc_if (fun _ => fd_fX3_rowOfSprite_56 h) (fun _ => fd_fX3_rowOfSprite_56 h)
theorem fd_fX3_rowOfSprite_32 {σ0 : zSt} {σ : zSt} {x3 : Int32} {x4 : Int32} (h : (zQ [25, 27, 28, 29, 3] [(23, 15, 15)] [] []) σ0 σ) : zpc (fX3_rowOfSprite_32 σ x3 x4) (fun r => (zQ [25, 27, 28, 29, 3] [(23, 15, 15)] [] []) σ0 (r.1)) := by
  unfold fX3_rowOfSprite_32
  exact zpc_if (fun _ => fd_fX3_rowOfSprite_47 h) (fun _ => fd_fX3_rowOfSprite_47 h)
theorem fd_fX3_rowOfSprite {σ0 : zSt} {σ : zSt} {x1 : Int32} {x2 : Int32} (h : (zQ [25, 27, 28, 29, 3] [(23, 15, 15)] [] []) σ0 σ) : zpc (fX3_rowOfSprite σ x1 x2) (fun r => (zQ [25, 27, 28, 29, 3] [(23, 15, 15)] [] []) σ0 (r.1)) := by
  unfold fX3_rowOfSprite
  exact zpc_bi (fd_fX9_held h) (fun σ1 v2 hσ1 => zpc_bv (fun v3 _ => zpc_if (fun _ => fd_fX3_rowOfSprite_32 hσ1) (fun _ => zpc_bv (fun v4 _ => fd_fX3_rowOfSprite_32 hσ1))))
theorem fd_fX9_mark {σ0 : zSt} {σ : zSt} {x1 : Int32} (h : (zQ [25, 27, 28, 29, 3] [(23, 15, 15)] [] []) σ0 σ) : zpc (fX9_mark σ x1) (fun r => (zQ [25, 27, 28, 29, 3] [(23, 15, 15)] [] []) σ0 (r)) := by
  unfold fX9_mark
  exact zpc_ck (zpc_ck (zpc_bs (zQ.wi h rfl) (fun σ1 hσ1 => zpc_some hσ1)))
theorem fd_fX3_drawSprite_190 {σ0 : zSt} {k111 : zSt → Int32 → Int32 → Int32 → Option (zSt)} (hk111 : ∀ (y0 : zSt) (y1 : Int32) (y2 : Int32) (y3 : Int32), (zQ [25, 27, 28, 29, 3] [(23, 15, 15)] [] []) σ0 y0 → zpc (k111 y0 y1 y2 y3) (fun r => (zQ [25, 27, 28, 29, 3] [(23, 15, 15)] [] []) σ0 (r))) {σ : zSt} {x3 : Int32} {x6 : Int32} {x7 : Int32} (h : (zQ [25, 27, 28, 29, 3] [(23, 15, 15)] [] []) σ0 σ) : zpc (fX3_drawSprite_190 k111 σ x3 x6 x7) (fun r => (zQ [25, 27, 28, 29, 3] [(23, 15, 15)] [] []) σ0 (r)) := by
  unfold fX3_drawSprite_190
  exact zpc_bv (fun v1 _ => hk111 _ _ _ _ h)
theorem fd_fX3_drawSprite_111_body {σ0 : zSt} {k111 : zSt → Int32 → Int32 → Int32 → Option (zSt)} (hk111 : ∀ (y0 : zSt) (y1 : Int32) (y2 : Int32) (y3 : Int32), (zQ [25, 27, 28, 29, 3] [(23, 15, 15)] [] []) σ0 y0 → zpc (k111 y0 y1 y2 y3) (fun r => (zQ [25, 27, 28, 29, 3] [(23, 15, 15)] [] []) σ0 (r))) {σ : zSt} {x3 : Int32} {x6 : Int32} {x7 : Int32} (h : (zQ [25, 27, 28, 29, 3] [(23, 15, 15)] [] []) σ0 σ) : zpc (fX3_drawSprite_111_body k111 σ x3 x6 x7) (fun r => (zQ [25, 27, 28, 29, 3] [(23, 15, 15)] [] []) σ0 (r)) := by
  unfold fX3_drawSprite_111_body
  exact zpc_if (fun _ => zpc_some h) (fun _ => zpc_bv (fun v2 _ => zpc_bi (fd_fX3_numberIn h) (fun σ3 v4 hσ3 => zpc_if (fun _ => fd_fX3_drawSprite_190 hk111 hσ3) (fun _ => zpc_if (fun _ => fd_fX3_drawSprite_190 hk111 hσ3) (fun _ => zpc_if (fun _ => fd_fX3_drawSprite_190 hk111 hσ3) (fun _ => zpc_ck (zpc_if (fun _ => zpc_ck (zpc_bs (zQ.wi hσ3 rfl) (fun σ5 hσ5 => fd_fX3_drawSprite_190 hk111 hσ5))) (fun _ => zpc_bu (fd_fX9_mark hσ3) (fun σ6 hσ6 => fd_fX3_drawSprite_190 hk111 hσ6)))))))))
theorem fd_fX3_drawSprite_111 {σ0 : zSt} : ∀ (n : Nat) (y0 : zSt) (y1 : Int32) (y2 : Int32) (y3 : Int32), (zQ [25, 27, 28, 29, 3] [(23, 15, 15)] [] []) σ0 y0 → zpc (fX3_drawSprite_111 n y0 y1 y2 y3) (fun r => (zQ [25, 27, 28, 29, 3] [(23, 15, 15)] [] []) σ0 (r)) := by
  intro n
  induction n with
  | zero => intro y0 y1 y2 y3 h; exact zpc_none
  | succ n ih => intro y0 y1 y2 y3 h; exact fd_fX3_drawSprite_111_body ih h
theorem fd_fX3_drawSprite_100 {σ0 : zSt} {σ : zSt} {x2 : Int32} {x3 : Int32} {x6 : Int32} {s0 : Int32} {s1 : Int32} (h : (zQ [25, 27, 28, 29, 3] [(23, 15, 15)] [] []) σ0 σ) : zpc (fX3_drawSprite_100 σ x2 x3 x6 s0 s1) (fun r => (zQ [25, 27, 28, 29, 3] [(23, 15, 15)] [] []) σ0 (r)) := by
  unfold fX3_drawSprite_100
  exact zpc_bu (fd_fX3_takePlanes h) (fun σ7 hσ7 => fd_fX3_drawSprite_111 _ _ _ _ _ hσ7)
theorem fd_fX3_drawSprite_61 {σ0 : zSt} {σ : zSt} {x2 : Int32} {x3 : Int32} {s0 : Int32} {s1 : Int32} (h : (zQ [25, 27, 28, 29, 3] [(23, 15, 15)] [] []) σ0 σ) : zpc (fX3_drawSprite_61 σ x2 x3 s0 s1) (fun r => (zQ [25, 27, 28, 29, 3] [(23, 15, 15)] [] []) σ0 (r)) := by
  unfold fX3_drawSprite_61
  exact zpc_bv (fun v8 _ => zpc_bi (fd_fX9_held h) (fun σ9 v10 hσ9 => zpc_bv (fun v11 _ => zpc_if (fun _ => fd_fX3_drawSprite_100 hσ9) (fun _ => fd_fX3_drawSprite_100 hσ9))))
theorem fd_fX3_drawSprite_28 {σ0 : zSt} {σ : zSt} {x1 : Int32} {x2 : Int32} {s0 : Int32} {s1 : Int32} (h : (zQ [25, 27, 28, 29, 3] [(23, 15, 15)] [] []) σ0 σ) : zpc (fX3_drawSprite_28 σ x1 x2 s0 s1) (fun r => (zQ [25, 27, 28, 29, 3] [(23, 15, 15)] [] []) σ0 (r)) := by
  unfold fX3_drawSprite_28
  exact zpc_bv (fun v12 _ => zpc_bi (fd_fX9_vramByte h) (fun σ13 v14 hσ13 => zpc_bi (fd_fX9_held hσ13) (fun σ15 v16 hσ15 => zpc_if (fun _ => fd_fX3_drawSprite_61 hσ15) (fun _ => fd_fX3_drawSprite_61 hσ15))))
theorem fd_fX3_drawSprite {σ0 : zSt} {σ : zSt} {x1 : Int32} {x2 : Int32} (h : (zQ [25, 27, 28, 29, 3] [(23, 15, 15)] [] []) σ0 σ) : zpc (fX3_drawSprite σ x1 x2) (fun r => (zQ [25, 27, 28, 29, 3] [(23, 15, 15)] [] []) σ0 (r)) := by
  unfold fX3_drawSprite
  exact zpc_bi (fd_fX9_vramByte h) (fun σ17 v18 hσ17 => zpc_bi (fd_fX9_held hσ17) (fun σ19 v20 hσ19 => zpc_if (fun _ => fd_fX3_drawSprite_28 hσ19) (fun _ => fd_fX3_drawSprite_28 hσ19)))
theorem fd_fX3_drawSprites_196 {σ0 : zSt} {k147 : zSt → Int32 → Option (zSt)} (hk147 : ∀ (y0 : zSt) (y1 : Int32), (zQ [25, 27, 28, 29, 3] [(23, 15, 15)] [] []) σ0 y0 → zpc (k147 y0 y1) (fun r => (zQ [25, 27, 28, 29, 3] [(23, 15, 15)] [] []) σ0 (r))) {σ : zSt} {x5 : Int32} (h : (zQ [25, 27, 28, 29, 3] [(23, 15, 15)] [] []) σ0 σ) : zpc (fX3_drawSprites_196 k147 σ x5) (fun r => (zQ [25, 27, 28, 29, 3] [(23, 15, 15)] [] []) σ0 (r)) := by
  unfold fX3_drawSprites_196
  exact zpc_bv (fun v1 _ => hk147 _ _ h)
theorem fd_fX3_drawSprites_147_body {σ0 : zSt} {k147 : zSt → Int32 → Option (zSt)} (hk147 : ∀ (y0 : zSt) (y1 : Int32), (zQ [25, 27, 28, 29, 3] [(23, 15, 15)] [] []) σ0 y0 → zpc (k147 y0 y1) (fun r => (zQ [25, 27, 28, 29, 3] [(23, 15, 15)] [] []) σ0 (r))) {σ : zSt} {x5 : Int32} (h : (zQ [25, 27, 28, 29, 3] [(23, 15, 15)] [] []) σ0 σ) : zpc (fX3_drawSprites_147_body k147 σ x5) (fun r => (zQ [25, 27, 28, 29, 3] [(23, 15, 15)] [] []) σ0 (r)) := by
  unfold fX3_drawSprites_147_body
  exact zpc_if (fun _ => zpc_some h) (fun _ => zpc_ck (zpc_if (fun _ => fd_fX3_drawSprites_196 hk147 h) (fun _ => zpc_ck (zpc_if (fun _ => zpc_ck (zpc_ck (zpc_bs (zQ.wi h rfl) (fun σ2 hσ2 => fd_fX3_drawSprites_196 hk147 hσ2)))) (fun _ => fd_fX3_drawSprites_196 hk147 h)))))
theorem fd_fX3_drawSprites_147 {σ0 : zSt} : ∀ (n : Nat) (y0 : zSt) (y1 : Int32), (zQ [25, 27, 28, 29, 3] [(23, 15, 15)] [] []) σ0 y0 → zpc (fX3_drawSprites_147 n y0 y1) (fun r => (zQ [25, 27, 28, 29, 3] [(23, 15, 15)] [] []) σ0 (r)) := by
  intro n
  induction n with
  | zero => intro y0 y1 h; exact zpc_none
  | succ n ih => intro y0 y1 h; exact fd_fX3_drawSprites_147_body ih h
theorem fd_fX3_drawSprites_144 {σ0 : zSt} {σ : zSt} (h : (zQ [25, 27, 28, 29, 3] [(23, 15, 15)] [] []) σ0 σ) : zpc (fX3_drawSprites_144 σ) (fun r => (zQ [25, 27, 28, 29, 3] [(23, 15, 15)] [] []) σ0 (r)) := by
  unfold fX3_drawSprites_144
  exact fd_fX3_drawSprites_147 _ _ _ h
theorem fd_fX3_drawSprites_138 {σ0 : zSt} {k51 : zSt → Int32 → Int32 → Int32 → Int32 → Int32 → Option (zSt)} (hk51 : ∀ (y0 : zSt) (y1 : Int32) (y2 : Int32) (y3 : Int32) (y4 : Int32) (y5 : Int32), (zQ [25, 27, 28, 29, 3] [(23, 15, 15)] [] []) σ0 y0 → zpc (k51 y0 y1 y2 y3 y4 y5) (fun r => (zQ [25, 27, 28, 29, 3] [(23, 15, 15)] [] []) σ0 (r))) {σ : zSt} {x1 : Int32} {x2 : Int32} {x3 : Int32} {x4 : Int32} {x5 : Int32} (h : (zQ [25, 27, 28, 29, 3] [(23, 15, 15)] [] []) σ0 σ) : zpc (fX3_drawSprites_138 k51 σ x1 x2 x3 x4 x5) (fun r => (zQ [25, 27, 28, 29, 3] [(23, 15, 15)] [] []) σ0 (r)) := by
  unfold fX3_drawSprites_138
  exact zpc_bv (fun v3 _ => hk51 _ _ _ _ _ _ h)
theorem fd_fX3_drawSprites_86 {σ0 : zSt} {k51 : zSt → Int32 → Int32 → Int32 → Int32 → Int32 → Option (zSt)} (hk51 : ∀ (y0 : zSt) (y1 : Int32) (y2 : Int32) (y3 : Int32) (y4 : Int32) (y5 : Int32), (zQ [25, 27, 28, 29, 3] [(23, 15, 15)] [] []) σ0 y0 → zpc (k51 y0 y1 y2 y3 y4 y5) (fun r => (zQ [25, 27, 28, 29, 3] [(23, 15, 15)] [] []) σ0 (r))) {σ : zSt} {x1 : Int32} {x2 : Int32} {x3 : Int32} {x4 : Int32} {x5 : Int32} {x6 : Int32} (h : (zQ [25, 27, 28, 29, 3] [(23, 15, 15)] [] []) σ0 σ) : zpc (fX3_drawSprites_86 k51 σ x1 x2 x3 x4 x5 x6) (fun r => (zQ [25, 27, 28, 29, 3] [(23, 15, 15)] [] []) σ0 (r)) := by
  unfold fX3_drawSprites_86
  exact zpc_bi (fd_fX3_rowOfSprite h) (fun σ4 v5 hσ4 => zpc_if (fun _ => fd_fX3_drawSprites_138 hk51 hσ4) (fun _ => zpc_bv (fun v6 _ => zpc_if (fun _ => zpc_bu (fd_fX3_drawSprite hσ4) (fun σ7 hσ7 => fd_fX3_drawSprites_138 hk51 hσ7)) (fun _ => zpc_bu (fd_fX9_mark hσ4) (fun σ8 hσ8 => fd_fX3_drawSprites_144 hσ8)))))
theorem fd_fX3_drawSprites_51_body {σ0 : zSt} {k51 : zSt → Int32 → Int32 → Int32 → Int32 → Int32 → Option (zSt)} (hk51 : ∀ (y0 : zSt) (y1 : Int32) (y2 : Int32) (y3 : Int32) (y4 : Int32) (y5 : Int32), (zQ [25, 27, 28, 29, 3] [(23, 15, 15)] [] []) σ0 y0 → zpc (k51 y0 y1 y2 y3 y4 y5) (fun r => (zQ [25, 27, 28, 29, 3] [(23, 15, 15)] [] []) σ0 (r))) {σ : zSt} {x1 : Int32} {x2 : Int32} {x3 : Int32} {x4 : Int32} {x5 : Int32} (h : (zQ [25, 27, 28, 29, 3] [(23, 15, 15)] [] []) σ0 σ) : zpc (fX3_drawSprites_51_body k51 σ x1 x2 x3 x4 x5) (fun r => (zQ [25, 27, 28, 29, 3] [(23, 15, 15)] [] []) σ0 (r)) := by
  unfold fX3_drawSprites_51_body
  exact zpc_if (fun _ => fd_fX3_drawSprites_144 h) (fun _ => zpc_bi (fd_fX9_vramByte h) (fun σ9 v10 hσ9 => zpc_if (fun _ => fd_fX3_drawSprites_86 hk51 hσ9) (fun _ => zpc_if (fun _ => fd_fX3_drawSprites_144 hσ9) (fun _ => fd_fX3_drawSprites_86 hk51 hσ9))))
theorem fd_fX3_drawSprites_51 {σ0 : zSt} : ∀ (n : Nat) (y0 : zSt) (y1 : Int32) (y2 : Int32) (y3 : Int32) (y4 : Int32) (y5 : Int32), (zQ [25, 27, 28, 29, 3] [(23, 15, 15)] [] []) σ0 y0 → zpc (fX3_drawSprites_51 n y0 y1 y2 y3 y4 y5) (fun r => (zQ [25, 27, 28, 29, 3] [(23, 15, 15)] [] []) σ0 (r)) := by
  intro n
  induction n with
  | zero => intro y0 y1 y2 y3 y4 y5 h; exact zpc_none
  | succ n ih => intro y0 y1 y2 y3 y4 y5 h; exact fd_fX3_drawSprites_51_body ih h
theorem fd_fX3_drawSprites_44 {σ0 : zSt} {σ : zSt} {x1 : Int32} {x2 : Int32} {s0 : Int32} (h : (zQ [25, 27, 28, 29, 3] [(23, 15, 15)] [] []) σ0 σ) : zpc (fX3_drawSprites_44 σ x1 x2 s0) (fun r => (zQ [25, 27, 28, 29, 3] [(23, 15, 15)] [] []) σ0 (r)) := by
  unfold fX3_drawSprites_44
  exact fd_fX3_drawSprites_51 _ _ _ _ _ _ _ h
theorem fd_fX3_drawSprites {σ0 : zSt} {σ : zSt} {x1 : Int32} (h : (zQ [25, 27, 28, 29, 3] [(23, 15, 15)] [] []) σ0 σ) : zpc (fX3_drawSprites σ x1) (fun r => (zQ [25, 27, 28, 29, 3] [(23, 15, 15)] [] []) σ0 (r)) := by
  unfold fX3_drawSprites
  exact zpc_bu (fd_fJ7_fill_53178_k28 h) (fun σ11 hσ11 => zpc_bi (fd_fX9_held hσ11) (fun σ12 v13 hσ12 => zpc_bv (fun v14 _ => zpc_bi (fd_fX9_height hσ12) (fun σ15 v16 hσ15 => zpc_if (fun _ => fd_fX3_drawSprites_44 hσ15) (fun _ => fd_fX3_drawSprites_44 hσ15)))))
theorem fd_fJ7_rangeCheck_23922 {σ0 : zSt} {σ : zSt} {x0 : Int32} {x1 : Int32} {x2 : Int32} (h : (zQ [25, 27, 28, 29, 3] [(23, 15, 15)] [] []) σ0 σ) : zpc (fJ7_rangeCheck_23922 σ x0 x1 x2) (fun r => (zQ [25, 27, 28, 29, 3] [(23, 15, 15)] [] []) σ0 (r)) := by
  unfold fJ7_rangeCheck_23922
  exact zpc_if (fun _ => zpc_if (fun _ => zpc_if (fun _ => zpc_some h) (fun _ => zpc_none)) (fun _ => zpc_none)) (fun _ => zpc_none)
theorem fd_fJ7_fill_fda19_k27_10_body {σ0 : zSt} {k10 : zSt → Int32 → Int32 → Int32 → Option (zSt)} (hk10 : ∀ (y0 : zSt) (y1 : Int32) (y2 : Int32) (y3 : Int32), (zQ [25, 27, 28, 29, 3] [(23, 15, 15)] [] []) σ0 y0 → zpc (k10 y0 y1 y2 y3) (fun r => (zQ [25, 27, 28, 29, 3] [(23, 15, 15)] [] []) σ0 (r))) {σ : zSt} {x2 : Int32} {x3 : Int32} {x4 : Int32} (h : (zQ [25, 27, 28, 29, 3] [(23, 15, 15)] [] []) σ0 σ) : zpc (fJ7_fill_fda19_k27_10_body k10 σ x2 x3 x4) (fun r => (zQ [25, 27, 28, 29, 3] [(23, 15, 15)] [] []) σ0 (r)) := by
  unfold fJ7_fill_fda19_k27_10_body
  exact zpc_if (fun _ => zpc_some h) (fun _ => zpc_ck (zpc_bs (zQ.wi h rfl) (fun σ1 hσ1 => zpc_bv (fun v2 _ => hk10 _ _ _ _ hσ1))))
theorem fd_fJ7_fill_fda19_k27_10 {σ0 : zSt} : ∀ (n : Nat) (y0 : zSt) (y1 : Int32) (y2 : Int32) (y3 : Int32), (zQ [25, 27, 28, 29, 3] [(23, 15, 15)] [] []) σ0 y0 → zpc (fJ7_fill_fda19_k27_10 n y0 y1 y2 y3) (fun r => (zQ [25, 27, 28, 29, 3] [(23, 15, 15)] [] []) σ0 (r)) := by
  intro n
  induction n with
  | zero => intro y0 y1 y2 y3 h; exact zpc_none
  | succ n ih => intro y0 y1 y2 y3 h; exact fd_fJ7_fill_fda19_k27_10_body ih h
theorem fd_fJ7_fill_fda19_k27 {σ0 : zSt} {σ : zSt} {x1 : Int32} {x2 : Int32} {x3 : Int32} (h : (zQ [25, 27, 28, 29, 3] [(23, 15, 15)] [] []) σ0 σ) : zpc (fJ7_fill_fda19_k27 σ x1 x2 x3) (fun r => (zQ [25, 27, 28, 29, 3] [(23, 15, 15)] [] []) σ0 (r)) := by
  unfold fJ7_fill_fda19_k27
  exact zpc_bu (fd_fJ7_rangeCheck_23922 h) (fun σ3 hσ3 => fd_fJ7_fill_fda19_k27_10 _ _ _ _ _ hσ3)
theorem fd_fX3_patternAt {σ0 : zSt} {σ : zSt} {x1 : Int32} {x2 : Int32} (h : (zQ [25, 27, 28, 29, 3] [(23, 15, 15)] [] []) σ0 σ) : zpc (fX3_patternAt σ x1 x2) (fun r => (zQ [25, 27, 28, 29, 3] [(23, 15, 15)] [] []) σ0 (r.1)) := by
  unfold fX3_patternAt
  exact zpc_bi (fd_fX9_held h) (fun σ1 v2 hσ1 => zpc_bi (fd_fX9_vramByte hσ1) (fun σ3 v4 hσ3 => zpc_some hσ3))
theorem fd_fX3_drawText_101 {σ0 : zSt} {k21 : zSt → Int32 → Int32 → Int32 → Int32 → Option (zSt)} (hk21 : ∀ (y0 : zSt) (y1 : Int32) (y2 : Int32) (y3 : Int32) (y4 : Int32), (zQ [25, 27, 28, 29, 3] [(23, 15, 15)] [] []) σ0 y0 → zpc (k21 y0 y1 y2 y3 y4) (fun r => (zQ [25, 27, 28, 29, 3] [(23, 15, 15)] [] []) σ0 (r))) {k56 : zSt → Int32 → Int32 → Int32 → Int32 → Int32 → Int32 → Option (zSt)} (hk56 : ∀ (y0 : zSt) (y1 : Int32) (y2 : Int32) (y3 : Int32) (y4 : Int32) (y5 : Int32) (y6 : Int32), (zQ [25, 27, 28, 29, 3] [(23, 15, 15)] [] []) σ0 y0 → zpc (k56 y0 y1 y2 y3 y4 y5 y6) (fun r => (zQ [25, 27, 28, 29, 3] [(23, 15, 15)] [] []) σ0 (r))) {σ : zSt} {x1 : Int32} {x2 : Int32} {x3 : Int32} {x4 : Int32} {x5 : Int32} {x6 : Int32} {s0 : Int32} {s1 : Int32} (h : (zQ [25, 27, 28, 29, 3] [(23, 15, 15)] [] []) σ0 σ) : zpc (fX3_drawText_101 k21 k56 σ x1 x2 x3 x4 x5 x6 s0 s1) (fun r => (zQ [25, 27, 28, 29, 3] [(23, 15, 15)] [] []) σ0 (r)) := by
  unfold fX3_drawText_101
  exact zpc_ck (zpc_bs (zQ.wi h rfl) (fun σ1 hσ1 => zpc_bv (fun v2 _ => hk56 _ _ _ _ _ _ _ hσ1)))
theorem fd_fX3_drawText_56_body {σ0 : zSt} {k21 : zSt → Int32 → Int32 → Int32 → Int32 → Option (zSt)} (hk21 : ∀ (y0 : zSt) (y1 : Int32) (y2 : Int32) (y3 : Int32) (y4 : Int32), (zQ [25, 27, 28, 29, 3] [(23, 15, 15)] [] []) σ0 y0 → zpc (k21 y0 y1 y2 y3 y4) (fun r => (zQ [25, 27, 28, 29, 3] [(23, 15, 15)] [] []) σ0 (r))) {k56 : zSt → Int32 → Int32 → Int32 → Int32 → Int32 → Int32 → Option (zSt)} (hk56 : ∀ (y0 : zSt) (y1 : Int32) (y2 : Int32) (y3 : Int32) (y4 : Int32) (y5 : Int32) (y6 : Int32), (zQ [25, 27, 28, 29, 3] [(23, 15, 15)] [] []) σ0 y0 → zpc (k56 y0 y1 y2 y3 y4 y5 y6) (fun r => (zQ [25, 27, 28, 29, 3] [(23, 15, 15)] [] []) σ0 (r))) {σ : zSt} {x1 : Int32} {x2 : Int32} {x3 : Int32} {x4 : Int32} {x5 : Int32} {x6 : Int32} (h : (zQ [25, 27, 28, 29, 3] [(23, 15, 15)] [] []) σ0 σ) : zpc (fX3_drawText_56_body k21 k56 σ x1 x2 x3 x4 x5 x6) (fun r => (zQ [25, 27, 28, 29, 3] [(23, 15, 15)] [] []) σ0 (r)) := by
  unfold fX3_drawText_56_body
  exact zpc_if (fun _ => zpc_bv (fun v3 _ => hk21 _ _ _ _ _ h)) (fun _ => zpc_if (fun _ => fd_fX3_drawText_101 hk21 hk56 h) (fun _ => fd_fX3_drawText_101 hk21 hk56 h))
theorem fd_fX3_drawText_56 {σ0 : zSt} {k21 : zSt → Int32 → Int32 → Int32 → Int32 → Option (zSt)} (hk21 : ∀ (y0 : zSt) (y1 : Int32) (y2 : Int32) (y3 : Int32) (y4 : Int32), (zQ [25, 27, 28, 29, 3] [(23, 15, 15)] [] []) σ0 y0 → zpc (k21 y0 y1 y2 y3 y4) (fun r => (zQ [25, 27, 28, 29, 3] [(23, 15, 15)] [] []) σ0 (r))) : ∀ (n : Nat) (y0 : zSt) (y1 : Int32) (y2 : Int32) (y3 : Int32) (y4 : Int32) (y5 : Int32) (y6 : Int32), (zQ [25, 27, 28, 29, 3] [(23, 15, 15)] [] []) σ0 y0 → zpc (fX3_drawText_56 k21 n y0 y1 y2 y3 y4 y5 y6) (fun r => (zQ [25, 27, 28, 29, 3] [(23, 15, 15)] [] []) σ0 (r)) := by
  intro n
  induction n with
  | zero => intro y0 y1 y2 y3 y4 y5 y6 h; exact zpc_none
  | succ n ih => intro y0 y1 y2 y3 y4 y5 y6 h; exact fd_fX3_drawText_56_body hk21 ih h
theorem fd_fX3_drawText_21_body {σ0 : zSt} {k21 : zSt → Int32 → Int32 → Int32 → Int32 → Option (zSt)} (hk21 : ∀ (y0 : zSt) (y1 : Int32) (y2 : Int32) (y3 : Int32) (y4 : Int32), (zQ [25, 27, 28, 29, 3] [(23, 15, 15)] [] []) σ0 y0 → zpc (k21 y0 y1 y2 y3 y4) (fun r => (zQ [25, 27, 28, 29, 3] [(23, 15, 15)] [] []) σ0 (r))) {σ : zSt} {x1 : Int32} {x2 : Int32} {x3 : Int32} {x4 : Int32} (h : (zQ [25, 27, 28, 29, 3] [(23, 15, 15)] [] []) σ0 σ) : zpc (fX3_drawText_21_body k21 σ x1 x2 x3 x4) (fun r => (zQ [25, 27, 28, 29, 3] [(23, 15, 15)] [] []) σ0 (r)) := by
  unfold fX3_drawText_21_body
  exact zpc_if (fun _ => zpc_some h) (fun _ => zpc_bi (fd_fX9_vramByte h) (fun σ4 v5 hσ4 => zpc_bi (fd_fX3_patternAt hσ4) (fun σ6 v7 hσ6 => fd_fX3_drawText_56 hk21 _ _ _ _ _ _ _ _ hσ6)))
theorem fd_fX3_drawText_21 {σ0 : zSt} : ∀ (n : Nat) (y0 : zSt) (y1 : Int32) (y2 : Int32) (y3 : Int32) (y4 : Int32), (zQ [25, 27, 28, 29, 3] [(23, 15, 15)] [] []) σ0 y0 → zpc (fX3_drawText_21 n y0 y1 y2 y3 y4) (fun r => (zQ [25, 27, 28, 29, 3] [(23, 15, 15)] [] []) σ0 (r)) := by
  intro n
  induction n with
  | zero => intro y0 y1 y2 y3 y4 h; exact zpc_none
  | succ n ih => intro y0 y1 y2 y3 y4 h; exact fd_fX3_drawText_21_body ih h
theorem fd_fX3_drawText {σ0 : zSt} {σ : zSt} {x1 : Int32} {x2 : Int32} (h : (zQ [25, 27, 28, 29, 3] [(23, 15, 15)] [] []) σ0 σ) : zpc (fX3_drawText σ x1 x2) (fun r => (zQ [25, 27, 28, 29, 3] [(23, 15, 15)] [] []) σ0 (r)) := by
  unfold fX3_drawText
  exact zpc_bi (fd_fX9_held h) (fun σ8 v9 hσ8 => zpc_bu (fd_fJ7_fill_53178_k27 hσ8) (fun σ10 hσ10 => fd_fX3_drawText_21 _ _ _ _ _ _ hσ10))
theorem fd_fX3_drawPattern_57 {σ0 : zSt} {σ : zSt} (h : (zQ [25, 27, 28, 29, 3] [(23, 15, 15)] [] []) σ0 σ) : zpc (fX3_drawPattern_57 σ) (fun r => (zQ [25, 27, 28, 29, 3] [(23, 15, 15)] [] []) σ0 (r)) := by
  unfold fX3_drawPattern_57
  exact zpc_some h
theorem fd_fX3_drawPattern_50 {σ0 : zSt} {k3 : zSt → Int32 → Int32 → Int32 → Int32 → Option (zSt)} (hk3 : ∀ (y0 : zSt) (y1 : Int32) (y2 : Int32) (y3 : Int32) (y4 : Int32), (zQ [25, 27, 28, 29, 3] [(23, 15, 15)] [] []) σ0 y0 → zpc (k3 y0 y1 y2 y3 y4) (fun r => (zQ [25, 27, 28, 29, 3] [(23, 15, 15)] [] []) σ0 (r))) {σ : zSt} {x1 : Int32} {x2 : Int32} {x3 : Int32} {x4 : Int32} {s0 : Int32} {s1 : Int32} (h : (zQ [25, 27, 28, 29, 3] [(23, 15, 15)] [] []) σ0 σ) : zpc (fX3_drawPattern_50 k3 σ x1 x2 x3 x4 s0 s1) (fun r => (zQ [25, 27, 28, 29, 3] [(23, 15, 15)] [] []) σ0 (r)) := by
  unfold fX3_drawPattern_50
  exact zpc_ck (zpc_bs (zQ.wi h rfl) (fun σ1 hσ1 => zpc_bv (fun v2 _ => hk3 _ _ _ _ _ hσ1)))
theorem fd_fX3_drawPattern_3_body {σ0 : zSt} {k3 : zSt → Int32 → Int32 → Int32 → Int32 → Option (zSt)} (hk3 : ∀ (y0 : zSt) (y1 : Int32) (y2 : Int32) (y3 : Int32) (y4 : Int32), (zQ [25, 27, 28, 29, 3] [(23, 15, 15)] [] []) σ0 y0 → zpc (k3 y0 y1 y2 y3 y4) (fun r => (zQ [25, 27, 28, 29, 3] [(23, 15, 15)] [] []) σ0 (r))) {σ : zSt} {x1 : Int32} {x2 : Int32} {x3 : Int32} {x4 : Int32} (h : (zQ [25, 27, 28, 29, 3] [(23, 15, 15)] [] []) σ0 σ) : zpc (fX3_drawPattern_3_body k3 σ x1 x2 x3 x4) (fun r => (zQ [25, 27, 28, 29, 3] [(23, 15, 15)] [] []) σ0 (r)) := by
  unfold fX3_drawPattern_3_body
  exact zpc_if (fun _ => fd_fX3_drawPattern_57 h) (fun _ => zpc_if (fun _ => fd_fX3_drawPattern_57 h) (fun _ => zpc_if (fun _ => fd_fX3_drawPattern_50 hk3 h) (fun _ => fd_fX3_drawPattern_50 hk3 h)))
theorem fd_fX3_drawPattern_3 {σ0 : zSt} : ∀ (n : Nat) (y0 : zSt) (y1 : Int32) (y2 : Int32) (y3 : Int32) (y4 : Int32), (zQ [25, 27, 28, 29, 3] [(23, 15, 15)] [] []) σ0 y0 → zpc (fX3_drawPattern_3 n y0 y1 y2 y3 y4) (fun r => (zQ [25, 27, 28, 29, 3] [(23, 15, 15)] [] []) σ0 (r)) := by
  intro n
  induction n with
  | zero => intro y0 y1 y2 y3 y4 h; exact zpc_none
  | succ n ih => intro y0 y1 y2 y3 y4 h; exact fd_fX3_drawPattern_3_body ih h
theorem fd_fX3_drawPattern {σ0 : zSt} {σ : zSt} {x1 : Int32} {x2 : Int32} {x3 : Int32} (h : (zQ [25, 27, 28, 29, 3] [(23, 15, 15)] [] []) σ0 σ) : zpc (fX3_drawPattern σ x1 x2 x3) (fun r => (zQ [25, 27, 28, 29, 3] [(23, 15, 15)] [] []) σ0 (r)) := by
  unfold fX3_drawPattern
  exact fd_fX3_drawPattern_3 _ _ _ _ _ _ h
theorem fd_fX3_drawBlocks {σ0 : zSt} {σ : zSt} {x1 : Int32} {x2 : Int32} {x3 : Int32} (h : (zQ [25, 27, 28, 29, 3] [(23, 15, 15)] [] []) σ0 σ) : zpc (fX3_drawBlocks σ x1 x2 x3) (fun r => (zQ [25, 27, 28, 29, 3] [(23, 15, 15)] [] []) σ0 (r)) := by
  unfold fX3_drawBlocks
  exact zpc_bi (fd_fX9_held h) (fun σ1 v2 hσ1 => zpc_bv (fun v3 _ => zpc_bi (fd_fX9_vramByte hσ1) (fun σ4 v5 hσ4 => zpc_bu (fd_fX3_drawPattern hσ4) (fun σ6 hσ6 => zpc_some hσ6))))
theorem fd_fX3_drawThird {σ0 : zSt} {σ : zSt} {x1 : Int32} {x2 : Int32} {x3 : Int32} (h : (zQ [25, 27, 28, 29, 3] [(23, 15, 15)] [] []) σ0 σ) : zpc (fX3_drawThird σ x1 x2 x3) (fun r => (zQ [25, 27, 28, 29, 3] [(23, 15, 15)] [] []) σ0 (r)) := by
  unfold fX3_drawThird
  exact zpc_bi (fd_fX9_held h) (fun σ1 v2 hσ1 => zpc_bi (fd_fX9_held hσ1) (fun σ3 v4 hσ3 => zpc_bv (fun v5 _ => zpc_bv (fun v6 _ => zpc_bi (fd_fX9_vramByte hσ3) (fun σ7 v8 hσ7 => zpc_bi (fd_fX9_vramByte hσ7) (fun σ9 v10 hσ9 => zpc_bu (fd_fX3_drawPattern hσ9) (fun σ11 hσ11 => zpc_some hσ11)))))))
theorem fd_fX3_drawOld_165 {σ0 : zSt} {k31 : zSt → Int32 → Int32 → Int32 → Int32 → Option (zSt)} (hk31 : ∀ (y0 : zSt) (y1 : Int32) (y2 : Int32) (y3 : Int32) (y4 : Int32), (zQ [25, 27, 28, 29, 3] [(23, 15, 15)] [] []) σ0 y0 → zpc (k31 y0 y1 y2 y3 y4) (fun r => (zQ [25, 27, 28, 29, 3] [(23, 15, 15)] [] []) σ0 (r))) {σ : zSt} {x1 : Int32} {x2 : Int32} {x3 : Int32} {x4 : Int32} (h : (zQ [25, 27, 28, 29, 3] [(23, 15, 15)] [] []) σ0 σ) : zpc (fX3_drawOld_165 k31 σ x1 x2 x3 x4) (fun r => (zQ [25, 27, 28, 29, 3] [(23, 15, 15)] [] []) σ0 (r)) := by
  unfold fX3_drawOld_165
  exact zpc_bv (fun v1 _ => hk31 _ _ _ _ _ h)
theorem fd_fX3_drawOld_31_body {σ0 : zSt} {k31 : zSt → Int32 → Int32 → Int32 → Int32 → Option (zSt)} (hk31 : ∀ (y0 : zSt) (y1 : Int32) (y2 : Int32) (y3 : Int32) (y4 : Int32), (zQ [25, 27, 28, 29, 3] [(23, 15, 15)] [] []) σ0 y0 → zpc (k31 y0 y1 y2 y3 y4) (fun r => (zQ [25, 27, 28, 29, 3] [(23, 15, 15)] [] []) σ0 (r))) {σ : zSt} {x1 : Int32} {x2 : Int32} {x3 : Int32} {x4 : Int32} (h : (zQ [25, 27, 28, 29, 3] [(23, 15, 15)] [] []) σ0 σ) : zpc (fX3_drawOld_31_body k31 σ x1 x2 x3 x4) (fun r => (zQ [25, 27, 28, 29, 3] [(23, 15, 15)] [] []) σ0 (r)) := by
  unfold fX3_drawOld_31_body
  exact zpc_if (fun _ => zpc_some h) (fun _ => zpc_bi (fd_fX9_vramByte h) (fun σ2 v3 hσ2 => zpc_if (fun _ => zpc_bi (fd_fX3_patternAt hσ2) (fun σ4 v5 hσ4 => zpc_bi (fd_fX9_held hσ4) (fun σ6 v7 hσ6 => zpc_bi (fd_fX9_vramByte hσ6) (fun σ8 v9 hσ8 => zpc_bu (fd_fX3_drawPattern hσ8) (fun σ10 hσ10 => fd_fX3_drawOld_165 hk31 hσ10))))) (fun _ => zpc_if (fun _ => zpc_bu (fd_fX3_drawThird hσ2) (fun σ11 hσ11 => fd_fX3_drawOld_165 hk31 hσ11)) (fun _ => zpc_bu (fd_fX3_drawBlocks hσ2) (fun σ12 hσ12 => fd_fX3_drawOld_165 hk31 hσ12)))))
theorem fd_fX3_drawOld_31 {σ0 : zSt} : ∀ (n : Nat) (y0 : zSt) (y1 : Int32) (y2 : Int32) (y3 : Int32) (y4 : Int32), (zQ [25, 27, 28, 29, 3] [(23, 15, 15)] [] []) σ0 y0 → zpc (fX3_drawOld_31 n y0 y1 y2 y3 y4) (fun r => (zQ [25, 27, 28, 29, 3] [(23, 15, 15)] [] []) σ0 (r)) := by
  intro n
  induction n with
  | zero => intro y0 y1 y2 y3 y4 h; exact zpc_none
  | succ n ih => intro y0 y1 y2 y3 y4 h; exact fd_fX3_drawOld_31_body ih h
theorem fd_fX3_drawOld {σ0 : zSt} {σ : zSt} {x1 : Int32} {x2 : Int32} (h : (zQ [25, 27, 28, 29, 3] [(23, 15, 15)] [] []) σ0 σ) : zpc (fX3_drawOld σ x1 x2) (fun r => (zQ [25, 27, 28, 29, 3] [(23, 15, 15)] [] []) σ0 (r)) := by
  unfold fX3_drawOld
  exact zpc_bi (fd_fX9_held h) (fun σ13 v14 hσ13 => zpc_bv (fun v15 _ => zpc_if (fun _ => zpc_bu (fd_fX3_drawText hσ13) (fun σ16 hσ16 => zpc_some hσ16)) (fun _ => fd_fX3_drawOld_31 _ _ _ _ _ _ hσ13)))
theorem fd_fX9_markFifth_39 {σ0 : zSt} {σ : zSt} (h : (zQ [25, 27, 28, 29, 3] [(23, 15, 15)] [] []) σ0 σ) : zpc (fX9_markFifth_39 σ) (fun r => (zQ [25, 27, 28, 29, 3] [(23, 15, 15)] [] []) σ0 (r)) := by
  unfold fX9_markFifth_39
  exact zpc_some h
theorem fd_fX9_markFifth {σ0 : zSt} {σ : zSt} {x1 : Int32} (h : (zQ [25, 27, 28, 29, 3] [(23, 15, 15)] [] []) σ0 σ) : zpc (fX9_markFifth σ x1) (fun r => (zQ [25, 27, 28, 29, 3] [(23, 15, 15)] [] []) σ0 (r)) := by
  unfold fX9_markFifth
  exact zpc_ck (zpc_if (fun _ => zpc_ck (zpc_ck (zpc_bs (zQ.wi h rfl) (fun σ1 hσ1 => fd_fX9_markFifth_39 hσ1)))) (fun _ => fd_fX9_markFifth_39 h))
theorem fd_fX3_takeDot_41 {σ0 : zSt} {σ : zSt} (h : (zQ [25, 27, 28, 29, 3] [(23, 15, 15)] [] []) σ0 σ) : zpc (fX3_takeDot_41 σ) (fun r => (zQ [25, 27, 28, 29, 3] [(23, 15, 15)] [] []) σ0 (r)) := by
  unfold fX3_takeDot_41
  exact zpc_some h
theorem fd_fX3_takeDot_18 {σ0 : zSt} {σ : zSt} {x1 : Int32} {x2 : Int32} (h : (zQ [25, 27, 28, 29, 3] [(23, 15, 15)] [] []) σ0 σ) : zpc (fX3_takeDot_18 σ x1 x2) (fun r => (zQ [25, 27, 28, 29, 3] [(23, 15, 15)] [] []) σ0 (r)) := by
  unfold fX3_takeDot_18
  exact zpc_ck (zpc_if (fun _ => zpc_ck (zpc_bs (zQ.wi h rfl) (fun σ1 hσ1 => fd_fX3_takeDot_41 hσ1))) (fun _ => fd_fX3_takeDot_41 h))
theorem fd_fX3_takeDot {σ0 : zSt} {σ : zSt} {x1 : Int32} {x2 : Int32} (h : (zQ [25, 27, 28, 29, 3] [(23, 15, 15)] [] []) σ0 σ) : zpc (fX3_takeDot σ x1 x2) (fun r => (zQ [25, 27, 28, 29, 3] [(23, 15, 15)] [] []) σ0 (r)) := by
  unfold fX3_takeDot
  exact zpc_ck (zpc_if (fun _ => fd_fX3_takeDot_18 h) (fun _ => zpc_bu (fd_fX9_mark h) (fun σ2 hσ2 => fd_fX3_takeDot_18 hσ2)))
theorem fd_fX3_drawOldSprite_224 {σ0 : zSt} {k158 : zSt → Int32 → Int32 → Int32 → Int32 → Int32 → Int32 → Option (zSt)} (hk158 : ∀ (y0 : zSt) (y1 : Int32) (y2 : Int32) (y3 : Int32) (y4 : Int32) (y5 : Int32) (y6 : Int32), (zQ [25, 27, 28, 29, 3] [(23, 15, 15)] [] []) σ0 y0 → zpc (k158 y0 y1 y2 y3 y4 y5 y6) (fun r => (zQ [25, 27, 28, 29, 3] [(23, 15, 15)] [] []) σ0 (r))) {σ : zSt} {x3 : Int32} {x4 : Int32} {x7 : Int32} {x8 : Int32} {x10 : Int32} {x11 : Int32} (h : (zQ [25, 27, 28, 29, 3] [(23, 15, 15)] [] []) σ0 σ) : zpc (fX3_drawOldSprite_224 k158 σ x3 x4 x7 x8 x10 x11) (fun r => (zQ [25, 27, 28, 29, 3] [(23, 15, 15)] [] []) σ0 (r)) := by
  unfold fX3_drawOldSprite_224
  exact zpc_bv (fun v1 _ => hk158 _ _ _ _ _ _ _ h)
theorem fd_fX3_drawOldSprite_172 {σ0 : zSt} {k158 : zSt → Int32 → Int32 → Int32 → Int32 → Int32 → Int32 → Option (zSt)} (hk158 : ∀ (y0 : zSt) (y1 : Int32) (y2 : Int32) (y3 : Int32) (y4 : Int32) (y5 : Int32) (y6 : Int32), (zQ [25, 27, 28, 29, 3] [(23, 15, 15)] [] []) σ0 y0 → zpc (k158 y0 y1 y2 y3 y4 y5 y6) (fun r => (zQ [25, 27, 28, 29, 3] [(23, 15, 15)] [] []) σ0 (r))) {σ : zSt} {x3 : Int32} {x4 : Int32} {x7 : Int32} {x8 : Int32} {x10 : Int32} {x11 : Int32} {s0 : Int32} {s1 : Int32} (h : (zQ [25, 27, 28, 29, 3] [(23, 15, 15)] [] []) σ0 σ) : zpc (fX3_drawOldSprite_172 k158 σ x3 x4 x7 x8 x10 x11 s0 s1) (fun r => (zQ [25, 27, 28, 29, 3] [(23, 15, 15)] [] []) σ0 (r)) := by
  unfold fX3_drawOldSprite_172
  exact zpc_if (fun _ => zpc_some h) (fun _ => zpc_bv (fun v2 _ => zpc_if (fun _ => fd_fX3_drawOldSprite_224 hk158 h) (fun _ => zpc_if (fun _ => fd_fX3_drawOldSprite_224 hk158 h) (fun _ => zpc_if (fun _ => fd_fX3_drawOldSprite_224 hk158 h) (fun _ => zpc_bu (fd_fX3_takeDot h) (fun σ3 hσ3 => fd_fX3_drawOldSprite_224 hk158 hσ3))))))
theorem fd_fX3_drawOldSprite_158_body {σ0 : zSt} {k158 : zSt → Int32 → Int32 → Int32 → Int32 → Int32 → Int32 → Option (zSt)} (hk158 : ∀ (y0 : zSt) (y1 : Int32) (y2 : Int32) (y3 : Int32) (y4 : Int32) (y5 : Int32) (y6 : Int32), (zQ [25, 27, 28, 29, 3] [(23, 15, 15)] [] []) σ0 y0 → zpc (k158 y0 y1 y2 y3 y4 y5 y6) (fun r => (zQ [25, 27, 28, 29, 3] [(23, 15, 15)] [] []) σ0 (r))) {σ : zSt} {x3 : Int32} {x4 : Int32} {x7 : Int32} {x8 : Int32} {x10 : Int32} {x11 : Int32} (h : (zQ [25, 27, 28, 29, 3] [(23, 15, 15)] [] []) σ0 σ) : zpc (fX3_drawOldSprite_158_body k158 σ x3 x4 x7 x8 x10 x11) (fun r => (zQ [25, 27, 28, 29, 3] [(23, 15, 15)] [] []) σ0 (r)) := by
  unfold fX3_drawOldSprite_158_body
  exact zpc_if (fun _ => fd_fX3_drawOldSprite_172 hk158 h) (fun _ => fd_fX3_drawOldSprite_172 hk158 h)
theorem fd_fX3_drawOldSprite_158 {σ0 : zSt} : ∀ (n : Nat) (y0 : zSt) (y1 : Int32) (y2 : Int32) (y3 : Int32) (y4 : Int32) (y5 : Int32) (y6 : Int32), (zQ [25, 27, 28, 29, 3] [(23, 15, 15)] [] []) σ0 y0 → zpc (fX3_drawOldSprite_158 n y0 y1 y2 y3 y4 y5 y6) (fun r => (zQ [25, 27, 28, 29, 3] [(23, 15, 15)] [] []) σ0 (r)) := by
  intro n
  induction n with
  | zero => intro y0 y1 y2 y3 y4 y5 y6 h; exact zpc_none
  | succ n ih => intro y0 y1 y2 y3 y4 y5 y6 h; exact fd_fX3_drawOldSprite_158_body ih h
theorem fd_fX3_drawOldSprite_152 {σ0 : zSt} {σ : zSt} {x3 : Int32} {x4 : Int32} {x7 : Int32} {x8 : Int32} {s0 : Int32} {s1 : Int32} (h : (zQ [25, 27, 28, 29, 3] [(23, 15, 15)] [] []) σ0 σ) : zpc (fX3_drawOldSprite_152 σ x3 x4 x7 x8 s0 s1) (fun r => (zQ [25, 27, 28, 29, 3] [(23, 15, 15)] [] []) σ0 (r)) := by
  unfold fX3_drawOldSprite_152
  exact zpc_bv (fun v4 _ => fd_fX3_drawOldSprite_158 _ _ _ _ _ _ _ _ h)
theorem fd_fX3_drawOldSprite_113 {σ0 : zSt} {σ : zSt} {x2 : Int32} {x3 : Int32} {x4 : Int32} {x7 : Int32} {x8 : Int32} {s0 : Int32} {s1 : Int32} {s2 : Int32} (h : (zQ [25, 27, 28, 29, 3] [(23, 15, 15)] [] []) σ0 σ) : zpc (fX3_drawOldSprite_113 σ x2 x3 x4 x7 x8 s0 s1 s2) (fun r => (zQ [25, 27, 28, 29, 3] [(23, 15, 15)] [] []) σ0 (r)) := by
  unfold fX3_drawOldSprite_113
  exact zpc_bv (fun v5 _ => zpc_bi (fd_fX9_vramByte h) (fun σ6 v7 hσ6 => zpc_if (fun _ => fd_fX3_drawOldSprite_152 hσ6) (fun _ => zpc_bi (fd_fX9_vramByte hσ6) (fun σ8 v9 hσ8 => fd_fX3_drawOldSprite_152 hσ8))))
theorem fd_fX3_drawOldSprite_78 {σ0 : zSt} {σ : zSt} {x2 : Int32} {x3 : Int32} {x4 : Int32} {x5 : Int32} {x7 : Int32} {s0 : Int32} (h : (zQ [25, 27, 28, 29, 3] [(23, 15, 15)] [] []) σ0 σ) : zpc (fX3_drawOldSprite_78 σ x2 x3 x4 x5 x7 s0) (fun r => (zQ [25, 27, 28, 29, 3] [(23, 15, 15)] [] []) σ0 (r)) := by
  unfold fX3_drawOldSprite_78
  exact zpc_bi (fd_fX9_held h) (fun σ10 v11 hσ10 => zpc_if (fun _ => fd_fX3_drawOldSprite_113 hσ10) (fun _ => fd_fX3_drawOldSprite_113 hσ10))
theorem fd_fX3_drawOldSprite_35 {σ0 : zSt} {σ : zSt} {x1 : Int32} {x2 : Int32} {x3 : Int32} {s0 : Int32} {s1 : Int32} (h : (zQ [25, 27, 28, 29, 3] [(23, 15, 15)] [] []) σ0 σ) : zpc (fX3_drawOldSprite_35 σ x1 x2 x3 s0 s1) (fun r => (zQ [25, 27, 28, 29, 3] [(23, 15, 15)] [] []) σ0 (r)) := by
  unfold fX3_drawOldSprite_35
  exact zpc_bv (fun v12 _ => zpc_bi (fd_fX9_vramByte h) (fun σ13 v14 hσ13 => zpc_bi (fd_fX9_held hσ13) (fun σ15 v16 hσ15 => zpc_bv (fun v17 _ => zpc_if (fun _ => fd_fX3_drawOldSprite_78 hσ15) (fun _ => fd_fX3_drawOldSprite_78 hσ15)))))
theorem fd_fX3_drawOldSprite {σ0 : zSt} {σ : zSt} {x1 : Int32} {x2 : Int32} (h : (zQ [25, 27, 28, 29, 3] [(23, 15, 15)] [] []) σ0 σ) : zpc (fX3_drawOldSprite σ x1 x2) (fun r => (zQ [25, 27, 28, 29, 3] [(23, 15, 15)] [] []) σ0 (r)) := by
  unfold fX3_drawOldSprite
  exact zpc_bi (fd_fX9_vramByte h) (fun σ18 v19 hσ18 => zpc_bi (fd_fX9_vramByte hσ18) (fun σ20 v21 hσ20 => zpc_if (fun _ => fd_fX3_drawOldSprite_35 hσ20) (fun _ => fd_fX3_drawOldSprite_35 hσ20)))
theorem fd_fX3_drawOldSprites_155 {σ0 : zSt} {k117 : zSt → Int32 → Option (zSt)} (hk117 : ∀ (y0 : zSt) (y1 : Int32), (zQ [25, 27, 28, 29, 3] [(23, 15, 15)] [] []) σ0 y0 → zpc (k117 y0 y1) (fun r => (zQ [25, 27, 28, 29, 3] [(23, 15, 15)] [] []) σ0 (r))) {σ : zSt} {x4 : Int32} (h : (zQ [25, 27, 28, 29, 3] [(23, 15, 15)] [] []) σ0 σ) : zpc (fX3_drawOldSprites_155 k117 σ x4) (fun r => (zQ [25, 27, 28, 29, 3] [(23, 15, 15)] [] []) σ0 (r)) := by
  unfold fX3_drawOldSprites_155
  exact zpc_bv (fun v1 _ => hk117 _ _ h)
theorem fd_fX3_drawOldSprites_117_body {σ0 : zSt} {k117 : zSt → Int32 → Option (zSt)} (hk117 : ∀ (y0 : zSt) (y1 : Int32), (zQ [25, 27, 28, 29, 3] [(23, 15, 15)] [] []) σ0 y0 → zpc (k117 y0 y1) (fun r => (zQ [25, 27, 28, 29, 3] [(23, 15, 15)] [] []) σ0 (r))) {σ : zSt} {x4 : Int32} (h : (zQ [25, 27, 28, 29, 3] [(23, 15, 15)] [] []) σ0 σ) : zpc (fX3_drawOldSprites_117_body k117 σ x4) (fun r => (zQ [25, 27, 28, 29, 3] [(23, 15, 15)] [] []) σ0 (r)) := by
  unfold fX3_drawOldSprites_117_body
  exact zpc_if (fun _ => zpc_some h) (fun _ => zpc_ck (zpc_if (fun _ => fd_fX3_drawOldSprites_155 hk117 h) (fun _ => zpc_ck (zpc_ck (zpc_bs (zQ.wi h rfl) (fun σ2 hσ2 => fd_fX3_drawOldSprites_155 hk117 hσ2))))))
theorem fd_fX3_drawOldSprites_117 {σ0 : zSt} : ∀ (n : Nat) (y0 : zSt) (y1 : Int32), (zQ [25, 27, 28, 29, 3] [(23, 15, 15)] [] []) σ0 y0 → zpc (fX3_drawOldSprites_117 n y0 y1) (fun r => (zQ [25, 27, 28, 29, 3] [(23, 15, 15)] [] []) σ0 (r)) := by
  intro n
  induction n with
  | zero => intro y0 y1 h; exact zpc_none
  | succ n ih => intro y0 y1 h; exact fd_fX3_drawOldSprites_117_body ih h
theorem fd_fX3_drawOldSprites_114 {σ0 : zSt} {σ : zSt} (h : (zQ [25, 27, 28, 29, 3] [(23, 15, 15)] [] []) σ0 σ) : zpc (fX3_drawOldSprites_114 σ) (fun r => (zQ [25, 27, 28, 29, 3] [(23, 15, 15)] [] []) σ0 (r)) := by
  unfold fX3_drawOldSprites_114
  exact fd_fX3_drawOldSprites_117 _ _ _ h
theorem fd_fX3_drawOldSprites_108 {σ0 : zSt} {k29 : zSt → Int32 → Int32 → Int32 → Int32 → Option (zSt)} (hk29 : ∀ (y0 : zSt) (y1 : Int32) (y2 : Int32) (y3 : Int32) (y4 : Int32), (zQ [25, 27, 28, 29, 3] [(23, 15, 15)] [] []) σ0 y0 → zpc (k29 y0 y1 y2 y3 y4) (fun r => (zQ [25, 27, 28, 29, 3] [(23, 15, 15)] [] []) σ0 (r))) {σ : zSt} {x1 : Int32} {x2 : Int32} {x3 : Int32} {x4 : Int32} (h : (zQ [25, 27, 28, 29, 3] [(23, 15, 15)] [] []) σ0 σ) : zpc (fX3_drawOldSprites_108 k29 σ x1 x2 x3 x4) (fun r => (zQ [25, 27, 28, 29, 3] [(23, 15, 15)] [] []) σ0 (r)) := by
  unfold fX3_drawOldSprites_108
  exact zpc_bv (fun v3 _ => hk29 _ _ _ _ _ h)
theorem fd_fX3_drawOldSprites_29_body {σ0 : zSt} {k29 : zSt → Int32 → Int32 → Int32 → Int32 → Option (zSt)} (hk29 : ∀ (y0 : zSt) (y1 : Int32) (y2 : Int32) (y3 : Int32) (y4 : Int32), (zQ [25, 27, 28, 29, 3] [(23, 15, 15)] [] []) σ0 y0 → zpc (k29 y0 y1 y2 y3 y4) (fun r => (zQ [25, 27, 28, 29, 3] [(23, 15, 15)] [] []) σ0 (r))) {σ : zSt} {x1 : Int32} {x2 : Int32} {x3 : Int32} {x4 : Int32} (h : (zQ [25, 27, 28, 29, 3] [(23, 15, 15)] [] []) σ0 σ) : zpc (fX3_drawOldSprites_29_body k29 σ x1 x2 x3 x4) (fun r => (zQ [25, 27, 28, 29, 3] [(23, 15, 15)] [] []) σ0 (r)) := by
  unfold fX3_drawOldSprites_29_body
  exact zpc_if (fun _ => fd_fX3_drawOldSprites_114 h) (fun _ => zpc_bv (fun v4 _ => zpc_bi (fd_fX9_vramByte h) (fun σ5 v6 hσ5 => zpc_if (fun _ => fd_fX3_drawOldSprites_114 hσ5) (fun _ => zpc_bi (fd_fX3_rowOfSprite hσ5) (fun σ7 v8 hσ7 => zpc_if (fun _ => fd_fX3_drawOldSprites_108 hk29 hσ7) (fun _ => zpc_bv (fun v9 _ => zpc_if (fun _ => zpc_bu (fd_fX3_drawOldSprite hσ7) (fun σ10 hσ10 => fd_fX3_drawOldSprites_108 hk29 hσ10)) (fun _ => zpc_bu (fd_fX9_markFifth hσ7) (fun σ11 hσ11 => fd_fX3_drawOldSprites_114 hσ11)))))))))
theorem fd_fX3_drawOldSprites_29 {σ0 : zSt} : ∀ (n : Nat) (y0 : zSt) (y1 : Int32) (y2 : Int32) (y3 : Int32) (y4 : Int32), (zQ [25, 27, 28, 29, 3] [(23, 15, 15)] [] []) σ0 y0 → zpc (fX3_drawOldSprites_29 n y0 y1 y2 y3 y4) (fun r => (zQ [25, 27, 28, 29, 3] [(23, 15, 15)] [] []) σ0 (r)) := by
  intro n
  induction n with
  | zero => intro y0 y1 y2 y3 y4 h; exact zpc_none
  | succ n ih => intro y0 y1 y2 y3 y4 h; exact fd_fX3_drawOldSprites_29_body ih h
theorem fd_fX3_drawOldSprites {σ0 : zSt} {σ : zSt} {x1 : Int32} (h : (zQ [25, 27, 28, 29, 3] [(23, 15, 15)] [] []) σ0 σ) : zpc (fX3_drawOldSprites σ x1) (fun r => (zQ [25, 27, 28, 29, 3] [(23, 15, 15)] [] []) σ0 (r)) := by
  unfold fX3_drawOldSprites
  exact zpc_bu (fd_fJ7_fill_53178_k28 h) (fun σ12 hσ12 => zpc_bi (fd_fX9_held hσ12) (fun σ13 v14 hσ13 => zpc_bv (fun v15 _ => fd_fX3_drawOldSprites_29 _ _ _ _ _ _ hσ13)))
theorem fd_fX3_fillBack_25 {σ0 : zSt} {k2 : zSt → Int32 → Int32 → Option (zSt)} (hk2 : ∀ (y0 : zSt) (y1 : Int32) (y2 : Int32), (zQ [25, 27, 28, 29, 3] [(23, 15, 15)] [] []) σ0 y0 → zpc (k2 y0 y1 y2) (fun r => (zQ [25, 27, 28, 29, 3] [(23, 15, 15)] [] []) σ0 (r))) {σ : zSt} {x1 : Int32} {x2 : Int32} (h : (zQ [25, 27, 28, 29, 3] [(23, 15, 15)] [] []) σ0 σ) : zpc (fX3_fillBack_25 k2 σ x1 x2) (fun r => (zQ [25, 27, 28, 29, 3] [(23, 15, 15)] [] []) σ0 (r)) := by
  unfold fX3_fillBack_25
  exact zpc_bv (fun v1 _ => hk2 _ _ _ h)
theorem fd_fX3_fillBack_2_body {σ0 : zSt} {k2 : zSt → Int32 → Int32 → Option (zSt)} (hk2 : ∀ (y0 : zSt) (y1 : Int32) (y2 : Int32), (zQ [25, 27, 28, 29, 3] [(23, 15, 15)] [] []) σ0 y0 → zpc (k2 y0 y1 y2) (fun r => (zQ [25, 27, 28, 29, 3] [(23, 15, 15)] [] []) σ0 (r))) {σ : zSt} {x1 : Int32} {x2 : Int32} (h : (zQ [25, 27, 28, 29, 3] [(23, 15, 15)] [] []) σ0 σ) : zpc (fX3_fillBack_2_body k2 σ x1 x2) (fun r => (zQ [25, 27, 28, 29, 3] [(23, 15, 15)] [] []) σ0 (r)) := by
  unfold fX3_fillBack_2_body
  exact zpc_if (fun _ => zpc_some h) (fun _ => zpc_ck (zpc_if (fun _ => zpc_ck (zpc_bs (zQ.wi h rfl) (fun σ2 hσ2 => fd_fX3_fillBack_25 hk2 hσ2))) (fun _ => fd_fX3_fillBack_25 hk2 h)))
theorem fd_fX3_fillBack_2 {σ0 : zSt} : ∀ (n : Nat) (y0 : zSt) (y1 : Int32) (y2 : Int32), (zQ [25, 27, 28, 29, 3] [(23, 15, 15)] [] []) σ0 y0 → zpc (fX3_fillBack_2 n y0 y1 y2) (fun r => (zQ [25, 27, 28, 29, 3] [(23, 15, 15)] [] []) σ0 (r)) := by
  intro n
  induction n with
  | zero => intro y0 y1 y2 h; exact zpc_none
  | succ n ih => intro y0 y1 y2 h; exact fd_fX3_fillBack_2_body ih h
theorem fd_fX3_fillBack {σ0 : zSt} {σ : zSt} {x1 : Int32} (h : (zQ [25, 27, 28, 29, 3] [(23, 15, 15)] [] []) σ0 σ) : zpc (fX3_fillBack σ x1) (fun r => (zQ [25, 27, 28, 29, 3] [(23, 15, 15)] [] []) σ0 (r)) := by
  unfold fX3_fillBack
  exact fd_fX3_fillBack_2 _ _ _ _ h
theorem fd_fX3_draw_21 {σ0 : zSt} {σ : zSt} (h : (zQ [25, 27, 28, 29, 3] [(23, 15, 15)] [] []) σ0 σ) : zpc (fX3_draw_21 σ) (fun r => (zQ [25, 27, 28, 29, 3] [(23, 15, 15)] [] []) σ0 (r)) := by
  unfold fX3_draw_21
  exact zpc_some h
theorem fd_fX3_draw_152_body {σ0 : zSt} {k152 : zSt → Int32 → Int32 → Option (zSt)} (hk152 : ∀ (y0 : zSt) (y1 : Int32) (y2 : Int32), (zQ [25, 27, 28, 29, 3] [(23, 15, 15)] [] []) σ0 y0 → zpc (k152 y0 y1 y2) (fun r => (zQ [25, 27, 28, 29, 3] [(23, 15, 15)] [] []) σ0 (r))) {σ : zSt} {x1 : Int32} {x4 : Int32} (h : (zQ [25, 27, 28, 29, 3] [(23, 15, 15)] [] []) σ0 σ) : zpc (fX3_draw_152_body k152 σ x1 x4) (fun r => (zQ [25, 27, 28, 29, 3] [(23, 15, 15)] [] []) σ0 (r)) := by
  unfold fX3_draw_152_body
  exact zpc_if (fun _ => zpc_some h) (fun _ => zpc_ck (zpc_ck (zpc_ck (zpc_bs (zQ.wi h rfl) (fun σ1 hσ1 => zpc_bv (fun v2 _ => hk152 _ _ _ hσ1))))))
theorem fd_fX3_draw_152 {σ0 : zSt} : ∀ (n : Nat) (y0 : zSt) (y1 : Int32) (y2 : Int32), (zQ [25, 27, 28, 29, 3] [(23, 15, 15)] [] []) σ0 y0 → zpc (fX3_draw_152 n y0 y1 y2) (fun r => (zQ [25, 27, 28, 29, 3] [(23, 15, 15)] [] []) σ0 (r)) := by
  intro n
  induction n with
  | zero => intro y0 y1 y2 h; exact zpc_none
  | succ n ih => intro y0 y1 y2 h; exact fd_fX3_draw_152_body ih h
theorem fd_fX3_draw_144 {σ0 : zSt} {σ : zSt} {x1 : Int32} {x2 : Int32} (h : (zQ [25, 27, 28, 29, 3] [(23, 15, 15)] [] []) σ0 σ) : zpc (fX3_draw_144 σ x1 x2) (fun r => (zQ [25, 27, 28, 29, 3] [(23, 15, 15)] [] []) σ0 (r)) := by
  unfold fX3_draw_144
  exact zpc_bu (fd_fX3_mixColours h) (fun σ3 hσ3 => fd_fX3_draw_152 _ _ _ _ hσ3)
theorem fd_fX3_draw_139 {σ0 : zSt} {σ : zSt} {x1 : Int32} {x2 : Int32} {x3 : Int32} (h : (zQ [25, 27, 28, 29, 3] [(23, 15, 15)] [] []) σ0 σ) : zpc (fX3_draw_139 σ x1 x2 x3) (fun r => (zQ [25, 27, 28, 29, 3] [(23, 15, 15)] [] []) σ0 (r)) := by
  unfold fX3_draw_139
  exact zpc_bu (fd_fX3_fillBack h) (fun σ4 hσ4 => fd_fX3_draw_144 hσ4)
theorem fd_fX3_draw_41 {σ0 : zSt} {σ : zSt} {x1 : Int32} {x2 : Int32} {s0 : Int32} (h : (zQ [25, 27, 28, 29, 3] [(23, 15, 15)] [] []) σ0 σ) : zpc (fX3_draw_41 σ x1 x2 s0) (fun r => (zQ [25, 27, 28, 29, 3] [(23, 15, 15)] [] []) σ0 (r)) := by
  unfold fX3_draw_41
  exact zpc_bi (fd_fX9_held h) (fun σ5 v6 hσ5 => zpc_bv (fun v7 _ => zpc_bi (fd_fX9_held hσ5) (fun σ8 v9 hσ8 => zpc_if (fun _ => zpc_bu (fd_fJ7_fill_53178_k27 hσ8) (fun σ17 hσ17 => fd_fX3_draw_144 hσ17)) (fun _ => zpc_if (fun _ => zpc_bu (fd_fX3_drawTiles hσ8) (fun σ12 hσ12 => zpc_bu (fd_fX3_drawSprites hσ12) (fun σ13 hσ13 => zpc_bi (fd_fX9_held hσ13) (fun σ14 v15 hσ14 => zpc_if (fun _ => fd_fX3_draw_144 hσ14) (fun _ => zpc_bu (fd_fJ7_fill_fda19_k27 hσ14) (fun σ16 hσ16 => fd_fX3_draw_144 hσ16)))))) (fun _ => zpc_bu (fd_fX3_drawOld hσ8) (fun σ10 hσ10 => zpc_if (fun _ => fd_fX3_draw_139 hσ10) (fun _ => zpc_bu (fd_fX3_drawOldSprites hσ10) (fun σ11 hσ11 => fd_fX3_draw_139 hσ11))))))))
theorem fd_fX3_draw {σ0 : zSt} {σ : zSt} (h : (zQ [25, 27, 28, 29, 3] [(23, 15, 15)] [] []) σ0 σ) : zpc (fX3_draw σ) (fun r => (zQ [25, 27, 28, 29, 3] [(23, 15, 15)] [] []) σ0 (r)) := by
  unfold fX3_draw
  exact zpc_bi (fd_fX9_held h) (fun σ18 v19 hσ18 => zpc_if (fun _ => fd_fX3_draw_21 hσ18) (fun _ => zpc_if (fun _ => zpc_bi (fd_fX9_mode hσ18) (fun σ20 v21 hσ20 => zpc_if (fun _ => fd_fX3_draw_41 hσ20) (fun _ => fd_fX3_draw_41 hσ20))) (fun _ => fd_fX3_draw_21 hσ18)))
