def zKeM (σ0 σ : zSt) : Prop := σ.1 1 = σ0.1 1 ∧ σ.1 2 = σ0.1 2 ∧ ∀ j, j ∈ [2, 5, 6, 7, 8, 9] → σ.1 0 j = σ0.1 0 j
theorem zKeM.wi {σ0 σ : zSt} {k j : Nat} {v : Int32} (h : zKeM σ0 σ) (c : (Nat.beq 0 k || (Nat.beq 1 k || Nat.beq 2 k)) = false) : zKeM σ0 (zsi σ k j v) := by
  obtain ⟨h1, h2, h3⟩ := h
  rw [Bool.or_eq_false_iff, Bool.or_eq_false_iff] at c
  exact ⟨(zsi_ne (fun r => by rw [r, show Nat.beq k k = true from Nat.beq_refl k] at c; exact absurd c.2.1 (by decide))).trans h1, (zsi_ne (fun r => by rw [r, show Nat.beq k k = true from Nat.beq_refl k] at c; exact absurd c.2.2 (by decide))).trans h2, fun i hi => by rw [zsi_ne (fun r => by rw [r, show Nat.beq k k = true from Nat.beq_refl k] at c; exact absurd c.1 (by decide))]; exact h3 i hi⟩
theorem zKeM.w0 {σ0 σ : zSt} {j : Nat} {v : Int32} (h : zKeM σ0 σ) (c : [2, 5, 6, 7, 8, 9].contains j = false) : zKeM σ0 (zsi σ 0 j v) := by
  obtain ⟨h1, h2, h3⟩ := h
  refine ⟨(zsi_ne (by decide)).trans h1, (zsi_ne (by decide)).trans h2, fun i hi => ?_⟩
  rw [zsi_nj (fun r => by rw [← r, List.contains_iff_mem.mpr hi] at c; exact absurd c (by decide))]
  exact h3 i hi
theorem zKeM.wl {σ0 σ : zSt} {k j : Nat} {v : Int64} (h : zKeM σ0 σ) : zKeM σ0 (zsl σ k j v) := h
theorem w_fX12_fails_10 {σ0 : zSt} {σ : zSt} {x1 : Int32} {s0 : Int32} (h : zKeM σ0 σ) : zpc (fX12_fails_10 σ x1 s0) (fun r => zKeM σ0 (r.1)) := by
  unfold fX12_fails_10
  exact zpc_bs (zKeM.w0 h (by decide)) (fun σ1 hσ1 => zpc_ck (zpc_some hσ1))
theorem w_fX12_fails {σ0 : zSt} {σ : zSt} {x1 : Int32} {x2 : Int32} (h : zKeM σ0 σ) : zpc (fX12_fails σ x1 x2) (fun r => zKeM σ0 (r.1)) := by
  unfold fX12_fails
  exact zpc_if (fun _ => w_fX12_fails_10 h) (fun _ => w_fX12_fails_10 h)
theorem w_fX12_within_18 {σ0 : zSt} {σ : zSt} {s0 : Int32} (h : zKeM σ0 σ) : zpc (fX12_within_18 σ s0) (fun r => zKeM σ0 (r.1)) := by
  unfold fX12_within_18
  exact zpc_ck (zpc_some h)
theorem w_fX12_within_17 {σ0 : zSt} {σ : zSt} (h : zKeM σ0 σ) : zpc (fX12_within_17 σ) (fun r => zKeM σ0 (r.1)) := by
  unfold fX12_within_17
  exact w_fX12_within_18 h
theorem w_fX12_within {σ0 : zSt} {σ : zSt} {x0 : Int64} {x2 : Int64} {x4 : Int64} (h : zKeM σ0 σ) : zpc (fX12_within σ x0 x2 x4) (fun r => zKeM σ0 (r.1)) := by
  unfold fX12_within
  exact zpc_if (fun _ => w_fX12_within_17 h) (fun _ => zpc_if (fun _ => w_fX12_within_17 h) (fun _ => w_fX12_within_18 h))
theorem w_fX12_feed_49 {σ0 : zSt} {σ : zSt} (h : zKeM σ0 σ) : zpc (fX12_feed_49 σ) (fun r => zKeM σ0 (r.1)) := by
  unfold fX12_feed_49
  exact zpc_some h
theorem w_fX12_grow_47 {σ0 : zSt} {σ : zSt} (h : zKeM σ0 σ) : zpc (fX12_grow_47 σ) (fun r => zKeM σ0 (r.1)) := by
  unfold fX12_grow_47
  exact zpc_some h
theorem w_fX12_bytesAt_7_body {σ0 : zSt} {k7 : zSt → Int32 → Int32 → Int32 → Option (zSt × Int32)} (hk7 : ∀ (y0 : zSt) (y1 : Int32) (y2 : Int32) (y3 : Int32), zKeM σ0 y0 → zpc (k7 y0 y1 y2 y3) (fun r => zKeM σ0 (r.1))) {σ : zSt} {x1 : Int32} {x3 : Int32} {x4 : Int32} (h : zKeM σ0 σ) : zpc (fX12_bytesAt_7_body k7 σ x1 x3 x4) (fun r => zKeM σ0 (r.1)) := by
  unfold fX12_bytesAt_7_body
  exact zpc_if (fun _ => zpc_some h) (fun _ => zpc_ck (zpc_bv (fun v1 _ => zpc_bv (fun v2 _ => hk7 _ _ _ _ h))))
theorem w_fX12_bytesAt_7 {σ0 : zSt} : ∀ (n : Nat) (y0 : zSt) (y1 : Int32) (y2 : Int32) (y3 : Int32), zKeM σ0 y0 → zpc (fX12_bytesAt_7 n y0 y1 y2 y3) (fun r => zKeM σ0 (r.1)) := by
  intro n
  induction n with
  | zero => intro y0 y1 y2 y3 h; exact zpc_none
  | succ n ih => intro y0 y1 y2 y3 h; exact w_fX12_bytesAt_7_body ih h
theorem w_fX12_bytesAt {σ0 : zSt} {σ : zSt} {x1 : Int32} {x2 : Int32} (h : zKeM σ0 σ) : zpc (fX12_bytesAt σ x1 x2) (fun r => zKeM σ0 (r.1)) := by
  unfold fX12_bytesAt
  exact zpc_bv (fun v3 _ => w_fX12_bytesAt_7 _ _ _ _ _ h)
theorem w_fX12_isHeader_125 {σ0 : zSt} {σ : zSt} {s0 : Int32} (h : zKeM σ0 σ) : zpc (fX12_isHeader_125 σ s0) (fun r => zKeM σ0 (r.1)) := by
  unfold fX12_isHeader_125
  exact zpc_ck (zpc_some h)
theorem w_fX12_isHeader_114 {σ0 : zSt} {σ : zSt} {x2 : Int32} (h : zKeM σ0 σ) : zpc (fX12_isHeader_114 σ x2) (fun r => zKeM σ0 (r.1)) := by
  unfold fX12_isHeader_114
  exact zpc_if (fun _ => w_fX12_isHeader_125 h) (fun _ => w_fX12_isHeader_125 h)
theorem w_fX12_isHeader_105 {σ0 : zSt} {k15 : zSt → Int32 → Int32 → Option (zSt × Int32)} (hk15 : ∀ (y0 : zSt) (y1 : Int32) (y2 : Int32), zKeM σ0 y0 → zpc (k15 y0 y1 y2) (fun r => zKeM σ0 (r.1))) {σ : zSt} {x1 : Int32} {x2 : Int32} {s0 : Int32} {s1 : Int32} (h : zKeM σ0 σ) : zpc (fX12_isHeader_105 k15 σ x1 x2 s0 s1) (fun r => zKeM σ0 (r.1)) := by
  unfold fX12_isHeader_105
  exact zpc_if (fun _ => zpc_bv (fun v1 _ => hk15 _ _ _ h)) (fun _ => w_fX12_isHeader_114 h)
theorem w_fX12_isHeader_15_body {σ0 : zSt} {k15 : zSt → Int32 → Int32 → Option (zSt × Int32)} (hk15 : ∀ (y0 : zSt) (y1 : Int32) (y2 : Int32), zKeM σ0 y0 → zpc (k15 y0 y1 y2) (fun r => zKeM σ0 (r.1))) {σ : zSt} {x1 : Int32} {x2 : Int32} (h : zKeM σ0 σ) : zpc (fX12_isHeader_15_body k15 σ x1 x2) (fun r => zKeM σ0 (r.1)) := by
  unfold fX12_isHeader_15_body
  exact zpc_if (fun _ => w_fX12_isHeader_114 h) (fun _ => zpc_ck (zpc_if (fun _ => w_fX12_isHeader_105 hk15 h) (fun _ => zpc_if (fun _ => w_fX12_isHeader_105 hk15 h) (fun _ => zpc_if (fun _ => w_fX12_isHeader_105 hk15 h) (fun _ => zpc_if (fun _ => w_fX12_isHeader_105 hk15 h) (fun _ => zpc_if (fun _ => w_fX12_isHeader_105 hk15 h) (fun _ => zpc_if (fun _ => w_fX12_isHeader_105 hk15 h) (fun _ => zpc_if (fun _ => w_fX12_isHeader_105 hk15 h) (fun _ => w_fX12_isHeader_105 hk15 h)))))))))
theorem w_fX12_isHeader_15 {σ0 : zSt} : ∀ (n : Nat) (y0 : zSt) (y1 : Int32) (y2 : Int32), zKeM σ0 y0 → zpc (fX12_isHeader_15 n y0 y1 y2) (fun r => zKeM σ0 (r.1)) := by
  intro n
  induction n with
  | zero => intro y0 y1 y2 h; exact zpc_none
  | succ n ih => intro y0 y1 y2 h; exact w_fX12_isHeader_15_body ih h
theorem w_fX12_isHeader {σ0 : zSt} {σ : zSt} {x1 : Int32} (h : zKeM σ0 σ) : zpc (fX12_isHeader σ x1) (fun r => zKeM σ0 (r.1)) := by
  unfold fX12_isHeader
  exact zpc_if (fun _ => w_fX12_isHeader_15 _ _ _ _ h) (fun _ => zpc_ck (zpc_some h))
theorem w_fX12_anew_236 {σ0 : zSt} {k196 : zSt → Int32 → Option (zSt)} (hk196 : ∀ (y0 : zSt) (y1 : Int32), zKeM σ0 y0 → zpc (k196 y0 y1) (fun r => zKeM σ0 (r))) {σ : zSt} {x1 : Int32} {s0 : Int32} {s1 : Int32} (h : zKeM σ0 σ) : zpc (fX12_anew_236 k196 σ x1 s0 s1) (fun r => zKeM σ0 (r)) := by
  unfold fX12_anew_236
  exact zpc_ck (zpc_bs (zKeM.wi h (by decide)) (fun σ1 hσ1 => zpc_bv (fun v2 _ => hk196 _ _ hσ1)))
theorem w_fX12_anew_267_body {σ0 : zSt} {k267 : zSt → Int32 → Option (zSt)} (hk267 : ∀ (y0 : zSt) (y1 : Int32), zKeM σ0 y0 → zpc (k267 y0 y1) (fun r => zKeM σ0 (r))) {σ : zSt} {x1 : Int32} (h : zKeM σ0 σ) : zpc (fX12_anew_267_body k267 σ x1) (fun r => zKeM σ0 (r)) := by
  unfold fX12_anew_267_body
  exact zpc_if (fun _ => zpc_some h) (fun _ => zpc_ck (zpc_bs (zKeM.wi h (by decide)) (fun σ3 hσ3 => zpc_bv (fun v4 _ => hk267 _ _ hσ3))))
theorem w_fX12_anew_267 {σ0 : zSt} : ∀ (n : Nat) (y0 : zSt) (y1 : Int32), zKeM σ0 y0 → zpc (fX12_anew_267 n y0 y1) (fun r => zKeM σ0 (r)) := by
  intro n
  induction n with
  | zero => intro y0 y1 h; exact zpc_none
  | succ n ih => intro y0 y1 h; exact w_fX12_anew_267_body ih h
theorem w_fX12_anew_245_body {σ0 : zSt} {k245 : zSt → Int32 → Option (zSt)} (hk245 : ∀ (y0 : zSt) (y1 : Int32), zKeM σ0 y0 → zpc (k245 y0 y1) (fun r => zKeM σ0 (r))) {σ : zSt} {x1 : Int32} (h : zKeM σ0 σ) : zpc (fX12_anew_245_body k245 σ x1) (fun r => zKeM σ0 (r)) := by
  unfold fX12_anew_245_body
  exact zpc_if (fun _ => w_fX12_anew_267 _ _ _ h) (fun _ => zpc_ck (zpc_bs (zKeM.wi h (by decide)) (fun σ5 hσ5 => zpc_bv (fun v6 _ => hk245 _ _ hσ5))))
theorem w_fX12_anew_245 {σ0 : zSt} : ∀ (n : Nat) (y0 : zSt) (y1 : Int32), zKeM σ0 y0 → zpc (fX12_anew_245 n y0 y1) (fun r => zKeM σ0 (r)) := by
  intro n
  induction n with
  | zero => intro y0 y1 h; exact zpc_none
  | succ n ih => intro y0 y1 h; exact w_fX12_anew_245_body ih h
theorem w_fX12_anew_196_body {σ0 : zSt} {k196 : zSt → Int32 → Option (zSt)} (hk196 : ∀ (y0 : zSt) (y1 : Int32), zKeM σ0 y0 → zpc (k196 y0 y1) (fun r => zKeM σ0 (r))) {σ : zSt} {x1 : Int32} (h : zKeM σ0 σ) : zpc (fX12_anew_196_body k196 σ x1) (fun r => zKeM σ0 (r)) := by
  unfold fX12_anew_196_body
  exact zpc_if (fun _ => w_fX12_anew_245 _ _ _ h) (fun _ => zpc_ck (zpc_if (fun _ => w_fX12_anew_236 hk196 h) (fun _ => zpc_ck (zpc_if (fun _ => w_fX12_anew_236 hk196 h) (fun _ => w_fX12_anew_236 hk196 h)))))
theorem w_fX12_anew_196 {σ0 : zSt} : ∀ (n : Nat) (y0 : zSt) (y1 : Int32), zKeM σ0 y0 → zpc (fX12_anew_196 n y0 y1) (fun r => zKeM σ0 (r)) := by
  intro n
  induction n with
  | zero => intro y0 y1 h; exact zpc_none
  | succ n ih => intro y0 y1 h; exact w_fX12_anew_196_body ih h
theorem w_fX12_anew_165_body {σ0 : zSt} {k165 : zSt → Int32 → Option (zSt)} (hk165 : ∀ (y0 : zSt) (y1 : Int32), zKeM σ0 y0 → zpc (k165 y0 y1) (fun r => zKeM σ0 (r))) {σ : zSt} {x1 : Int32} (h : zKeM σ0 σ) : zpc (fX12_anew_165_body k165 σ x1) (fun r => zKeM σ0 (r)) := by
  unfold fX12_anew_165_body
  exact zpc_if (fun _ => zpc_ck (zpc_bs (zKeM.wi h (by decide)) (fun σ7 hσ7 => w_fX12_anew_196 _ _ _ hσ7))) (fun _ => zpc_ck (zpc_bs (zKeM.wi h (by decide)) (fun σ8 hσ8 => zpc_bv (fun v9 _ => hk165 _ _ hσ8))))
theorem w_fX12_anew_165 {σ0 : zSt} : ∀ (n : Nat) (y0 : zSt) (y1 : Int32), zKeM σ0 y0 → zpc (fX12_anew_165 n y0 y1) (fun r => zKeM σ0 (r)) := by
  intro n
  induction n with
  | zero => intro y0 y1 h; exact zpc_none
  | succ n ih => intro y0 y1 h; exact w_fX12_anew_165_body ih h
theorem w_fX12_anew_131_body {σ0 : zSt} {k131 : zSt → Int32 → Option (zSt)} (hk131 : ∀ (y0 : zSt) (y1 : Int32), zKeM σ0 y0 → zpc (k131 y0 y1) (fun r => zKeM σ0 (r))) {σ : zSt} {x1 : Int32} (h : zKeM σ0 σ) : zpc (fX12_anew_131_body k131 σ x1) (fun r => zKeM σ0 (r)) := by
  unfold fX12_anew_131_body
  exact zpc_if (fun _ => zpc_ck (zpc_bs (zKeM.wi h (by decide)) (fun σ10 hσ10 => w_fX12_anew_165 _ _ _ hσ10))) (fun _ => zpc_ck (zpc_bs (zKeM.wi h (by decide)) (fun σ11 hσ11 => zpc_bv (fun v12 _ => hk131 _ _ hσ11))))
theorem w_fX12_anew_131 {σ0 : zSt} : ∀ (n : Nat) (y0 : zSt) (y1 : Int32), zKeM σ0 y0 → zpc (fX12_anew_131 n y0 y1) (fun r => zKeM σ0 (r)) := by
  intro n
  induction n with
  | zero => intro y0 y1 h; exact zpc_none
  | succ n ih => intro y0 y1 h; exact w_fX12_anew_131_body ih h
theorem w_fX12_anew_79 {σ0 : zSt} {σ : zSt} {s0 : Int32} {s1 : Int32} (h : zKeM σ0 σ) : zpc (fX12_anew_79 σ s0 s1) (fun r => zKeM σ0 (r)) := by
  unfold fX12_anew_79
  exact zpc_ck (zpc_bs (zKeM.wi h (by decide)) (fun σ13 hσ13 => zpc_ck (zpc_bs (zKeM.wi hσ13 (by decide)) (fun σ14 hσ14 => zpc_ck (zpc_bs (zKeM.wi hσ14 (by decide)) (fun σ15 hσ15 => zpc_ck (zpc_bs (zKeM.wi hσ15 (by decide)) (fun σ16 hσ16 => zpc_ck (zpc_bs (zKeM.wi hσ16 (by decide)) (fun σ17 hσ17 => zpc_ck (zpc_bs (zKeM.wi hσ17 (by decide)) (fun σ18 hσ18 => w_fX12_anew_131 _ _ _ hσ18))))))))))))
theorem w_fX12_anew_24_body {σ0 : zSt} {k24 : zSt → Int32 → Option (zSt)} (hk24 : ∀ (y0 : zSt) (y1 : Int32), zKeM σ0 y0 → zpc (k24 y0 y1) (fun r => zKeM σ0 (r))) {σ : zSt} {x1 : Int32} (h : zKeM σ0 σ) : zpc (fX12_anew_24_body k24 σ x1) (fun r => zKeM σ0 (r)) := by
  unfold fX12_anew_24_body
  exact zpc_if (fun _ => zpc_ck (zpc_bs (zKeM.wi h (by decide)) (fun σ19 hσ19 => zpc_ck (zpc_bs (zKeM.wi hσ19 (by decide)) (fun σ20 hσ20 => zpc_if (fun _ => w_fX12_anew_79 hσ20) (fun _ => w_fX12_anew_79 hσ20)))))) (fun _ => zpc_ck (zpc_bs (zKeM.wi h (by decide)) (fun σ21 hσ21 => zpc_bv (fun v22 _ => hk24 _ _ hσ21))))
theorem w_fX12_anew_24 {σ0 : zSt} : ∀ (n : Nat) (y0 : zSt) (y1 : Int32), zKeM σ0 y0 → zpc (fX12_anew_24 n y0 y1) (fun r => zKeM σ0 (r)) := by
  intro n
  induction n with
  | zero => intro y0 y1 h; exact zpc_none
  | succ n ih => intro y0 y1 h; exact w_fX12_anew_24_body ih h
theorem w_fX12_anew_2_body {σ0 : zSt} {k2 : zSt → Int32 → Option (zSt)} (hk2 : ∀ (y0 : zSt) (y1 : Int32), zKeM σ0 y0 → zpc (k2 y0 y1) (fun r => zKeM σ0 (r))) {σ : zSt} {x1 : Int32} (h : zKeM σ0 σ) : zpc (fX12_anew_2_body k2 σ x1) (fun r => zKeM σ0 (r)) := by
  unfold fX12_anew_2_body
  exact zpc_if (fun _ => w_fX12_anew_24 _ _ _ h) (fun _ => zpc_ck (zpc_bs (zKeM.wi h (by decide)) (fun σ23 hσ23 => zpc_bv (fun v24 _ => hk2 _ _ hσ23))))
theorem w_fX12_anew_2 {σ0 : zSt} : ∀ (n : Nat) (y0 : zSt) (y1 : Int32), zKeM σ0 y0 → zpc (fX12_anew_2 n y0 y1) (fun r => zKeM σ0 (r)) := by
  intro n
  induction n with
  | zero => intro y0 y1 h; exact zpc_none
  | succ n ih => intro y0 y1 h; exact w_fX12_anew_2_body ih h
theorem w_fX12_anew {σ0 : zSt} {σ : zSt} (h : zKeM σ0 σ) : zpc (fX12_anew σ) (fun r => zKeM σ0 (r)) := by
  unfold fX12_anew
  exact w_fX12_anew_2 _ _ _ h
theorem w_fX12_load_161 {σ0 : zSt} {k142 : zSt → Int32 → Option (zSt × Int32)} (hk142 : ∀ (y0 : zSt) (y1 : Int32), zKeM σ0 y0 → zpc (k142 y0 y1) (fun r => zKeM σ0 (r.1))) {σ : zSt} {x3 : Int32} (h : zKeM σ0 σ) : zpc (fX12_load_161 k142 σ x3) (fun r => zKeM σ0 (r.1)) := by
  unfold fX12_load_161
  exact zpc_bv (fun v3 _ => hk142 _ _ h)
theorem w_fX12_load_414_body {σ0 : zSt} {k414 : zSt → Int32 → Option (zSt × Int32)} (hk414 : ∀ (y0 : zSt) (y1 : Int32), zKeM σ0 y0 → zpc (k414 y0 y1) (fun r => zKeM σ0 (r.1))) {σ : zSt} {x6 : Int32} (h : zKeM σ0 σ) : zpc (fX12_load_414_body k414 σ x6) (fun r => zKeM σ0 (r.1)) := by
  unfold fX12_load_414_body
  exact zpc_if (fun _ => zpc_ck (zpc_bs (zKeM.w0 h (by decide)) (fun σ4 hσ4 => zpc_some hσ4))) (fun _ => zpc_ck (zpc_bs (zKeM.wi h (by decide)) (fun σ5 hσ5 => zpc_bv (fun v6 _ => hk414 _ _ hσ5))))
theorem w_fX12_load_414 {σ0 : zSt} : ∀ (n : Nat) (y0 : zSt) (y1 : Int32), zKeM σ0 y0 → zpc (fX12_load_414 n y0 y1) (fun r => zKeM σ0 (r.1)) := by
  intro n
  induction n with
  | zero => intro y0 y1 h; exact zpc_none
  | succ n ih => intro y0 y1 h; exact w_fX12_load_414_body ih h
theorem w_fX12_tens {σ0 : zSt} {σ : zSt} {x1 : Int32} (h : zKeM σ0 σ) : zpc (fX12_tens σ x1) (fun r => zKeM σ0 (r.1)) := by
  unfold fX12_tens
  exact zpc_ck (zpc_ck (zpc_some h))
theorem w_fX12_card_59 {σ0 : zSt} {σ : zSt} {s0 : Int32} (h : zKeM σ0 σ) : zpc (fX12_card_59 σ s0) (fun r => zKeM σ0 (r.1)) := by
  unfold fX12_card_59
  exact zpc_some h
theorem w_fX12_card_18 {σ0 : zSt} {σ : zSt} {x1 : Int32} {s0 : Int32} (h : zKeM σ0 σ) : zpc (fX12_card_18 σ x1 s0) (fun r => zKeM σ0 (r.1)) := by
  unfold fX12_card_18
  exact zpc_bi (w_fX12_fails h) (fun σ1 v2 hσ1 => zpc_if (fun _ => zpc_if (fun _ => zpc_if (fun _ => zpc_if (fun _ => zpc_bi (w_fX12_tens hσ1) (fun σ3 v4 hσ3 => zpc_bi (w_fX12_tens hσ3) (fun σ5 v6 hσ5 => zpc_ck (zpc_some hσ5)))) (fun _ => zpc_if (fun _ => zpc_ck (zpc_some hσ1)) (fun _ => zpc_if (fun _ => zpc_ck (zpc_some hσ1)) (fun _ => zpc_if (fun _ => zpc_bi (w_fX12_bytesAt hσ1) (fun σ7 v8 hσ7 => zpc_some hσ7)) (fun _ => zpc_some hσ1))))) (fun _ => zpc_some hσ1)) (fun _ => zpc_if (fun _ => w_fX12_card_59 hσ1) (fun _ => zpc_if (fun _ => w_fX12_card_59 hσ1) (fun _ => w_fX12_card_59 hσ1)))) (fun _ => zpc_some hσ1))
theorem w_fX12_card {σ0 : zSt} {σ : zSt} {x1 : Int32} (h : zKeM σ0 σ) : zpc (fX12_card σ x1) (fun r => zKeM σ0 (r.1)) := by
  unfold fX12_card
  exact zpc_bi (w_fX12_within h) (fun σ9 v10 hσ9 => zpc_if (fun _ => w_fX12_card_18 hσ9) (fun _ => w_fX12_card_18 hσ9))
theorem w_fX12_ofBank {σ0 : zSt} {σ : zSt} {x1 : Int32} {x2 : Int32} (h : zKeM σ0 σ) : zpc (fX12_ofBank σ x1 x2) (fun r => zKeM σ0 (r.1)) := by
  unfold fX12_ofBank
  exact zpc_ck (zpc_ck (zpc_ck (zpc_some h)))
theorem w_fX12_isBattery_38 {σ0 : zSt} {σ : zSt} {s0 : Int32} (h : zKeM σ0 σ) : zpc (fX12_isBattery_38 σ s0) (fun r => zKeM σ0 (r.1)) := by
  unfold fX12_isBattery_38
  exact zpc_ck (zpc_some h)
theorem w_fX12_isBattery_37 {σ0 : zSt} {σ : zSt} (h : zKeM σ0 σ) : zpc (fX12_isBattery_37 σ) (fun r => zKeM σ0 (r.1)) := by
  unfold fX12_isBattery_37
  exact w_fX12_isBattery_38 h
theorem w_fX12_isBattery {σ0 : zSt} {σ : zSt} {x1 : Int32} (h : zKeM σ0 σ) : zpc (fX12_isBattery σ x1) (fun r => zKeM σ0 (r.1)) := by
  unfold fX12_isBattery
  exact zpc_if (fun _ => zpc_ck (zpc_if (fun _ => w_fX12_isBattery_37 h) (fun _ => zpc_if (fun _ => w_fX12_isBattery_37 h) (fun _ => zpc_if (fun _ => w_fX12_isBattery_37 h) (fun _ => w_fX12_isBattery_38 h))))) (fun _ => w_fX12_isBattery_37 h)
theorem w_fX12_batteryAt_23 {σ0 : zSt} {σ : zSt} {s0 : Int32} {s1 : Int32} (h : zKeM σ0 σ) : zpc (fX12_batteryAt_23 σ s0 s1) (fun r => zKeM σ0 (r.1)) := by
  unfold fX12_batteryAt_23
  exact zpc_some h
theorem w_fX12_batteryAt {σ0 : zSt} {σ : zSt} {x1 : Int32} (h : zKeM σ0 σ) : zpc (fX12_batteryAt σ x1) (fun r => zKeM σ0 (r.1)) := by
  unfold fX12_batteryAt
  exact zpc_ck (zpc_if (fun _ => w_fX12_batteryAt_23 h) (fun _ => w_fX12_batteryAt_23 h))
theorem w_fX12_read_80 {σ0 : zSt} {σ : zSt} {s0 : Int32} (h : zKeM σ0 σ) : zpc (fX12_read_80 σ s0) (fun r => zKeM σ0 (r.1)) := by
  unfold fX12_read_80
  exact zpc_some h
theorem w_fX12_read_111 {σ0 : zSt} {σ : zSt} {x2 : Int32} {s0 : Int32} (h : zKeM σ0 σ) : zpc (fX12_read_111 σ x2 s0) (fun r => zKeM σ0 (r.1)) := by
  unfold fX12_read_111
  exact zpc_bi (w_fX12_ofBank h) (fun σ1 v2 hσ1 => zpc_some hσ1)
theorem w_fX12_read_138 {σ0 : zSt} {σ : zSt} {x2 : Int32} (h : zKeM σ0 σ) : zpc (fX12_read_138 σ x2) (fun r => zKeM σ0 (r.1)) := by
  unfold fX12_read_138
  exact zpc_ck (zpc_ck (zpc_bi (w_fX12_ofBank h) (fun σ3 v4 hσ3 => zpc_some hσ3)))
theorem w_fX12_read {σ0 : zSt} {σ : zSt} {x1 : Int32} (h : zKeM σ0 σ) : zpc (fX12_read σ x1) (fun r => zKeM σ0 (r.1)) := by
  unfold fX12_read
  exact zpc_bv (fun v5 _ => zpc_if (fun _ => zpc_bi (w_fX12_isBattery h) (fun σ6 v7 hσ6 => zpc_if (fun _ => zpc_if (fun _ => zpc_if (fun _ => w_fX12_read_80 hσ6) (fun _ => zpc_ck (w_fX12_read_80 hσ6))) (fun _ => zpc_if (fun _ => zpc_if (fun _ => zpc_ck (w_fX12_read_111 hσ6)) (fun _ => zpc_ck (w_fX12_read_111 hσ6))) (fun _ => zpc_if (fun _ => zpc_if (fun _ => w_fX12_read_138 hσ6) (fun _ => zpc_bi (w_fX12_ofBank hσ6) (fun σ8 v9 hσ8 => zpc_some hσ8))) (fun _ => w_fX12_read_138 hσ6)))) (fun _ => zpc_bi (w_fX12_batteryAt hσ6) (fun σ10 v11 hσ10 => zpc_ck (zpc_some hσ10))))) (fun _ => zpc_ck (zpc_ck (zpc_some h))))
theorem w_fX12_write_163 {σ0 : zSt} {σ : zSt} (h : zKeM σ0 σ) : zpc (fX12_write_163 σ) (fun r => zKeM σ0 (r)) := by
  unfold fX12_write_163
  exact zpc_some h
theorem w_fX12_write_140 {σ0 : zSt} {σ : zSt} {x3 : Int32} {x4 : Int32} (h : zKeM σ0 σ) : zpc (fX12_write_140 σ x3 x4) (fun r => zKeM σ0 (r)) := by
  unfold fX12_write_140
  exact zpc_if (fun _ => zpc_if (fun _ => zpc_ck (zpc_bs (zKeM.wi h (by decide)) (fun σ1 hσ1 => w_fX12_write_163 hσ1))) (fun _ => w_fX12_write_163 h)) (fun _ => w_fX12_write_163 h)
theorem w_fX12_write_103 {σ0 : zSt} {σ : zSt} {x3 : Int32} {x4 : Int32} (h : zKeM σ0 σ) : zpc (fX12_write_103 σ x3 x4) (fun r => zKeM σ0 (r)) := by
  unfold fX12_write_103
  exact zpc_if (fun _ => zpc_if (fun _ => w_fX12_write_140 h) (fun _ => zpc_ck (zpc_if (fun _ => zpc_ck (zpc_ck (zpc_bs (zKeM.wi h (by decide)) (fun σ2 hσ2 => w_fX12_write_140 hσ2)))) (fun _ => w_fX12_write_140 h)))) (fun _ => w_fX12_write_140 h)
theorem w_fX12_write_75 {σ0 : zSt} {σ : zSt} {x3 : Int32} {x4 : Int32} (h : zKeM σ0 σ) : zpc (fX12_write_75 σ x3 x4) (fun r => zKeM σ0 (r)) := by
  unfold fX12_write_75
  exact zpc_if (fun _ => zpc_if (fun _ => w_fX12_write_103 h) (fun _ => zpc_ck (zpc_bs (zKeM.wi h (by decide)) (fun σ3 hσ3 => w_fX12_write_103 hσ3)))) (fun _ => w_fX12_write_103 h)
theorem w_fX12_write_52 {σ0 : zSt} {σ : zSt} {x3 : Int32} {x4 : Int32} (h : zKeM σ0 σ) : zpc (fX12_write_52 σ x3 x4) (fun r => zKeM σ0 (r)) := by
  unfold fX12_write_52
  exact zpc_if (fun _ => zpc_if (fun _ => zpc_ck (zpc_bs (zKeM.wi h (by decide)) (fun σ4 hσ4 => w_fX12_write_75 hσ4))) (fun _ => w_fX12_write_75 h)) (fun _ => w_fX12_write_75 h)
theorem w_fX12_write_31 {σ0 : zSt} {σ : zSt} {x3 : Int32} {x4 : Int32} (h : zKeM σ0 σ) : zpc (fX12_write_31 σ x3 x4) (fun r => zKeM σ0 (r)) := by
  unfold fX12_write_31
  exact zpc_bi (w_fX12_isBattery h) (fun σ5 v6 hσ5 => zpc_if (fun _ => w_fX12_write_52 hσ5) (fun _ => zpc_bi (w_fX12_batteryAt hσ5) (fun σ7 v8 hσ7 => zpc_ck (zpc_bs (zKeM.wi hσ7 (by decide)) (fun σ9 hσ9 => w_fX12_write_52 hσ9)))))
theorem w_fX12_write {σ0 : zSt} {σ : zSt} {x1 : Int32} {x2 : Int32} (h : zKeM σ0 σ) : zpc (fX12_write σ x1 x2) (fun r => zKeM σ0 (r)) := by
  unfold fX12_write
  exact zpc_bv (fun v10 _ => zpc_bv (fun v11 _ => zpc_if (fun _ => w_fX12_write_31 h) (fun _ => zpc_ck (zpc_ck (zpc_bs (zKeM.wi h (by decide)) (fun σ12 hσ12 => w_fX12_write_31 hσ12))))))
theorem w_fX12_word {σ0 : zSt} {σ : zSt} {x1 : Int32} (h : zKeM σ0 σ) : zpc (fX12_word σ x1) (fun r => zKeM σ0 (r.1)) := by
  unfold fX12_word
  exact zpc_bi (w_fX12_read h) (fun σ1 v2 hσ1 => zpc_bi (w_fX12_read hσ1) (fun σ3 v4 hσ3 => zpc_some hσ3))
theorem w_fX12_wordTo {σ0 : zSt} {σ : zSt} {x1 : Int32} {x2 : Int32} (h : zKeM σ0 σ) : zpc (fX12_wordTo σ x1 x2) (fun r => zKeM σ0 (r)) := by
  unfold fX12_wordTo
  exact zpc_bu (w_fX12_write h) (fun σ1 hσ1 => zpc_bu (w_fX12_write hσ1) (fun σ2 hσ2 => zpc_some hσ2))
theorem w_fX12_pair {σ0 : zSt} {σ : zSt} {x1 : Int32} (h : zKeM σ0 σ) : zpc (fX12_pair σ x1) (fun r => zKeM σ0 (r.1)) := by
  unfold fX12_pair
  exact zpc_ck (zpc_ck (zpc_some h))
theorem w_fX12_pairTo {σ0 : zSt} {σ : zSt} {x1 : Int32} {x2 : Int32} (h : zKeM σ0 σ) : zpc (fX12_pairTo σ x1 x2) (fun r => zKeM σ0 (r)) := by
  unfold fX12_pairTo
  exact zpc_ck (zpc_bs (zKeM.wi h (by decide)) (fun σ1 hσ1 => zpc_ck (zpc_bs (zKeM.wi hσ1 (by decide)) (fun σ2 hσ2 => zpc_some hσ2))))
theorem w_fX12_hl_25 {σ0 : zSt} {σ : zSt} {s0 : Int32} (h : zKeM σ0 σ) : zpc (fX12_hl_25 σ s0) (fun r => zKeM σ0 (r.1)) := by
  unfold fX12_hl_25
  exact zpc_some h
theorem w_fX12_hl {σ0 : zSt} {σ : zSt} (h : zKeM σ0 σ) : zpc (fX12_hl σ) (fun r => zKeM σ0 (r.1)) := by
  unfold fX12_hl
  exact zpc_if (fun _ => zpc_bi (w_fX12_pair h) (fun σ1 v2 hσ1 => w_fX12_hl_25 hσ1)) (fun _ => zpc_ck (w_fX12_hl_25 h))
theorem w_fX12_hlTo_30 {σ0 : zSt} {σ : zSt} (h : zKeM σ0 σ) : zpc (fX12_hlTo_30 σ) (fun r => zKeM σ0 (r)) := by
  unfold fX12_hlTo_30
  exact zpc_some h
theorem w_fX12_hlTo {σ0 : zSt} {σ : zSt} {x1 : Int32} (h : zKeM σ0 σ) : zpc (fX12_hlTo σ x1) (fun r => zKeM σ0 (r)) := by
  unfold fX12_hlTo
  exact zpc_if (fun _ => zpc_bu (w_fX12_pairTo h) (fun σ2 hσ2 => w_fX12_hlTo_30 hσ2)) (fun _ => zpc_ck (zpc_bs (zKeM.wi h (by decide)) (fun σ1 hσ1 => w_fX12_hlTo_30 hσ1)))
theorem w_fX12_rp_44 {σ0 : zSt} {σ : zSt} {s0 : Int32} (h : zKeM σ0 σ) : zpc (fX12_rp_44 σ s0) (fun r => zKeM σ0 (r.1)) := by
  unfold fX12_rp_44
  exact zpc_some h
theorem w_fX12_rp {σ0 : zSt} {σ : zSt} {x1 : Int32} (h : zKeM σ0 σ) : zpc (fX12_rp σ x1) (fun r => zKeM σ0 (r.1)) := by
  unfold fX12_rp
  exact zpc_if (fun _ => zpc_bi (w_fX12_pair h) (fun σ5 v6 hσ5 => w_fX12_rp_44 hσ5)) (fun _ => zpc_if (fun _ => zpc_bi (w_fX12_pair h) (fun σ3 v4 hσ3 => w_fX12_rp_44 hσ3)) (fun _ => zpc_if (fun _ => zpc_bi (w_fX12_hl h) (fun σ1 v2 hσ1 => w_fX12_rp_44 hσ1)) (fun _ => zpc_ck (w_fX12_rp_44 h))))
theorem w_fX12_rpTo_51 {σ0 : zSt} {σ : zSt} (h : zKeM σ0 σ) : zpc (fX12_rpTo_51 σ) (fun r => zKeM σ0 (r)) := by
  unfold fX12_rpTo_51
  exact zpc_some h
theorem w_fX12_rpTo {σ0 : zSt} {σ : zSt} {x1 : Int32} {x2 : Int32} (h : zKeM σ0 σ) : zpc (fX12_rpTo σ x1 x2) (fun r => zKeM σ0 (r)) := by
  unfold fX12_rpTo
  exact zpc_if (fun _ => zpc_bu (w_fX12_pairTo h) (fun σ4 hσ4 => w_fX12_rpTo_51 hσ4)) (fun _ => zpc_if (fun _ => zpc_bu (w_fX12_pairTo h) (fun σ3 hσ3 => w_fX12_rpTo_51 hσ3)) (fun _ => zpc_if (fun _ => zpc_bu (w_fX12_hlTo h) (fun σ2 hσ2 => w_fX12_rpTo_51 hσ2)) (fun _ => zpc_ck (zpc_bs (zKeM.wi h (by decide)) (fun σ1 hσ1 => w_fX12_rpTo_51 hσ1)))))
theorem w_fX12_m_23 {σ0 : zSt} {σ : zSt} {s0 : Int32} (h : zKeM σ0 σ) : zpc (fX12_m_23 σ s0) (fun r => zKeM σ0 (r.1)) := by
  unfold fX12_m_23
  exact zpc_some h
theorem w_fX12_m {σ0 : zSt} {σ : zSt} (h : zKeM σ0 σ) : zpc (fX12_m σ) (fun r => zKeM σ0 (r.1)) := by
  unfold fX12_m
  exact zpc_if (fun _ => zpc_bi (w_fX12_pair h) (fun σ1 v2 hσ1 => w_fX12_m_23 hσ1)) (fun _ => zpc_ck (w_fX12_m_23 h))
theorem w_fX12_r_74 {σ0 : zSt} {σ : zSt} {x1 : Int32} (h : zKeM σ0 σ) : zpc (fX12_r_74 σ x1) (fun r => zKeM σ0 (r.1)) := by
  unfold fX12_r_74
  exact zpc_ck (zpc_some h)
theorem w_fX12_r_73 {σ0 : zSt} {σ : zSt} {s0 : Int32} (h : zKeM σ0 σ) : zpc (fX12_r_73 σ s0) (fun r => zKeM σ0 (r.1)) := by
  unfold fX12_r_73
  exact zpc_some h
theorem w_fX12_r {σ0 : zSt} {σ : zSt} {x1 : Int32} (h : zKeM σ0 σ) : zpc (fX12_r σ x1) (fun r => zKeM σ0 (r.1)) := by
  unfold fX12_r
  exact zpc_if (fun _ => zpc_bi (w_fX12_m h) (fun σ1 v2 hσ1 => zpc_bi (w_fX12_read hσ1) (fun σ3 v4 hσ3 => zpc_some hσ3))) (fun _ => zpc_if (fun _ => zpc_ck (zpc_some h)) (fun _ => zpc_if (fun _ => w_fX12_r_74 h) (fun _ => zpc_if (fun _ => w_fX12_r_74 h) (fun _ => zpc_if (fun _ => zpc_ck (w_fX12_r_73 h)) (fun _ => zpc_ck (w_fX12_r_73 h))))))
theorem w_fX12_rTo_113 {σ0 : zSt} {σ : zSt} (h : zKeM σ0 σ) : zpc (fX12_rTo_113 σ) (fun r => zKeM σ0 (r)) := by
  unfold fX12_rTo_113
  exact zpc_some h
theorem w_fX12_rTo_104 {σ0 : zSt} {σ : zSt} {x1 : Int32} {x3 : Int32} (h : zKeM σ0 σ) : zpc (fX12_rTo_104 σ x1 x3) (fun r => zKeM σ0 (r)) := by
  unfold fX12_rTo_104
  exact zpc_ck (zpc_bs (zKeM.wi h (by decide)) (fun σ1 hσ1 => w_fX12_rTo_113 hσ1))
theorem w_fX12_rTo_100 {σ0 : zSt} {σ : zSt} {s0 : Int32} {s1 : Int32} (h : zKeM σ0 σ) : zpc (fX12_rTo_100 σ s0 s1) (fun r => zKeM σ0 (r)) := by
  unfold fX12_rTo_100
  exact zpc_ck (zpc_bs (zKeM.wi h (by decide)) (fun σ2 hσ2 => w_fX12_rTo_113 hσ2))
theorem w_fX12_rTo {σ0 : zSt} {σ : zSt} {x1 : Int32} {x2 : Int32} (h : zKeM σ0 σ) : zpc (fX12_rTo σ x1 x2) (fun r => zKeM σ0 (r)) := by
  unfold fX12_rTo
  exact zpc_bv (fun v3 _ => zpc_if (fun _ => zpc_bi (w_fX12_m h) (fun σ5 v6 hσ5 => zpc_bu (w_fX12_write hσ5) (fun σ7 hσ7 => w_fX12_rTo_113 hσ7))) (fun _ => zpc_if (fun _ => zpc_ck (zpc_bs (zKeM.wi h (by decide)) (fun σ4 hσ4 => w_fX12_rTo_113 hσ4))) (fun _ => zpc_if (fun _ => w_fX12_rTo_104 h) (fun _ => zpc_if (fun _ => w_fX12_rTo_104 h) (fun _ => zpc_if (fun _ => zpc_ck (w_fX12_rTo_100 h)) (fun _ => zpc_ck (w_fX12_rTo_100 h)))))))
theorem w_fX12_put_34 {σ0 : zSt} {σ : zSt} {s0 : Int32} {s1 : Int32} (h : zKeM σ0 σ) : zpc (fX12_put_34 σ s0 s1) (fun r => zKeM σ0 (r)) := by
  unfold fX12_put_34
  exact zpc_ck (zpc_bs (zKeM.wi h (by decide)) (fun σ1 hσ1 => zpc_some hσ1))
theorem w_fX12_put {σ0 : zSt} {σ : zSt} {x1 : Int32} {x2 : Int32} (h : zKeM σ0 σ) : zpc (fX12_put σ x1 x2) (fun r => zKeM σ0 (r)) := by
  unfold fX12_put
  exact zpc_if (fun _ => zpc_ck (w_fX12_put_34 h)) (fun _ => zpc_ck (w_fX12_put_34 h))
theorem w_fX12_flag {σ0 : zSt} {σ : zSt} {x1 : Int32} (h : zKeM σ0 σ) : zpc (fX12_flag σ x1) (fun r => zKeM σ0 (r.1)) := by
  unfold fX12_flag
  exact zpc_ck (zpc_some h)
theorem w_fX12_xy_31 {σ0 : zSt} {σ : zSt} {s0 : Int32} {s1 : Int32} (h : zKeM σ0 σ) : zpc (fX12_xy_31 σ s0 s1) (fun r => zKeM σ0 (r)) := by
  unfold fX12_xy_31
  exact zpc_bu (w_fX12_put h) (fun σ1 hσ1 => zpc_some hσ1)
theorem w_fX12_xy_14 {σ0 : zSt} {σ : zSt} {x1 : Int32} {s0 : Int32} {s1 : Int32} (h : zKeM σ0 σ) : zpc (fX12_xy_14 σ x1 s0 s1) (fun r => zKeM σ0 (r)) := by
  unfold fX12_xy_14
  exact zpc_bu (w_fX12_put h) (fun σ2 hσ2 => zpc_if (fun _ => w_fX12_xy_31 hσ2) (fun _ => w_fX12_xy_31 hσ2))
theorem w_fX12_xy {σ0 : zSt} {σ : zSt} {x1 : Int32} (h : zKeM σ0 σ) : zpc (fX12_xy σ x1) (fun r => zKeM σ0 (r)) := by
  unfold fX12_xy
  exact zpc_if (fun _ => w_fX12_xy_14 h) (fun _ => w_fX12_xy_14 h)
theorem w_fX12_by_31 {σ0 : zSt} {σ : zSt} {x1 : Int32} {s0 : Int32} {s1 : Int32} (h : zKeM σ0 σ) : zpc (fX12_by_31 σ x1 s0 s1) (fun r => zKeM σ0 (r)) := by
  unfold fX12_by_31
  exact zpc_bu (w_fX12_put h) (fun σ1 hσ1 => zpc_bu (w_fX12_xy hσ1) (fun σ2 hσ2 => zpc_some hσ2))
theorem w_fX12_by_16 {σ0 : zSt} {σ : zSt} {x1 : Int32} {s0 : Int32} {s1 : Int32} (h : zKeM σ0 σ) : zpc (fX12_by_16 σ x1 s0 s1) (fun r => zKeM σ0 (r)) := by
  unfold fX12_by_16
  exact zpc_bu (w_fX12_put h) (fun σ3 hσ3 => zpc_if (fun _ => w_fX12_by_31 hσ3) (fun _ => w_fX12_by_31 hσ3))
theorem w_fX12_by {σ0 : zSt} {σ : zSt} {x1 : Int32} (h : zKeM σ0 σ) : zpc (fX12_by σ x1) (fun r => zKeM σ0 (r)) := by
  unfold fX12_by
  exact zpc_if (fun _ => w_fX12_by_16 h) (fun _ => w_fX12_by_16 h)
theorem w_fX12_isEven_35 {σ0 : zSt} {σ : zSt} {s0 : Int32} (h : zKeM σ0 σ) : zpc (fX12_isEven_35 σ s0) (fun r => zKeM σ0 (r.1)) := by
  unfold fX12_isEven_35
  exact zpc_ck (zpc_some h)
theorem w_fX12_isEven_4_body {σ0 : zSt} {k4 : zSt → Int32 → Int32 → Int32 → Option (zSt × Int32)} (hk4 : ∀ (y0 : zSt) (y1 : Int32) (y2 : Int32) (y3 : Int32), zKeM σ0 y0 → zpc (k4 y0 y1 y2 y3) (fun r => zKeM σ0 (r.1))) {σ : zSt} {x0 : Int32} {x1 : Int32} {x2 : Int32} (h : zKeM σ0 σ) : zpc (fX12_isEven_4_body k4 σ x0 x1 x2) (fun r => zKeM σ0 (r.1)) := by
  unfold fX12_isEven_4_body
  exact zpc_if (fun _ => zpc_ck (zpc_if (fun _ => w_fX12_isEven_35 h) (fun _ => w_fX12_isEven_35 h))) (fun _ => zpc_bv (fun v1 _ => zpc_bv (fun v2 _ => hk4 _ _ _ _ h)))
theorem w_fX12_isEven_4 {σ0 : zSt} : ∀ (n : Nat) (y0 : zSt) (y1 : Int32) (y2 : Int32) (y3 : Int32), zKeM σ0 y0 → zpc (fX12_isEven_4 n y0 y1 y2 y3) (fun r => zKeM σ0 (r.1)) := by
  intro n
  induction n with
  | zero => intro y0 y1 y2 y3 h; exact zpc_none
  | succ n ih => intro y0 y1 y2 y3 h; exact w_fX12_isEven_4_body ih h
theorem w_fX12_isEven {σ0 : zSt} {σ : zSt} {x0 : Int32} (h : zKeM σ0 σ) : zpc (fX12_isEven σ x0) (fun r => zKeM σ0 (r.1)) := by
  unfold fX12_isEven
  exact w_fX12_isEven_4 _ _ _ _ _ h
theorem w_fX12_cc_64 {σ0 : zSt} {σ : zSt} {s0 : Int32} (h : zKeM σ0 σ) : zpc (fX12_cc_64 σ s0) (fun r => zKeM σ0 (r.1)) := by
  unfold fX12_cc_64
  exact zpc_ck (zpc_some h)
theorem w_fX12_cc_56 {σ0 : zSt} {σ : zSt} {s0 : Int32} {s1 : Int32} (h : zKeM σ0 σ) : zpc (fX12_cc_56 σ s0 s1) (fun r => zKeM σ0 (r.1)) := by
  unfold fX12_cc_56
  exact zpc_if (fun _ => w_fX12_cc_64 h) (fun _ => w_fX12_cc_64 h)
theorem w_fX12_cc_44 {σ0 : zSt} {σ : zSt} {x1 : Int32} {s0 : Int32} (h : zKeM σ0 σ) : zpc (fX12_cc_44 σ x1 s0) (fun r => zKeM σ0 (r.1)) := by
  unfold fX12_cc_44
  exact zpc_ck (zpc_if (fun _ => w_fX12_cc_56 h) (fun _ => w_fX12_cc_56 h))
theorem w_fX12_cc_32 {σ0 : zSt} {σ : zSt} {x1 : Int32} {s0 : Int32} (h : zKeM σ0 σ) : zpc (fX12_cc_32 σ x1 s0) (fun r => zKeM σ0 (r.1)) := by
  unfold fX12_cc_32
  exact zpc_bi (w_fX12_flag h) (fun σ1 v2 hσ1 => zpc_if (fun _ => w_fX12_cc_44 hσ1) (fun _ => w_fX12_cc_44 hσ1))
theorem w_fX12_cc {σ0 : zSt} {σ : zSt} {x1 : Int32} (h : zKeM σ0 σ) : zpc (fX12_cc σ x1) (fun r => zKeM σ0 (r.1)) := by
  unfold fX12_cc
  exact zpc_if (fun _ => zpc_if (fun _ => zpc_if (fun _ => w_fX12_cc_32 h) (fun _ => w_fX12_cc_32 h)) (fun _ => w_fX12_cc_32 h)) (fun _ => w_fX12_cc_32 h)
theorem w_fX12_push {σ0 : zSt} {σ : zSt} {x1 : Int32} (h : zKeM σ0 σ) : zpc (fX12_push σ x1) (fun r => zKeM σ0 (r)) := by
  unfold fX12_push
  exact zpc_ck (zpc_ck (zpc_bs (zKeM.wi h (by decide)) (fun σ1 hσ1 => zpc_ck (zpc_bu (w_fX12_write hσ1) (fun σ2 hσ2 => zpc_ck (zpc_ck (zpc_bs (zKeM.wi hσ2 (by decide)) (fun σ3 hσ3 => zpc_ck (zpc_bu (w_fX12_write hσ3) (fun σ4 hσ4 => zpc_some hσ4))))))))))
theorem w_fX12_pop {σ0 : zSt} {σ : zSt} (h : zKeM σ0 σ) : zpc (fX12_pop σ) (fun r => zKeM σ0 (r.1)) := by
  unfold fX12_pop
  exact zpc_ck (zpc_bi (w_fX12_read h) (fun σ1 v2 hσ1 => zpc_ck (zpc_ck (zpc_bs (zKeM.wi hσ1 (by decide)) (fun σ3 hσ3 => zpc_ck (zpc_bi (w_fX12_read hσ3) (fun σ4 v5 hσ4 => zpc_bv (fun v6 _ => zpc_ck (zpc_ck (zpc_bs (zKeM.wi hσ4 (by decide)) (fun σ7 hσ7 => zpc_some hσ7)))))))))))
theorem w_fX12_grows {σ0 : zSt} {σ : zSt} (h : zKeM σ0 σ) : zpc (fX12_grows σ) (fun r => zKeM σ0 (r)) := by
  unfold fX12_grows
  exact zpc_ck (zpc_ck (zpc_ck (zpc_bs (zKeM.wi h (by decide)) (fun σ1 hσ1 => zpc_some hσ1))))
theorem w_fX12_next {σ0 : zSt} {σ : zSt} (h : zKeM σ0 σ) : zpc (fX12_next σ) (fun r => zKeM σ0 (r.1)) := by
  unfold fX12_next
  exact zpc_ck (zpc_bi (w_fX12_read h) (fun σ1 v2 hσ1 => zpc_ck (zpc_ck (zpc_bs (zKeM.wi hσ1 (by decide)) (fun σ3 hσ3 => zpc_some hσ3)))))
theorem w_fX12_fetch {σ0 : zSt} {σ : zSt} (h : zKeM σ0 σ) : zpc (fX12_fetch σ) (fun r => zKeM σ0 (r.1)) := by
  unfold fX12_fetch
  exact zpc_bi (w_fX12_next h) (fun σ1 v2 hσ1 => zpc_bu (w_fX12_grows hσ1) (fun σ3 hσ3 => zpc_some hσ3))
theorem w_fX12_nextWord {σ0 : zSt} {σ : zSt} (h : zKeM σ0 σ) : zpc (fX12_nextWord σ) (fun r => zKeM σ0 (r.1)) := by
  unfold fX12_nextWord
  exact zpc_bi (w_fX12_next h) (fun σ1 v2 hσ1 => zpc_bi (w_fX12_next hσ1) (fun σ3 v4 hσ3 => zpc_some hσ3))
theorem w_fX12_signed_16 {σ0 : zSt} {σ : zSt} {s0 : Int32} (h : zKeM σ0 σ) : zpc (fX12_signed_16 σ s0) (fun r => zKeM σ0 (r.1)) := by
  unfold fX12_signed_16
  exact zpc_some h
theorem w_fX12_signed {σ0 : zSt} {σ : zSt} {x0 : Int32} (h : zKeM σ0 σ) : zpc (fX12_signed σ x0) (fun r => zKeM σ0 (r.1)) := by
  unfold fX12_signed
  exact zpc_if (fun _ => w_fX12_signed_16 h) (fun _ => w_fX12_signed_16 h)
theorem w_fX12_call {σ0 : zSt} {σ : zSt} {x1 : Int32} (h : zKeM σ0 σ) : zpc (fX12_call σ x1) (fun r => zKeM σ0 (r)) := by
  unfold fX12_call
  exact zpc_ck (zpc_bu (w_fX12_push h) (fun σ1 hσ1 => zpc_ck (zpc_bs (zKeM.wi hσ1 (by decide)) (fun σ2 hσ2 => zpc_ck (zpc_bs (zKeM.wi hσ2 (by decide)) (fun σ3 hσ3 => zpc_some hσ3))))))
theorem w_fX12_change {σ0 : zSt} {σ : zSt} {x1 : Int32} {x2 : Int32} (h : zKeM σ0 σ) : zpc (fX12_change σ x1 x2) (fun r => zKeM σ0 (r)) := by
  unfold fX12_change
  exact zpc_ck (zpc_bv (fun v1 _ => zpc_ck (zpc_ck (zpc_bs (zKeM.wi h (by decide)) (fun σ2 hσ2 => zpc_ck (zpc_bs (zKeM.wi hσ2 (by decide)) (fun σ3 hσ3 => zpc_some hσ3)))))))
theorem w_fX12_bit {σ0 : zSt} {σ : zSt} {x1 : Int32} {x2 : Int32} (h : zKeM σ0 σ) : zpc (fX12_bit σ x1 x2) (fun r => zKeM σ0 (r.1)) := by
  unfold fX12_bit
  exact zpc_ck (zpc_some h)
theorem w_fX12_mode_57 {σ0 : zSt} {σ : zSt} {s0 : Int32} (h : zKeM σ0 σ) : zpc (fX12_mode_57 σ s0) (fun r => zKeM σ0 (r.1)) := by
  unfold fX12_mode_57
  exact zpc_some h
theorem w_fX12_mode {σ0 : zSt} {σ : zSt} (h : zKeM σ0 σ) : zpc (fX12_mode σ) (fun r => zKeM σ0 (r.1)) := by
  unfold fX12_mode
  exact zpc_bi (w_fX12_bit h) (fun σ1 v2 hσ1 => zpc_if (fun _ => w_fX12_mode_57 hσ1) (fun _ => zpc_bi (w_fX12_bit hσ1) (fun σ3 v4 hσ3 => zpc_if (fun _ => w_fX12_mode_57 hσ3) (fun _ => zpc_bi (w_fX12_bit hσ3) (fun σ5 v6 hσ5 => zpc_if (fun _ => w_fX12_mode_57 hσ5) (fun _ => zpc_bi (w_fX12_bit hσ5) (fun σ7 v8 hσ7 => zpc_if (fun _ => w_fX12_mode_57 hσ7) (fun _ => w_fX12_mode_57 hσ7))))))))
theorem w_fX12_height_32 {σ0 : zSt} {σ : zSt} (h : zKeM σ0 σ) : zpc (fX12_height_32 σ) (fun r => zKeM σ0 (r.1)) := by
  unfold fX12_height_32
  exact zpc_some h
theorem w_fX12_height_55 {σ0 : zSt} {σ : zSt} {s0 : Int32} (h : zKeM σ0 σ) : zpc (fX12_height_55 σ s0) (fun r => zKeM σ0 (r.1)) := by
  unfold fX12_height_55
  exact zpc_some h
theorem w_fX12_height {σ0 : zSt} {σ : zSt} (h : zKeM σ0 σ) : zpc (fX12_height σ) (fun r => zKeM σ0 (r.1)) := by
  unfold fX12_height
  exact zpc_bi (w_fX12_mode h) (fun σ1 v2 hσ1 => zpc_if (fun _ => zpc_bi (w_fX12_bit hσ1) (fun σ3 v4 hσ3 => zpc_if (fun _ => w_fX12_height_32 hσ3) (fun _ => zpc_bi (w_fX12_bit hσ3) (fun σ5 v6 hσ5 => zpc_bi (w_fX12_bit hσ5) (fun σ7 v8 hσ7 => zpc_if (fun _ => w_fX12_height_32 hσ7) (fun _ => zpc_bi (w_fX12_bit hσ7) (fun σ9 v10 hσ9 => zpc_if (fun _ => w_fX12_height_55 hσ9) (fun _ => w_fX12_height_55 hσ9)))))))) (fun _ => w_fX12_height_32 hσ1))
theorem w_fX12_vCount_109 {σ0 : zSt} {σ : zSt} {s0 : Int32} (h : zKeM σ0 σ) : zpc (fX12_vCount_109 σ s0) (fun r => zKeM σ0 (r.1)) := by
  unfold fX12_vCount_109
  exact zpc_some h
theorem w_fX12_vCount_108 {σ0 : zSt} {σ : zSt} {s0 : Int32} {s1 : Int32} (h : zKeM σ0 σ) : zpc (fX12_vCount_108 σ s0 s1) (fun r => zKeM σ0 (r.1)) := by
  unfold fX12_vCount_108
  exact w_fX12_vCount_109 h
theorem w_fX12_vCount_82 {σ0 : zSt} {σ : zSt} {x1 : Int32} {s0 : Int32} (h : zKeM σ0 σ) : zpc (fX12_vCount_82 σ x1 s0) (fun r => zKeM σ0 (r.1)) := by
  unfold fX12_vCount_82
  exact zpc_if (fun _ => zpc_if (fun _ => w_fX12_vCount_108 h) (fun _ => w_fX12_vCount_108 h)) (fun _ => w_fX12_vCount_109 h)
theorem w_fX12_vCount {σ0 : zSt} {σ : zSt} (h : zKeM σ0 σ) : zpc (fX12_vCount σ) (fun r => zKeM σ0 (r.1)) := by
  unfold fX12_vCount
  exact zpc_ck (zpc_bv (fun v1 _ => zpc_bi (w_fX12_height h) (fun σ2 v3 hσ2 => zpc_if (fun _ => zpc_if (fun _ => w_fX12_vCount_82 hσ2) (fun _ => zpc_if (fun _ => w_fX12_vCount_82 hσ2) (fun _ => w_fX12_vCount_82 hσ2))) (fun _ => zpc_if (fun _ => w_fX12_vCount_82 hσ2) (fun _ => zpc_if (fun _ => w_fX12_vCount_82 hσ2) (fun _ => w_fX12_vCount_82 hσ2))))))
theorem w_fX12_status {σ0 : zSt} {σ : zSt} (h : zKeM σ0 σ) : zpc (fX12_status σ) (fun r => zKeM σ0 (r.1)) := by
  unfold fX12_status
  exact zpc_ck (zpc_bv (fun v1 _ => zpc_ck (zpc_bs (zKeM.wi h (by decide)) (fun σ2 hσ2 => zpc_ck (zpc_bs (zKeM.wi hσ2 (by decide)) (fun σ3 hσ3 => zpc_ck (zpc_bs (zKeM.wi hσ3 (by decide)) (fun σ4 hσ4 => zpc_some hσ4))))))))
theorem w_fX12_video8 {σ0 : zSt} {σ : zSt} {x1 : Int32} (h : zKeM σ0 σ) : zpc (fX12_video8 σ x1) (fun r => zKeM σ0 (r.1)) := by
  unfold fX12_video8
  exact zpc_ck (zpc_some h)
theorem w_fX12_further {σ0 : zSt} {σ : zSt} (h : zKeM σ0 σ) : zpc (fX12_further σ) (fun r => zKeM σ0 (r)) := by
  unfold fX12_further
  exact zpc_ck (zpc_ck (zpc_bs (zKeM.wi h (by decide)) (fun σ1 hσ1 => zpc_some hσ1)))
theorem w_fX12_data {σ0 : zSt} {σ : zSt} (h : zKeM σ0 σ) : zpc (fX12_data σ) (fun r => zKeM σ0 (r.1)) := by
  unfold fX12_data
  exact zpc_ck (zpc_bv (fun v1 _ => zpc_ck (zpc_bs (zKeM.wi h (by decide)) (fun σ2 hσ2 => zpc_ck (zpc_bi (w_fX12_video8 hσ2) (fun σ3 v4 hσ3 => zpc_ck (zpc_bs (zKeM.wi hσ3 (by decide)) (fun σ5 hσ5 => zpc_bu (w_fX12_further hσ5) (fun σ6 hσ6 => zpc_some hσ6)))))))))
theorem w_fX12_lineAt_45 {σ0 : zSt} {σ : zSt} {s0 : Int32} (h : zKeM σ0 σ) : zpc (fX12_lineAt_45 σ s0) (fun r => zKeM σ0 (r.1)) := by
  unfold fX12_lineAt_45
  exact zpc_some h
theorem w_fX12_lineAt {σ0 : zSt} {σ : zSt} {x1 : Int32} (h : zKeM σ0 σ) : zpc (fX12_lineAt σ x1) (fun r => zKeM σ0 (r.1)) := by
  unfold fX12_lineAt
  exact zpc_ck (zpc_if (fun _ => zpc_ck (w_fX12_lineAt_45 h)) (fun _ => zpc_ck (w_fX12_lineAt_45 h)))
theorem w_fX12_without_20 {σ0 : zSt} {σ : zSt} {s0 : Int32} (h : zKeM σ0 σ) : zpc (fX12_without_20 σ s0) (fun r => zKeM σ0 (r.1)) := by
  unfold fX12_without_20
  exact zpc_some h
theorem w_fX12_without {σ0 : zSt} {σ : zSt} {x1 : Int32} {x2 : Int32} {x3 : Int32} (h : zKeM σ0 σ) : zpc (fX12_without σ x1 x2 x3) (fun r => zKeM σ0 (r.1)) := by
  unfold fX12_without
  exact zpc_if (fun _ => w_fX12_without_20 h) (fun _ => w_fX12_without_20 h)
theorem w_fX12_port_32 {σ0 : zSt} {σ : zSt} (h : zKeM σ0 σ) : zpc (fX12_port_32 σ) (fun r => zKeM σ0 (r.1)) := by
  unfold fX12_port_32
  exact zpc_some h
theorem w_fX12_port_73 {σ0 : zSt} {σ : zSt} {s0 : Int32} (h : zKeM σ0 σ) : zpc (fX12_port_73 σ s0) (fun r => zKeM σ0 (r.1)) := by
  unfold fX12_port_73
  exact zpc_some h
theorem w_fX12_port_60 {σ0 : zSt} {σ : zSt} {s0 : Int32} {s1 : Int32} (h : zKeM σ0 σ) : zpc (fX12_port_60 σ s0 s1) (fun r => zKeM σ0 (r.1)) := by
  unfold fX12_port_60
  exact w_fX12_port_73 h
theorem w_fX12_port_99 {σ0 : zSt} {σ : zSt} {s0 : Int32} (h : zKeM σ0 σ) : zpc (fX12_port_99 σ s0) (fun r => zKeM σ0 (r.1)) := by
  unfold fX12_port_99
  exact zpc_some h
theorem w_fX12_port_122 {σ0 : zSt} {σ : zSt} {s0 : Int32} (h : zKeM σ0 σ) : zpc (fX12_port_122 σ s0) (fun r => zKeM σ0 (r.1)) := by
  unfold fX12_port_122
  exact zpc_some h
theorem w_fX12_port_230 {σ0 : zSt} {σ : zSt} {s0 : Int32} (h : zKeM σ0 σ) : zpc (fX12_port_230 σ s0) (fun r => zKeM σ0 (r.1)) := by
  unfold fX12_port_230
  exact zpc_some h
theorem w_fX12_port_289 {σ0 : zSt} {σ : zSt} {s0 : Int32} (h : zKeM σ0 σ) : zpc (fX12_port_289 σ s0) (fun r => zKeM σ0 (r.1)) := by
  unfold fX12_port_289
  exact zpc_some h
theorem w_fX12_port_147 {σ0 : zSt} {σ : zSt} {x2 : Int32} (h : zKeM σ0 σ) : zpc (fX12_port_147 σ x2) (fun r => zKeM σ0 (r.1)) := by
  unfold fX12_port_147
  exact zpc_if (fun _ => zpc_ck (zpc_ck (zpc_bv (fun v1 _ => zpc_ck (zpc_if (fun _ => zpc_ck (zpc_bi (w_fX12_without h) (fun σ2 v3 hσ2 => w_fX12_port_289 hσ2))) (fun _ => w_fX12_port_289 h)))))) (fun _ => zpc_ck (zpc_bv (fun v4 _ => zpc_bi (w_fX12_lineAt h) (fun σ5 v6 hσ5 => zpc_bi (w_fX12_without hσ5) (fun σ7 v8 hσ7 => zpc_bi (w_fX12_lineAt hσ7) (fun σ9 v10 hσ9 => zpc_bi (w_fX12_without hσ9) (fun σ11 v12 hσ11 => zpc_ck (zpc_if (fun _ => zpc_ck (zpc_bi (w_fX12_without hσ11) (fun σ13 v14 hσ13 => w_fX12_port_230 hσ13))) (fun _ => w_fX12_port_230 hσ11)))))))))
theorem w_fX12_port_12 {σ0 : zSt} {σ : zSt} {x1 : Int32} {s0 : Int32} (h : zKeM σ0 σ) : zpc (fX12_port_12 σ x1 s0) (fun r => zKeM σ0 (r.1)) := by
  unfold fX12_port_12
  exact zpc_if (fun _ => zpc_if (fun _ => zpc_if (fun _ => zpc_if (fun _ => zpc_if (fun _ => w_fX12_port_147 h) (fun _ => zpc_ck (zpc_some h))) (fun _ => w_fX12_port_147 h)) (fun _ => zpc_if (fun _ => zpc_bi (w_fX12_data h) (fun σ15 v16 hσ15 => w_fX12_port_122 hσ15)) (fun _ => zpc_bi (w_fX12_status h) (fun σ17 v18 hσ17 => w_fX12_port_122 hσ17)))) (fun _ => zpc_if (fun _ => zpc_bi (w_fX12_vCount h) (fun σ19 v20 hσ19 => w_fX12_port_99 hσ19)) (fun _ => zpc_ck (w_fX12_port_99 h)))) (fun _ => zpc_if (fun _ => zpc_if (fun _ => zpc_if (fun _ => zpc_ck (zpc_if (fun _ => w_fX12_port_60 h) (fun _ => w_fX12_port_60 h))) (fun _ => zpc_ck (w_fX12_port_73 h))) (fun _ => w_fX12_port_32 h)) (fun _ => w_fX12_port_32 h))
theorem w_fX12_port {σ0 : zSt} {σ : zSt} {x1 : Int32} (h : zKeM σ0 σ) : zpc (fX12_port σ x1) (fun r => zKeM σ0 (r.1)) := by
  unfold fX12_port
  exact zpc_ck (zpc_if (fun _ => w_fX12_port_12 h) (fun _ => w_fX12_port_12 h))
theorem w_fX12_hCount_27 {σ0 : zSt} {σ : zSt} {s0 : Int32} (h : zKeM σ0 σ) : zpc (fX12_hCount_27 σ s0) (fun r => zKeM σ0 (r.1)) := by
  unfold fX12_hCount_27
  exact zpc_some h
theorem w_fX12_hCount {σ0 : zSt} {σ : zSt} (h : zKeM σ0 σ) : zpc (fX12_hCount σ) (fun r => zKeM σ0 (r.1)) := by
  unfold fX12_hCount
  exact zpc_ck (zpc_ck (zpc_bv (fun v1 _ => zpc_if (fun _ => w_fX12_hCount_27 h) (fun _ => w_fX12_hCount_27 h))))
theorem w_fX12_noise_141 {σ0 : zSt} {σ : zSt} (h : zKeM σ0 σ) : zpc (fX12_noise_141 σ) (fun r => zKeM σ0 (r)) := by
  unfold fX12_noise_141
  exact zpc_some h
theorem w_fX12_noise_140 {σ0 : zSt} {σ : zSt} {s0 : Int32} {s1 : Int32} (h : zKeM σ0 σ) : zpc (fX12_noise_140 σ s0 s1) (fun r => zKeM σ0 (r)) := by
  unfold fX12_noise_140
  exact zpc_ck (zpc_bs (zKeM.wi h (by decide)) (fun σ1 hσ1 => w_fX12_noise_141 hσ1))
theorem w_fX12_noise_19 {σ0 : zSt} {σ : zSt} {x1 : Int32} (h : zKeM σ0 σ) : zpc (fX12_noise_19 σ x1) (fun r => zKeM σ0 (r)) := by
  unfold fX12_noise_19
  exact zpc_ck (zpc_ck (zpc_bv (fun v2 _ => zpc_ck (zpc_ck (zpc_if (fun _ => zpc_ck (zpc_bs (zKeM.wi h (by decide)) (fun σ5 hσ5 => w_fX12_noise_141 hσ5))) (fun _ => zpc_if (fun _ => zpc_ck (zpc_bs (zKeM.wi h (by decide)) (fun σ3 hσ3 => zpc_ck (zpc_bs (zKeM.wi hσ3 (by decide)) (fun σ4 hσ4 => w_fX12_noise_141 hσ4))))) (fun _ => zpc_if (fun _ => zpc_ck (w_fX12_noise_140 h)) (fun _ => zpc_ck (w_fX12_noise_140 h)))))))))
theorem w_fX12_noise {σ0 : zSt} {σ : zSt} {x1 : Int32} (h : zKeM σ0 σ) : zpc (fX12_noise σ x1) (fun r => zKeM σ0 (r)) := by
  unfold fX12_noise
  exact zpc_if (fun _ => w_fX12_noise_19 h) (fun _ => zpc_ck (zpc_bs (zKeM.wi h (by decide)) (fun σ6 hσ6 => w_fX12_noise_19 hσ6)))
theorem w_fX12_control_162 {σ0 : zSt} {σ : zSt} (h : zKeM σ0 σ) : zpc (fX12_control_162 σ) (fun r => zKeM σ0 (r)) := by
  unfold fX12_control_162
  exact zpc_some h
theorem w_fX12_control {σ0 : zSt} {σ : zSt} {x1 : Int32} (h : zKeM σ0 σ) : zpc (fX12_control σ x1) (fun r => zKeM σ0 (r)) := by
  unfold fX12_control
  exact zpc_ck (zpc_if (fun _ => zpc_ck (zpc_ck (zpc_bs (zKeM.wi h (by decide)) (fun σ9 hσ9 => zpc_ck (zpc_bs (zKeM.wi hσ9 (by decide)) (fun σ10 hσ10 => zpc_some hσ10)))))) (fun _ => zpc_ck (zpc_bs (zKeM.wi h (by decide)) (fun σ1 hσ1 => zpc_ck (zpc_ck (zpc_bs (zKeM.wi hσ1 (by decide)) (fun σ2 hσ2 => zpc_ck (zpc_bs (zKeM.wi hσ2 (by decide)) (fun σ3 hσ3 => zpc_ck (zpc_if (fun _ => zpc_ck (zpc_bi (w_fX12_video8 hσ3) (fun σ5 v6 hσ5 => zpc_ck (zpc_bs (zKeM.wi hσ5 (by decide)) (fun σ7 hσ7 => zpc_bu (w_fX12_further hσ7) (fun σ8 hσ8 => w_fX12_control_162 hσ8)))))) (fun _ => zpc_ck (zpc_if (fun _ => zpc_ck (zpc_if (fun _ => w_fX12_control_162 hσ3) (fun _ => zpc_ck (zpc_ck (zpc_ck (zpc_bs (zKeM.wi hσ3 (by decide)) (fun σ4 hσ4 => w_fX12_control_162 hσ4))))))) (fun _ => w_fX12_control_162 hσ3)))))))))))))
theorem w_fX12_dataTo_115 {σ0 : zSt} {σ : zSt} (h : zKeM σ0 σ) : zpc (fX12_dataTo_115 σ) (fun r => zKeM σ0 (r)) := by
  unfold fX12_dataTo_115
  exact zpc_bu (w_fX12_further h) (fun σ1 hσ1 => zpc_some hσ1)
theorem w_fX12_dataTo {σ0 : zSt} {σ : zSt} {x1 : Int32} (h : zKeM σ0 σ) : zpc (fX12_dataTo σ x1) (fun r => zKeM σ0 (r)) := by
  unfold fX12_dataTo
  exact zpc_ck (zpc_bs (zKeM.wi h (by decide)) (fun σ2 hσ2 => zpc_ck (zpc_bs (zKeM.wi hσ2 (by decide)) (fun σ3 hσ3 => zpc_ck (zpc_bv (fun v4 _ => zpc_ck (zpc_if (fun _ => zpc_if (fun _ => zpc_ck (zpc_if (fun _ => zpc_ck (zpc_bs (zKeM.wi hσ3 (by decide)) (fun σ7 hσ7 => w_fX12_dataTo_115 hσ7))) (fun _ => zpc_ck (zpc_ck (zpc_ck (zpc_bs (zKeM.wi hσ3 (by decide)) (fun σ5 hσ5 => zpc_ck (zpc_ck (zpc_bs (zKeM.wi hσ5 (by decide)) (fun σ6 hσ6 => w_fX12_dataTo_115 hσ6)))))))))) (fun _ => zpc_ck (zpc_ck (zpc_bs (zKeM.wi hσ3 (by decide)) (fun σ8 hσ8 => w_fX12_dataTo_115 hσ8))))) (fun _ => zpc_ck (zpc_bs (zKeM.wi hσ3 (by decide)) (fun σ9 hσ9 => w_fX12_dataTo_115 hσ9))))))))))
theorem w_fX12_portTo_267 {σ0 : zSt} {σ : zSt} (h : zKeM σ0 σ) : zpc (fX12_portTo_267 σ) (fun r => zKeM σ0 (r)) := by
  unfold fX12_portTo_267
  exact zpc_some h
theorem w_fX12_portTo_140 {σ0 : zSt} {σ : zSt} (h : zKeM σ0 σ) : zpc (fX12_portTo_140 σ) (fun r => zKeM σ0 (r)) := by
  unfold fX12_portTo_140
  exact w_fX12_portTo_267 h
theorem w_fX12_portTo_129 {σ0 : zSt} {σ : zSt} (h : zKeM σ0 σ) : zpc (fX12_portTo_129 σ) (fun r => zKeM σ0 (r)) := by
  unfold fX12_portTo_129
  exact zpc_bi (w_fX12_hCount h) (fun σ1 v2 hσ1 => zpc_ck (zpc_bs (zKeM.wi hσ1 (by decide)) (fun σ3 hσ3 => w_fX12_portTo_140 hσ3)))
theorem w_fX12_portTo_115 {σ0 : zSt} {σ : zSt} {x5 : Int32} (h : zKeM σ0 σ) : zpc (fX12_portTo_115 σ x5) (fun r => zKeM σ0 (r)) := by
  unfold fX12_portTo_115
  exact zpc_if (fun _ => zpc_bi (w_fX12_lineAt h) (fun σ4 v5 hσ4 => zpc_if (fun _ => w_fX12_portTo_129 hσ4) (fun _ => w_fX12_portTo_140 hσ4))) (fun _ => w_fX12_portTo_140 h)
theorem w_fX12_portTo_75 {σ0 : zSt} {σ : zSt} {x2 : Int32} {x3 : Int32} (h : zKeM σ0 σ) : zpc (fX12_portTo_75 σ x2 x3) (fun r => zKeM σ0 (r)) := by
  unfold fX12_portTo_75
  exact zpc_if (fun _ => w_fX12_portTo_267 h) (fun _ => zpc_bi (w_fX12_lineAt h) (fun σ6 v7 hσ6 => zpc_bi (w_fX12_lineAt hσ6) (fun σ8 v9 hσ8 => zpc_ck (zpc_bs (zKeM.wi hσ8 (by decide)) (fun σ10 hσ10 => zpc_if (fun _ => zpc_bi (w_fX12_lineAt hσ10) (fun σ11 v12 hσ11 => zpc_if (fun _ => w_fX12_portTo_129 hσ11) (fun _ => w_fX12_portTo_115 hσ11))) (fun _ => w_fX12_portTo_115 hσ10))))))
theorem w_fX12_portTo_50 {σ0 : zSt} {σ : zSt} {x1 : Int32} {x2 : Int32} {x3 : Int32} (h : zKeM σ0 σ) : zpc (fX12_portTo_50 σ x1 x2 x3) (fun r => zKeM σ0 (r)) := by
  unfold fX12_portTo_50
  exact zpc_if (fun _ => zpc_if (fun _ => zpc_ck (zpc_bs (zKeM.wi h (by decide)) (fun σ13 hσ13 => w_fX12_portTo_267 hσ13))) (fun _ => w_fX12_portTo_75 h)) (fun _ => w_fX12_portTo_75 h)
theorem w_fX12_portTo_12 {σ0 : zSt} {σ : zSt} {x1 : Int32} {x2 : Int32} {s0 : Int32} (h : zKeM σ0 σ) : zpc (fX12_portTo_12 σ x1 x2 s0) (fun r => zKeM σ0 (r)) := by
  unfold fX12_portTo_12
  exact zpc_if (fun _ => zpc_if (fun _ => zpc_if (fun _ => zpc_if (fun _ => w_fX12_portTo_267 h) (fun _ => zpc_if (fun _ => w_fX12_portTo_267 h) (fun _ => zpc_if (fun _ => w_fX12_portTo_267 h) (fun _ => zpc_if (fun _ => zpc_ck (zpc_ck (zpc_bs (zKeM.wi h (by decide)) (fun σ16 hσ16 => w_fX12_portTo_267 hσ16)))) (fun _ => zpc_if (fun _ => zpc_ck (zpc_ck (zpc_bs (zKeM.wi h (by decide)) (fun σ15 hσ15 => w_fX12_portTo_267 hσ15)))) (fun _ => zpc_ck (zpc_ck (zpc_bs (zKeM.wi h (by decide)) (fun σ14 hσ14 => w_fX12_portTo_267 hσ14))))))))) (fun _ => zpc_if (fun _ => zpc_bu (w_fX12_dataTo h) (fun σ17 hσ17 => w_fX12_portTo_267 hσ17)) (fun _ => zpc_bu (w_fX12_control h) (fun σ18 hσ18 => w_fX12_portTo_267 hσ18)))) (fun _ => zpc_bu (w_fX12_noise h) (fun σ19 hσ19 => w_fX12_portTo_267 hσ19))) (fun _ => zpc_if (fun _ => zpc_if (fun _ => w_fX12_portTo_50 h) (fun _ => zpc_if (fun _ => w_fX12_portTo_50 h) (fun _ => zpc_ck (zpc_bs (zKeM.wi h (by decide)) (fun σ20 hσ20 => w_fX12_portTo_267 hσ20))))) (fun _ => w_fX12_portTo_50 h))
theorem w_fX12_portTo {σ0 : zSt} {σ : zSt} {x1 : Int32} {x2 : Int32} (h : zKeM σ0 σ) : zpc (fX12_portTo σ x1 x2) (fun r => zKeM σ0 (r)) := by
  unfold fX12_portTo
  exact zpc_ck (zpc_if (fun _ => w_fX12_portTo_12 h) (fun _ => w_fX12_portTo_12 h))
theorem w_fX12_turned_118 {σ0 : zSt} {σ : zSt} {s0 : Int32} (h : zKeM σ0 σ) : zpc (fX12_turned_118 σ s0) (fun r => zKeM σ0 (r.1)) := by
  unfold fX12_turned_118
  exact zpc_some h
theorem w_fX12_turned_89 {σ0 : zSt} {σ : zSt} {x2 : Int32} {x3 : Int32} {x5 : Int32} {s0 : Int32} {s1 : Int32} (h : zKeM σ0 σ) : zpc (fX12_turned_89 σ x2 x3 x5 s0 s1) (fun r => zKeM σ0 (r.1)) := by
  unfold fX12_turned_89
  exact zpc_bu (w_fX12_put h) (fun σ1 hσ1 => zpc_if (fun _ => w_fX12_turned_118 hσ1) (fun _ => w_fX12_turned_118 hσ1))
theorem w_fX12_turned_74 {σ0 : zSt} {σ : zSt} {x2 : Int32} {x3 : Int32} {x4 : Int32} {s0 : Int32} (h : zKeM σ0 σ) : zpc (fX12_turned_74 σ x2 x3 x4 s0) (fun r => zKeM σ0 (r.1)) := by
  unfold fX12_turned_74
  exact zpc_if (fun _ => w_fX12_turned_89 h) (fun _ => w_fX12_turned_89 h)
theorem w_fX12_turned_26 {σ0 : zSt} {σ : zSt} {x1 : Int32} {x2 : Int32} {x3 : Int32} {s0 : Int32} (h : zKeM σ0 σ) : zpc (fX12_turned_26 σ x1 x2 x3 s0) (fun r => zKeM σ0 (r.1)) := by
  unfold fX12_turned_26
  exact zpc_if (fun _ => zpc_if (fun _ => zpc_if (fun _ => w_fX12_turned_74 h) (fun _ => zpc_if (fun _ => w_fX12_turned_74 h) (fun _ => w_fX12_turned_74 h))) (fun _ => zpc_bi (w_fX12_flag h) (fun σ2 v3 hσ2 => w_fX12_turned_74 hσ2))) (fun _ => w_fX12_turned_74 h)
theorem w_fX12_turned_11 {σ0 : zSt} {σ : zSt} {x1 : Int32} {x2 : Int32} {s0 : Int32} (h : zKeM σ0 σ) : zpc (fX12_turned_11 σ x1 x2 s0) (fun r => zKeM σ0 (r.1)) := by
  unfold fX12_turned_11
  exact zpc_if (fun _ => w_fX12_turned_26 h) (fun _ => w_fX12_turned_26 h)
theorem w_fX12_turned {σ0 : zSt} {σ : zSt} {x1 : Int32} {x2 : Int32} (h : zKeM σ0 σ) : zpc (fX12_turned σ x1 x2) (fun r => zKeM σ0 (r.1)) := by
  unfold fX12_turned
  exact zpc_ck (zpc_if (fun _ => w_fX12_turned_11 h) (fun _ => w_fX12_turned_11 h))
theorem w_fX12_turn_122 {σ0 : zSt} {σ : zSt} {s0 : Int32} (h : zKeM σ0 σ) : zpc (fX12_turn_122 σ s0) (fun r => zKeM σ0 (r.1)) := by
  unfold fX12_turn_122
  exact zpc_some h
theorem w_fX12_turn_106 {σ0 : zSt} {σ : zSt} {x3 : Int32} {s0 : Int32} (h : zKeM σ0 σ) : zpc (fX12_turn_106 σ x3 s0) (fun r => zKeM σ0 (r.1)) := by
  unfold fX12_turn_106
  exact zpc_bu (w_fX12_xy h) (fun σ1 hσ1 => zpc_if (fun _ => w_fX12_turn_122 hσ1) (fun _ => w_fX12_turn_122 hσ1))
theorem w_fX12_turn_69 {σ0 : zSt} {σ : zSt} {x3 : Int32} {x4 : Int32} {s0 : Int32} {s1 : Int32} (h : zKeM σ0 σ) : zpc (fX12_turn_69 σ x3 x4 s0 s1) (fun r => zKeM σ0 (r.1)) := by
  unfold fX12_turn_69
  exact zpc_bu (w_fX12_put h) (fun σ2 hσ2 => zpc_bu (w_fX12_put hσ2) (fun σ3 hσ3 => zpc_bu (w_fX12_put hσ3) (fun σ4 hσ4 => zpc_if (fun _ => zpc_ck (w_fX12_turn_106 hσ4)) (fun _ => w_fX12_turn_106 hσ4))))
theorem w_fX12_turn_219 {σ0 : zSt} {σ : zSt} {s0 : Int32} (h : zKeM σ0 σ) : zpc (fX12_turn_219 σ s0) (fun r => zKeM σ0 (r.1)) := by
  unfold fX12_turn_219
  exact zpc_some h
theorem w_fX12_turn_193 {σ0 : zSt} {σ : zSt} {x3 : Int32} {x4 : Int32} (h : zKeM σ0 σ) : zpc (fX12_turn_193 σ x3 x4) (fun r => zKeM σ0 (r.1)) := by
  unfold fX12_turn_193
  exact zpc_bu (w_fX12_rTo h) (fun σ5 hσ5 => zpc_bs (zKeM.w0 hσ5 (by decide)) (fun σ6 hσ6 => zpc_if (fun _ => w_fX12_turn_219 hσ6) (fun _ => w_fX12_turn_219 hσ6)))
theorem w_fX12_turn_191 {σ0 : zSt} {σ : zSt} {x3 : Int32} {s0 : Int32} (h : zKeM σ0 σ) : zpc (fX12_turn_191 σ x3 s0) (fun r => zKeM σ0 (r.1)) := by
  unfold fX12_turn_191
  exact w_fX12_turn_193 h
theorem w_fX12_turn_23 {σ0 : zSt} {σ : zSt} {x1 : Int32} {x2 : Int32} {s0 : Int32} (h : zKeM σ0 σ) : zpc (fX12_turn_23 σ x1 x2 s0) (fun r => zKeM σ0 (r.1)) := by
  unfold fX12_turn_23
  exact zpc_bi (w_fX12_r h) (fun σ7 v8 hσ7 => zpc_bv (fun v9 _ => zpc_if (fun _ => zpc_bv (fun v18 _ => zpc_bu (w_fX12_by hσ7) (fun σ19 hσ19 => zpc_if (fun _ => w_fX12_turn_69 hσ19) (fun _ => w_fX12_turn_69 hσ19)))) (fun _ => zpc_if (fun _ => zpc_bi (w_fX12_turned hσ7) (fun σ10 v11 hσ10 => zpc_bu (w_fX12_by hσ10) (fun σ12 hσ12 => zpc_bi (w_fX12_isEven hσ12) (fun σ13 v14 hσ13 => zpc_bu (w_fX12_put hσ13) (fun σ15 hσ15 => zpc_bu (w_fX12_put hσ15) (fun σ16 hσ16 => zpc_bu (w_fX12_put hσ16) (fun σ17 hσ17 => w_fX12_turn_193 hσ17))))))) (fun _ => zpc_if (fun _ => w_fX12_turn_191 hσ7) (fun _ => w_fX12_turn_191 hσ7)))))
theorem w_fX12_turn {σ0 : zSt} {σ : zSt} {x1 : Int32} (h : zKeM σ0 σ) : zpc (fX12_turn σ x1) (fun r => zKeM σ0 (r.1)) := by
  unfold fX12_turn
  exact zpc_bv (fun v20 _ => zpc_if (fun _ => w_fX12_turn_23 h) (fun _ => w_fX12_turn_23 h))
theorem w_fX12_turns {σ0 : zSt} {σ : zSt} (h : zKeM σ0 σ) : zpc (fX12_turns σ) (fun r => zKeM σ0 (r.1)) := by
  unfold fX12_turns
  exact zpc_bi (w_fX12_fetch h) (fun σ1 v2 hσ1 => zpc_bi (w_fX12_turn hσ1) (fun σ3 v4 hσ3 => zpc_some hσ3))
theorem w_fX12_three_200 {σ0 : zSt} {σ : zSt} {s0 : Int32} (h : zKeM σ0 σ) : zpc (fX12_three_200 σ s0) (fun r => zKeM σ0 (r.1)) := by
  unfold fX12_three_200
  exact zpc_some h
theorem w_fX12_three_189 {σ0 : zSt} {σ : zSt} {x3 : Int32} (h : zKeM σ0 σ) : zpc (fX12_three_189 σ x3) (fun r => zKeM σ0 (r.1)) := by
  unfold fX12_three_189
  exact zpc_if (fun _ => w_fX12_three_200 h) (fun _ => w_fX12_three_200 h)
theorem w_fX12_three_173 {σ0 : zSt} {σ : zSt} {x3 : Int32} (h : zKeM σ0 σ) : zpc (fX12_three_173 σ x3) (fun r => zKeM σ0 (r.1)) := by
  unfold fX12_three_173
  exact zpc_if (fun _ => zpc_bi (w_fX12_hl h) (fun σ1 v2 hσ1 => zpc_ck (zpc_bs (zKeM.wi hσ1 (by decide)) (fun σ3 hσ3 => w_fX12_three_189 hσ3)))) (fun _ => w_fX12_three_189 h)
theorem w_fX12_three_157 {σ0 : zSt} {σ : zSt} {x3 : Int32} (h : zKeM σ0 σ) : zpc (fX12_three_157 σ x3) (fun r => zKeM σ0 (r.1)) := by
  unfold fX12_three_157
  exact zpc_if (fun _ => zpc_bi (w_fX12_hl h) (fun σ4 v5 hσ4 => zpc_ck (zpc_bs (zKeM.wi hσ4 (by decide)) (fun σ6 hσ6 => w_fX12_three_173 hσ6)))) (fun _ => w_fX12_three_173 h)
theorem w_fX12_three_128_body {σ0 : zSt} {k128 : zSt → Int32 → Int32 → Option (zSt × Int32)} (hk128 : ∀ (y0 : zSt) (y1 : Int32) (y2 : Int32), zKeM σ0 y0 → zpc (k128 y0 y1 y2) (fun r => zKeM σ0 (r.1))) {σ : zSt} {x3 : Int32} {x4 : Int32} (h : zKeM σ0 σ) : zpc (fX12_three_128_body k128 σ x3 x4) (fun r => zKeM σ0 (r.1)) := by
  unfold fX12_three_128_body
  exact zpc_if (fun _ => zpc_if (fun _ => w_fX12_three_157 h) (fun _ => zpc_bu (w_fX12_change h) (fun σ7 hσ7 => zpc_bv (fun v8 _ => hk128 _ _ _ hσ7)))) (fun _ => w_fX12_three_157 h)
theorem w_fX12_three_128 {σ0 : zSt} : ∀ (n : Nat) (y0 : zSt) (y1 : Int32) (y2 : Int32), zKeM σ0 y0 → zpc (fX12_three_128 n y0 y1 y2) (fun r => zKeM σ0 (r.1)) := by
  intro n
  induction n with
  | zero => intro y0 y1 y2 h; exact zpc_none
  | succ n ih => intro y0 y1 y2 h; exact w_fX12_three_128_body ih h
theorem w_fX12_three_239 {σ0 : zSt} {σ : zSt} (h : zKeM σ0 σ) : zpc (fX12_three_239 σ) (fun r => zKeM σ0 (r.1)) := by
  unfold fX12_three_239
  exact zpc_some h
theorem w_fX12_three_502 {σ0 : zSt} {σ : zSt} (h : zKeM σ0 σ) : zpc (fX12_three_502 σ) (fun r => zKeM σ0 (r.1)) := by
  unfold fX12_three_502
  exact zpc_some h
theorem w_fX12_three_88 {σ0 : zSt} {σ : zSt} {x1 : Int32} {x2 : Int32} {x3 : Int32} (h : zKeM σ0 σ) : zpc (fX12_three_88 σ x1 x2 x3) (fun r => zKeM σ0 (r.1)) := by
  unfold fX12_three_88
  exact zpc_if (fun _ => zpc_if (fun _ => zpc_bi (w_fX12_pop h) (fun σ43 v44 hσ43 => zpc_ck (zpc_bs (zKeM.wi hσ43 (by decide)) (fun σ45 hσ45 => zpc_ck (zpc_ck (zpc_bs (zKeM.wi hσ45 (by decide)) (fun σ46 hσ46 => zpc_some hσ46))))))) (fun _ => w_fX12_three_128 _ _ _ _ h)) (fun _ => zpc_if (fun _ => zpc_bi (w_fX12_nextWord h) (fun σ37 v38 hσ37 => zpc_ck (zpc_bs (zKeM.wi hσ37 (by decide)) (fun σ39 hσ39 => zpc_bi (w_fX12_cc hσ39) (fun σ40 v41 hσ40 => zpc_if (fun _ => w_fX12_three_239 hσ40) (fun _ => zpc_ck (zpc_ck (zpc_bs (zKeM.wi hσ40 (by decide)) (fun σ42 hσ42 => w_fX12_three_239 hσ42))))))))) (fun _ => zpc_if (fun _ => zpc_bi (w_fX12_nextWord h) (fun σ9 v10 hσ9 => zpc_ck (zpc_bs (zKeM.wi hσ9 (by decide)) (fun σ11 hσ11 => zpc_ck (zpc_ck (zpc_bs (zKeM.wi hσ11 (by decide)) (fun σ12 hσ12 => zpc_some hσ12))))))) (fun _ => zpc_if (fun _ => zpc_bi (w_fX12_turns h) (fun σ13 v14 hσ13 => zpc_some hσ13)) (fun _ => zpc_if (fun _ => zpc_bi (w_fX12_next h) (fun σ15 v16 hσ15 => zpc_ck (zpc_bu (w_fX12_portTo hσ15) (fun σ17 hσ17 => zpc_ck (zpc_ck (zpc_bs (zKeM.wi hσ17 (by decide)) (fun σ18 hσ18 => zpc_some hσ18))))))) (fun _ => zpc_if (fun _ => zpc_bi (w_fX12_next h) (fun σ19 v20 hσ19 => zpc_ck (zpc_ck (zpc_bs (zKeM.wi hσ19 (by decide)) (fun σ21 hσ21 => zpc_bi (w_fX12_port hσ21) (fun σ22 v23 hσ22 => zpc_ck (zpc_bs (zKeM.wi hσ22 (by decide)) (fun σ24 hσ24 => zpc_some hσ24)))))))) (fun _ => zpc_if (fun _ => zpc_ck (zpc_bi (w_fX12_word h) (fun σ25 v26 hσ25 => zpc_ck (zpc_bi (w_fX12_hl hσ25) (fun σ27 v28 hσ27 => zpc_bu (w_fX12_wordTo hσ27) (fun σ29 hσ29 => zpc_bu (w_fX12_hlTo hσ29) (fun σ30 hσ30 => zpc_ck (zpc_bs (zKeM.wi hσ30 (by decide)) (fun σ31 hσ31 => zpc_some hσ31))))))))) (fun _ => zpc_if (fun _ => zpc_bu (w_fX12_change h) (fun σ32 hσ32 => zpc_bu (w_fX12_change hσ32) (fun σ33 hσ33 => zpc_some hσ33))) (fun _ => zpc_ck (zpc_bs (zKeM.wi h (by decide)) (fun σ34 hσ34 => zpc_ck (zpc_bs (zKeM.wi hσ34 (by decide)) (fun σ35 hσ35 => zpc_if (fun _ => zpc_ck (zpc_bs (zKeM.wi hσ35 (by decide)) (fun σ36 hσ36 => w_fX12_three_502 hσ36))) (fun _ => w_fX12_three_502 hσ35)))))))))))))
theorem w_fX12_three_85 {σ0 : zSt} {σ : zSt} (h : zKeM σ0 σ) : zpc (fX12_three_85 σ) (fun r => zKeM σ0 (r.1)) := by
  unfold fX12_three_85
  exact zpc_some h
theorem w_fX12_three {σ0 : zSt} {σ : zSt} {x1 : Int32} {x2 : Int32} (h : zKeM σ0 σ) : zpc (fX12_three σ x1 x2) (fun r => zKeM σ0 (r.1)) := by
  unfold fX12_three
  exact zpc_bv (fun v47 _ => zpc_if (fun _ => zpc_bi (w_fX12_cc h) (fun σ52 v53 hσ52 => zpc_if (fun _ => zpc_some hσ52) (fun _ => zpc_bi (w_fX12_pop hσ52) (fun σ54 v55 hσ54 => zpc_ck (zpc_bs (zKeM.wi hσ54 (by decide)) (fun σ56 hσ56 => zpc_ck (zpc_ck (zpc_bs (zKeM.wi hσ56 (by decide)) (fun σ57 hσ57 => zpc_some hσ57))))))))) (fun _ => zpc_if (fun _ => zpc_ck (zpc_if (fun _ => zpc_bi (w_fX12_pop h) (fun σ48 v49 hσ48 => zpc_if (fun _ => zpc_bu (w_fX12_pairTo hσ48) (fun σ51 hσ51 => w_fX12_three_85 hσ51)) (fun _ => zpc_bu (w_fX12_rpTo hσ48) (fun σ50 hσ50 => w_fX12_three_85 hσ50)))) (fun _ => w_fX12_three_88 h))) (fun _ => w_fX12_three_88 h)))
theorem w_fX12_does_343 {σ0 : zSt} {σ : zSt} (h : zKeM σ0 σ) : zpc (fX12_does_343 σ) (fun r => zKeM σ0 (r)) := by
  unfold fX12_does_343
  exact zpc_some h
theorem w_fX12_does_314 {σ0 : zSt} {σ : zSt} {x1 : Int32} {x2 : Int32} {x6 : Int32} {s0 : Int32} {s1 : Int32} (h : zKeM σ0 σ) : zpc (fX12_does_314 σ x1 x2 x6 s0 s1) (fun r => zKeM σ0 (r)) := by
  unfold fX12_does_314
  exact zpc_bu (w_fX12_put h) (fun σ1 hσ1 => zpc_if (fun _ => zpc_bu (w_fX12_xy hσ1) (fun σ3 hσ3 => w_fX12_does_343 hσ3)) (fun _ => zpc_ck (zpc_bs (zKeM.wi hσ1 (by decide)) (fun σ2 hσ2 => w_fX12_does_343 hσ2))))
theorem w_fX12_does_299 {σ0 : zSt} {σ : zSt} {x1 : Int32} {x2 : Int32} {x5 : Int32} {x6 : Int32} {s0 : Int32} {s1 : Int32} (h : zKeM σ0 σ) : zpc (fX12_does_299 σ x1 x2 x5 x6 s0 s1) (fun r => zKeM σ0 (r)) := by
  unfold fX12_does_299
  exact zpc_bu (w_fX12_put h) (fun σ4 hσ4 => zpc_if (fun _ => w_fX12_does_314 hσ4) (fun _ => w_fX12_does_314 hσ4))
theorem w_fX12_does_294 {σ0 : zSt} {σ : zSt} {x1 : Int32} {x2 : Int32} {x5 : Int32} {x6 : Int32} {s0 : Int32} (h : zKeM σ0 σ) : zpc (fX12_does_294 σ x1 x2 x5 x6 s0) (fun r => zKeM σ0 (r)) := by
  unfold fX12_does_294
  exact w_fX12_does_299 h
theorem w_fX12_does_266 {σ0 : zSt} {σ : zSt} {x1 : Int32} {x2 : Int32} {x5 : Int32} {x6 : Int32} {s0 : Int32} (h : zKeM σ0 σ) : zpc (fX12_does_266 σ x1 x2 x5 x6 s0) (fun r => zKeM σ0 (r)) := by
  unfold fX12_does_266
  exact zpc_bu (w_fX12_by h) (fun σ5 hσ5 => zpc_if (fun _ => w_fX12_does_294 hσ5) (fun _ => zpc_if (fun _ => w_fX12_does_299 hσ5) (fun _ => w_fX12_does_294 hσ5)))
theorem w_fX12_does_231 {σ0 : zSt} {σ : zSt} {x1 : Int32} {x2 : Int32} {x3 : Int32} {x4 : Int32} {x5 : Int32} {x6 : Int32} {s0 : Int32} {s1 : Int32} (h : zKeM σ0 σ) : zpc (fX12_does_231 σ x1 x2 x3 x4 x5 x6 s0 s1) (fun r => zKeM σ0 (r)) := by
  unfold fX12_does_231
  exact zpc_bu (w_fX12_put h) (fun σ6 hσ6 => zpc_if (fun _ => zpc_bi (w_fX12_signed hσ6) (fun σ7 v8 hσ7 => zpc_bi (w_fX12_signed hσ7) (fun σ9 v10 hσ9 => w_fX12_does_266 hσ9))) (fun _ => zpc_bi (w_fX12_signed hσ6) (fun σ11 v12 hσ11 => zpc_bi (w_fX12_signed hσ11) (fun σ13 v14 hσ13 => w_fX12_does_266 hσ13))))
theorem w_fX12_does_226 {σ0 : zSt} {σ : zSt} {x1 : Int32} {x2 : Int32} {x3 : Int32} {x4 : Int32} {x5 : Int32} {x6 : Int32} {s0 : Int32} (h : zKeM σ0 σ) : zpc (fX12_does_226 σ x1 x2 x3 x4 x5 x6 s0) (fun r => zKeM σ0 (r)) := by
  unfold fX12_does_226
  exact w_fX12_does_231 h
theorem w_fX12_does_208 {σ0 : zSt} {σ : zSt} {x1 : Int32} {x2 : Int32} {x3 : Int32} {x4 : Int32} {x5 : Int32} {x6 : Int32} {s0 : Int32} {s1 : Int32} (h : zKeM σ0 σ) : zpc (fX12_does_208 σ x1 x2 x3 x4 x5 x6 s0 s1) (fun r => zKeM σ0 (r)) := by
  unfold fX12_does_208
  exact zpc_bu (w_fX12_put h) (fun σ15 hσ15 => zpc_if (fun _ => w_fX12_does_226 hσ15) (fun _ => zpc_if (fun _ => w_fX12_does_231 hσ15) (fun _ => w_fX12_does_226 hσ15)))
theorem w_fX12_does_154 {σ0 : zSt} {σ : zSt} {x1 : Int32} {x2 : Int32} {x3 : Int32} {x4 : Int32} {x5 : Int32} {s0 : Int32} (h : zKeM σ0 σ) : zpc (fX12_does_154 σ x1 x2 x3 x4 x5 s0) (fun r => zKeM σ0 (r)) := by
  unfold fX12_does_154
  exact zpc_if (fun _ => zpc_if (fun _ => w_fX12_does_208 h) (fun _ => w_fX12_does_208 h)) (fun _ => zpc_if (fun _ => w_fX12_does_208 h) (fun _ => w_fX12_does_208 h))
theorem w_fX12_does_132 {σ0 : zSt} {σ : zSt} {x1 : Int32} {x2 : Int32} {x3 : Int32} {x4 : Int32} {s0 : Int32} (h : zKeM σ0 σ) : zpc (fX12_does_132 σ x1 x2 x3 x4 s0) (fun r => zKeM σ0 (r)) := by
  unfold fX12_does_132
  exact zpc_if (fun _ => w_fX12_does_154 h) (fun _ => w_fX12_does_154 h)
theorem w_fX12_does_120 {σ0 : zSt} {σ : zSt} {x1 : Int32} {x2 : Int32} {x3 : Int32} {s0 : Int32} (h : zKeM σ0 σ) : zpc (fX12_does_120 σ x1 x2 x3 s0) (fun r => zKeM σ0 (r)) := by
  unfold fX12_does_120
  exact zpc_if (fun _ => w_fX12_does_132 h) (fun _ => w_fX12_does_132 h)
theorem w_fX12_does_111 {σ0 : zSt} {σ : zSt} {x1 : Int32} {x2 : Int32} {x3 : Int32} (h : zKeM σ0 σ) : zpc (fX12_does_111 σ x1 x2 x3) (fun r => zKeM σ0 (r)) := by
  unfold fX12_does_111
  exact zpc_bi (w_fX12_flag h) (fun σ16 v17 hσ16 => w_fX12_does_120 hσ16)
theorem w_fX12_does_101 {σ0 : zSt} {σ : zSt} {x1 : Int32} {x2 : Int32} {x3 : Int32} (h : zKeM σ0 σ) : zpc (fX12_does_101 σ x1 x2 x3) (fun r => zKeM σ0 (r)) := by
  unfold fX12_does_101
  exact zpc_if (fun _ => w_fX12_does_111 h) (fun _ => zpc_if (fun _ => w_fX12_does_111 h) (fun _ => w_fX12_does_120 h))
theorem w_fX12_does_71 {σ0 : zSt} {σ : zSt} {s0 : Int32} {s1 : Int32} (h : zKeM σ0 σ) : zpc (fX12_does_71 σ s0 s1) (fun r => zKeM σ0 (r)) := by
  unfold fX12_does_71
  exact zpc_bu (w_fX12_put h) (fun σ18 hσ18 => zpc_ck (zpc_bi (w_fX12_isEven hσ18) (fun σ19 v20 hσ19 => zpc_bu (w_fX12_put hσ19) (fun σ21 hσ21 => zpc_bu (w_fX12_put hσ21) (fun σ22 hσ22 => zpc_bu (w_fX12_put hσ22) (fun σ23 hσ23 => zpc_some hσ23))))))
theorem w_fX12_does_48 {σ0 : zSt} {σ : zSt} {x1 : Int32} {s0 : Int32} {s1 : Int32} (h : zKeM σ0 σ) : zpc (fX12_does_48 σ x1 s0 s1) (fun r => zKeM σ0 (r)) := by
  unfold fX12_does_48
  exact zpc_ck (zpc_bs (zKeM.wi h (by decide)) (fun σ24 hσ24 => zpc_ck (zpc_bu (w_fX12_by hσ24) (fun σ25 hσ25 => zpc_if (fun _ => w_fX12_does_71 hσ25) (fun _ => w_fX12_does_71 hσ25)))))
theorem w_fX12_does {σ0 : zSt} {σ : zSt} {x1 : Int32} {x2 : Int32} (h : zKeM σ0 σ) : zpc (fX12_does σ x1 x2) (fun r => zKeM σ0 (r)) := by
  unfold fX12_does
  exact zpc_ck (zpc_bv (fun v26 _ => zpc_if (fun _ => w_fX12_does_101 h) (fun _ => zpc_if (fun _ => w_fX12_does_101 h) (fun _ => zpc_if (fun _ => w_fX12_does_48 h) (fun _ => zpc_if (fun _ => w_fX12_does_48 h) (fun _ => w_fX12_does_48 h))))))
theorem w_fX12_blocks_595 {σ0 : zSt} {σ : zSt} (h : zKeM σ0 σ) : zpc (fX12_blocks_595 σ) (fun r => zKeM σ0 (r.1)) := by
  unfold fX12_blocks_595
  exact zpc_some h
theorem w_fX12_blocks_641 {σ0 : zSt} {σ : zSt} (h : zKeM σ0 σ) : zpc (fX12_blocks_641 σ) (fun r => zKeM σ0 (r.1)) := by
  unfold fX12_blocks_641
  exact zpc_some h
theorem w_fX12_blocks_584 {σ0 : zSt} {σ : zSt} {x1 : Int32} {x2 : Int32} {x5 : Int32} (h : zKeM σ0 σ) : zpc (fX12_blocks_584 σ x1 x2 x5) (fun r => zKeM σ0 (r.1)) := by
  unfold fX12_blocks_584
  exact zpc_if (fun _ => w_fX12_blocks_595 h) (fun _ => zpc_if (fun _ => w_fX12_blocks_595 h) (fun _ => zpc_ck (zpc_ck (zpc_bs (zKeM.wi h (by decide)) (fun σ1 hσ1 => zpc_if (fun _ => w_fX12_blocks_641 hσ1) (fun _ => zpc_ck (zpc_ck (zpc_bs (zKeM.wi hσ1 (by decide)) (fun σ2 hσ2 => w_fX12_blocks_641 hσ2)))))))))
theorem w_fX12_blocks_297 {σ0 : zSt} {σ : zSt} {x1 : Int32} {x2 : Int32} {s0 : Int32} (h : zKeM σ0 σ) : zpc (fX12_blocks_297 σ x1 x2 s0) (fun r => zKeM σ0 (r.1)) := by
  unfold fX12_blocks_297
  exact w_fX12_blocks_584 h
theorem w_fX12_blocks_296 {σ0 : zSt} {σ : zSt} {x1 : Int32} {x2 : Int32} (h : zKeM σ0 σ) : zpc (fX12_blocks_296 σ x1 x2) (fun r => zKeM σ0 (r.1)) := by
  unfold fX12_blocks_296
  exact w_fX12_blocks_297 h
theorem w_fX12_blocks_292 {σ0 : zSt} {σ : zSt} {x1 : Int32} {x2 : Int32} (h : zKeM σ0 σ) : zpc (fX12_blocks_292 σ x1 x2) (fun r => zKeM σ0 (r.1)) := by
  unfold fX12_blocks_292
  exact w_fX12_blocks_297 h
theorem w_fX12_blocks_267 {σ0 : zSt} {σ : zSt} {x1 : Int32} {x2 : Int32} {s0 : Int32} {s1 : Int32} (h : zKeM σ0 σ) : zpc (fX12_blocks_267 σ x1 x2 s0 s1) (fun r => zKeM σ0 (r.1)) := by
  unfold fX12_blocks_267
  exact zpc_bu (w_fX12_put h) (fun σ3 hσ3 => zpc_bi (w_fX12_flag hσ3) (fun σ4 v5 hσ4 => zpc_if (fun _ => zpc_if (fun _ => w_fX12_blocks_292 hσ4) (fun _ => zpc_bi (w_fX12_flag hσ4) (fun σ6 v7 hσ6 => zpc_if (fun _ => w_fX12_blocks_292 hσ6) (fun _ => w_fX12_blocks_296 hσ6)))) (fun _ => w_fX12_blocks_296 hσ4)))
theorem w_fX12_blocks_249 {σ0 : zSt} {σ : zSt} {x1 : Int32} {x2 : Int32} {s0 : Int32} {s1 : Int32} (h : zKeM σ0 σ) : zpc (fX12_blocks_249 σ x1 x2 s0 s1) (fun r => zKeM σ0 (r.1)) := by
  unfold fX12_blocks_249
  exact zpc_bu (w_fX12_put h) (fun σ8 hσ8 => zpc_bi (w_fX12_pair hσ8) (fun σ9 v10 hσ9 => zpc_if (fun _ => w_fX12_blocks_267 hσ9) (fun _ => w_fX12_blocks_267 hσ9)))
theorem w_fX12_blocks_234 {σ0 : zSt} {σ : zSt} {x1 : Int32} {x2 : Int32} {s0 : Int32} {s1 : Int32} (h : zKeM σ0 σ) : zpc (fX12_blocks_234 σ x1 x2 s0 s1) (fun r => zKeM σ0 (r.1)) := by
  unfold fX12_blocks_234
  exact zpc_bu (w_fX12_put h) (fun σ11 hσ11 => zpc_if (fun _ => w_fX12_blocks_249 hσ11) (fun _ => w_fX12_blocks_249 hσ11))
theorem w_fX12_blocks_216 {σ0 : zSt} {σ : zSt} {x1 : Int32} {x2 : Int32} {x6 : Int32} {s0 : Int32} {s1 : Int32} (h : zKeM σ0 σ) : zpc (fX12_blocks_216 σ x1 x2 x6 s0 s1) (fun r => zKeM σ0 (r.1)) := by
  unfold fX12_blocks_216
  exact zpc_bu (w_fX12_put h) (fun σ12 hσ12 => zpc_if (fun _ => w_fX12_blocks_234 hσ12) (fun _ => w_fX12_blocks_234 hσ12))
theorem w_fX12_blocks_202 {σ0 : zSt} {σ : zSt} {x1 : Int32} {x2 : Int32} {x6 : Int32} (h : zKeM σ0 σ) : zpc (fX12_blocks_202 σ x1 x2 x6) (fun r => zKeM σ0 (r.1)) := by
  unfold fX12_blocks_202
  exact zpc_if (fun _ => w_fX12_blocks_216 h) (fun _ => w_fX12_blocks_216 h)
theorem w_fX12_blocks_190 {σ0 : zSt} {σ : zSt} {x1 : Int32} {x2 : Int32} {s0 : Int32} {s1 : Int32} (h : zKeM σ0 σ) : zpc (fX12_blocks_190 σ x1 x2 s0 s1) (fun r => zKeM σ0 (r.1)) := by
  unfold fX12_blocks_190
  exact zpc_bv (fun v13 _ => w_fX12_blocks_202 h)
theorem w_fX12_blocks_159 {σ0 : zSt} {σ : zSt} {x1 : Int32} {x2 : Int32} {x6 : Int32} {s0 : Int32} (h : zKeM σ0 σ) : zpc (fX12_blocks_159 σ x1 x2 x6 s0) (fun r => zKeM σ0 (r.1)) := by
  unfold fX12_blocks_159
  exact zpc_bu (w_fX12_by h) (fun σ14 hσ14 => zpc_bu (w_fX12_put hσ14) (fun σ15 hσ15 => zpc_if (fun _ => w_fX12_blocks_190 hσ15) (fun _ => w_fX12_blocks_190 hσ15)))
theorem w_fX12_blocks_111 {σ0 : zSt} {σ : zSt} {x1 : Int32} {x2 : Int32} {x3 : Int32} {x4 : Int32} {s0 : Int32} (h : zKeM σ0 σ) : zpc (fX12_blocks_111 σ x1 x2 x3 x4 s0) (fun r => zKeM σ0 (r.1)) := by
  unfold fX12_blocks_111
  exact zpc_if (fun _ => zpc_ck (zpc_ck (zpc_bs (zKeM.wi h (by decide)) (fun σ17 hσ17 => zpc_ck (zpc_if (fun _ => w_fX12_blocks_159 hσ17) (fun _ => w_fX12_blocks_159 hσ17)))))) (fun _ => zpc_bu (w_fX12_put h) (fun σ16 hσ16 => w_fX12_blocks_202 hσ16))
theorem w_fX12_blocks_74 {σ0 : zSt} {σ : zSt} {x1 : Int32} {x2 : Int32} {x3 : Int32} {x4 : Int32} (h : zKeM σ0 σ) : zpc (fX12_blocks_74 σ x1 x2 x3 x4) (fun r => zKeM σ0 (r.1)) := by
  unfold fX12_blocks_74
  exact zpc_bi (w_fX12_pair h) (fun σ18 v19 hσ18 => zpc_bu (w_fX12_pairTo hσ18) (fun σ20 hσ20 => zpc_if (fun _ => zpc_ck (w_fX12_blocks_111 hσ20)) (fun _ => zpc_ck (w_fX12_blocks_111 hσ20))))
theorem w_fX12_blocks_44 {σ0 : zSt} {σ : zSt} {x1 : Int32} {x2 : Int32} {x3 : Int32} {x4 : Int32} (h : zKeM σ0 σ) : zpc (fX12_blocks_44 σ x1 x2 x3 x4) (fun r => zKeM σ0 (r.1)) := by
  unfold fX12_blocks_44
  exact zpc_bi (w_fX12_pair h) (fun σ21 v22 hσ21 => zpc_bu (w_fX12_pairTo hσ21) (fun σ23 hσ23 => zpc_if (fun _ => zpc_bi (w_fX12_pair hσ23) (fun σ24 v25 hσ24 => zpc_bu (w_fX12_pairTo hσ24) (fun σ26 hσ26 => w_fX12_blocks_74 hσ26))) (fun _ => w_fX12_blocks_74 hσ23)))
theorem w_fX12_blocks_582 {σ0 : zSt} {σ : zSt} {x1 : Int32} {x2 : Int32} {s0 : Int32} (h : zKeM σ0 σ) : zpc (fX12_blocks_582 σ x1 x2 s0) (fun r => zKeM σ0 (r.1)) := by
  unfold fX12_blocks_582
  exact w_fX12_blocks_584 h
theorem w_fX12_blocks_545 {σ0 : zSt} {σ : zSt} {x1 : Int32} {x2 : Int32} {x6 : Int32} {s0 : Int32} {s1 : Int32} (h : zKeM σ0 σ) : zpc (fX12_blocks_545 σ x1 x2 x6 s0 s1) (fun r => zKeM σ0 (r.1)) := by
  unfold fX12_blocks_545
  exact zpc_bu (w_fX12_put h) (fun σ27 hσ27 => zpc_ck (zpc_bi (w_fX12_isEven hσ27) (fun σ28 v29 hσ28 => zpc_bu (w_fX12_put hσ28) (fun σ30 hσ30 => zpc_ck (zpc_if (fun _ => w_fX12_blocks_582 hσ30) (fun _ => w_fX12_blocks_582 hσ30))))))
theorem w_fX12_blocks_527 {σ0 : zSt} {σ : zSt} {x1 : Int32} {x2 : Int32} {x6 : Int32} {s0 : Int32} {s1 : Int32} (h : zKeM σ0 σ) : zpc (fX12_blocks_527 σ x1 x2 x6 s0 s1) (fun r => zKeM σ0 (r.1)) := by
  unfold fX12_blocks_527
  exact zpc_bu (w_fX12_put h) (fun σ31 hσ31 => zpc_if (fun _ => w_fX12_blocks_545 hσ31) (fun _ => w_fX12_blocks_545 hσ31))
theorem w_fX12_blocks_509 {σ0 : zSt} {σ : zSt} {x1 : Int32} {x2 : Int32} {x6 : Int32} {s0 : Int32} {s1 : Int32} (h : zKeM σ0 σ) : zpc (fX12_blocks_509 σ x1 x2 x6 s0 s1) (fun r => zKeM σ0 (r.1)) := by
  unfold fX12_blocks_509
  exact zpc_bu (w_fX12_put h) (fun σ32 hσ32 => zpc_if (fun _ => w_fX12_blocks_527 hσ32) (fun _ => w_fX12_blocks_527 hσ32))
theorem w_fX12_blocks_485 {σ0 : zSt} {σ : zSt} {x1 : Int32} {x2 : Int32} {x4 : Int32} {x6 : Int32} (h : zKeM σ0 σ) : zpc (fX12_blocks_485 σ x1 x2 x4 x6) (fun r => zKeM σ0 (r.1)) := by
  unfold fX12_blocks_485
  exact zpc_ck (zpc_bu (w_fX12_by h) (fun σ33 hσ33 => zpc_if (fun _ => w_fX12_blocks_509 hσ33) (fun _ => w_fX12_blocks_509 hσ33)))
theorem w_fX12_blocks_11 {σ0 : zSt} {σ : zSt} {x1 : Int32} {x2 : Int32} {s0 : Int32} (h : zKeM σ0 σ) : zpc (fX12_blocks_11 σ x1 x2 s0) (fun r => zKeM σ0 (r.1)) := by
  unfold fX12_blocks_11
  exact zpc_if (fun _ => zpc_if (fun _ => zpc_bi (w_fX12_pair h) (fun σ47 v48 hσ47 => zpc_ck (zpc_bs (zKeM.wi hσ47 (by decide)) (fun σ49 hσ49 => zpc_ck (zpc_bi (w_fX12_port hσ49) (fun σ50 v51 hσ50 => zpc_ck (zpc_ck (zpc_bs (zKeM.wi hσ50 (by decide)) (fun σ52 hσ52 => zpc_bi (w_fX12_pair hσ52) (fun σ53 v54 hσ53 => zpc_bu (w_fX12_write hσ53) (fun σ55 hσ55 => zpc_bi (w_fX12_pair hσ55) (fun σ56 v57 hσ56 => zpc_bu (w_fX12_pairTo hσ56) (fun σ58 hσ58 => zpc_ck (zpc_bv (fun v59 _ => w_fX12_blocks_485 hσ58))))))))))))))) (fun _ => zpc_bi (w_fX12_pair h) (fun σ34 v35 hσ34 => zpc_bi (w_fX12_read hσ34) (fun σ36 v37 hσ36 => zpc_ck (zpc_ck (zpc_bs (zKeM.wi hσ36 (by decide)) (fun σ38 hσ38 => zpc_ck (zpc_bu (w_fX12_portTo hσ38) (fun σ39 hσ39 => zpc_bi (w_fX12_pair hσ39) (fun σ40 v41 hσ40 => zpc_bu (w_fX12_pairTo hσ40) (fun σ42 hσ42 => zpc_bi (w_fX12_pair hσ42) (fun σ43 v44 hσ43 => zpc_ck (zpc_bs (zKeM.wi hσ43 (by decide)) (fun σ45 hσ45 => zpc_ck (zpc_bv (fun v46 _ => w_fX12_blocks_485 hσ45)))))))))))))))) (fun _ => zpc_bi (w_fX12_pair h) (fun σ60 v61 hσ60 => zpc_bi (w_fX12_read hσ60) (fun σ62 v63 hσ62 => zpc_if (fun _ => zpc_bi (w_fX12_pair hσ62) (fun σ64 v65 hσ64 => zpc_bu (w_fX12_write hσ64) (fun σ66 hσ66 => w_fX12_blocks_44 hσ66))) (fun _ => w_fX12_blocks_44 hσ62))))
theorem w_fX12_blocks {σ0 : zSt} {σ : zSt} {x1 : Int32} {x2 : Int32} (h : zKeM σ0 σ) : zpc (fX12_blocks σ x1 x2) (fun r => zKeM σ0 (r.1)) := by
  unfold fX12_blocks
  exact zpc_ck (zpc_if (fun _ => w_fX12_blocks_11 h) (fun _ => w_fX12_blocks_11 h))
theorem w_fX12_specials_28 {σ0 : zSt} {σ : zSt} {s0 : Int32} (h : zKeM σ0 σ) : zpc (fX12_specials_28 σ s0) (fun r => zKeM σ0 (r.1)) := by
  unfold fX12_specials_28
  exact zpc_ck (zpc_ck (zpc_bs (zKeM.wi h (by decide)) (fun σ1 hσ1 => zpc_some hσ1)))
theorem w_fX12_specials_244 {σ0 : zSt} {σ : zSt} {s0 : Int32} (h : zKeM σ0 σ) : zpc (fX12_specials_244 σ s0) (fun r => zKeM σ0 (r.1)) := by
  unfold fX12_specials_244
  exact zpc_some h
theorem w_fX12_specials_220 {σ0 : zSt} {σ : zSt} {x1 : Int32} (h : zKeM σ0 σ) : zpc (fX12_specials_220 σ x1) (fun r => zKeM σ0 (r.1)) := by
  unfold fX12_specials_220
  exact zpc_bu (w_fX12_put h) (fun σ2 hσ2 => zpc_bu (w_fX12_put hσ2) (fun σ3 hσ3 => zpc_if (fun _ => w_fX12_specials_244 hσ3) (fun _ => w_fX12_specials_244 hσ3)))
theorem w_fX12_specials_94 {σ0 : zSt} {σ : zSt} {x1 : Int32} {s0 : Int32} {s1 : Int32} (h : zKeM σ0 σ) : zpc (fX12_specials_94 σ x1 s0 s1) (fun r => zKeM σ0 (r.1)) := by
  unfold fX12_specials_94
  exact zpc_bu (w_fX12_put h) (fun σ4 hσ4 => w_fX12_specials_220 hσ4)
theorem w_fX12_specials_64 {σ0 : zSt} {σ : zSt} {x1 : Int32} {s0 : Int32} {s2 : Int32} (h : zKeM σ0 σ) : zpc (fX12_specials_64 σ x1 s0 s2) (fun r => zKeM σ0 (r.1)) := by
  unfold fX12_specials_64
  exact zpc_ck (zpc_ck (zpc_bs (zKeM.wi h (by decide)) (fun σ5 hσ5 => zpc_ck (zpc_bu (w_fX12_by hσ5) (fun σ6 hσ6 => zpc_ck (zpc_if (fun _ => w_fX12_specials_94 hσ6) (fun _ => w_fX12_specials_94 hσ6)))))))
theorem w_fX12_specials_194 {σ0 : zSt} {σ : zSt} {x1 : Int32} {s0 : Int32} {s1 : Int32} {s2 : Int32} (h : zKeM σ0 σ) : zpc (fX12_specials_194 σ x1 s0 s1 s2) (fun r => zKeM σ0 (r.1)) := by
  unfold fX12_specials_194
  exact zpc_ck (zpc_bs (zKeM.wi h (by decide)) (fun σ7 hσ7 => zpc_ck (zpc_bu (w_fX12_by hσ7) (fun σ8 hσ8 => zpc_ck (zpc_bi (w_fX12_isEven hσ8) (fun σ9 v10 hσ9 => zpc_bu (w_fX12_put hσ9) (fun σ11 hσ11 => w_fX12_specials_220 hσ11)))))))
theorem w_fX12_specials_161 {σ0 : zSt} {σ : zSt} {x1 : Int32} {x3 : Int32} {s0 : Int32} {s1 : Int32} (h : zKeM σ0 σ) : zpc (fX12_specials_161 σ x1 x3 s0 s1) (fun r => zKeM σ0 (r.1)) := by
  unfold fX12_specials_161
  exact zpc_bu (w_fX12_write h) (fun σ12 hσ12 => zpc_ck (zpc_if (fun _ => w_fX12_specials_194 hσ12) (fun _ => w_fX12_specials_194 hσ12)))
theorem w_fX12_specials {σ0 : zSt} {σ : zSt} {x1 : Int32} (h : zKeM σ0 σ) : zpc (fX12_specials σ x1) (fun r => zKeM σ0 (r.1)) := by
  unfold fX12_specials
  exact zpc_if (fun _ => zpc_if (fun _ => zpc_if (fun _ => zpc_bi (w_fX12_pair h) (fun σ13 v14 hσ13 => zpc_ck (zpc_bs (zKeM.wi hσ13 (by decide)) (fun σ15 hσ15 => zpc_bi (w_fX12_read hσ15) (fun σ16 v17 hσ16 => zpc_ck (zpc_bv (fun v18 _ => zpc_if (fun _ => w_fX12_specials_161 hσ16) (fun _ => w_fX12_specials_161 hσ16)))))))) (fun _ => zpc_if (fun _ => w_fX12_specials_64 h) (fun _ => w_fX12_specials_64 h))) (fun _ => zpc_if (fun _ => w_fX12_specials_28 h) (fun _ => w_fX12_specials_28 h))) (fun _ => zpc_some h)
theorem w_fX12_words_255 {σ0 : zSt} {σ : zSt} {s0 : Int32} {s1 : Int32} (h : zKeM σ0 σ) : zpc (fX12_words_255 σ s0 s1) (fun r => zKeM σ0 (r)) := by
  unfold fX12_words_255
  exact zpc_bu (w_fX12_put h) (fun σ1 hσ1 => zpc_some hσ1)
theorem w_fX12_words_241 {σ0 : zSt} {σ : zSt} {x2 : Int32} {s0 : Int32} {s1 : Int32} (h : zKeM σ0 σ) : zpc (fX12_words_241 σ x2 s0 s1) (fun r => zKeM σ0 (r)) := by
  unfold fX12_words_241
  exact zpc_bu (w_fX12_put h) (fun σ2 hσ2 => zpc_if (fun _ => w_fX12_words_255 hσ2) (fun _ => w_fX12_words_255 hσ2))
theorem w_fX12_words_236 {σ0 : zSt} {σ : zSt} {x2 : Int32} {s0 : Int32} (h : zKeM σ0 σ) : zpc (fX12_words_236 σ x2 s0) (fun r => zKeM σ0 (r)) := by
  unfold fX12_words_236
  exact w_fX12_words_241 h
theorem w_fX12_words_215 {σ0 : zSt} {σ : zSt} {x2 : Int32} {x7 : Int32} {s0 : Int32} {s1 : Int32} (h : zKeM σ0 σ) : zpc (fX12_words_215 σ x2 x7 s0 s1) (fun r => zKeM σ0 (r)) := by
  unfold fX12_words_215
  exact zpc_bu (w_fX12_put h) (fun σ3 hσ3 => zpc_if (fun _ => w_fX12_words_236 hσ3) (fun _ => zpc_if (fun _ => w_fX12_words_241 hσ3) (fun _ => w_fX12_words_236 hσ3)))
theorem w_fX12_words_210 {σ0 : zSt} {σ : zSt} {x2 : Int32} {x7 : Int32} {s0 : Int32} (h : zKeM σ0 σ) : zpc (fX12_words_210 σ x2 x7 s0) (fun r => zKeM σ0 (r)) := by
  unfold fX12_words_210
  exact w_fX12_words_215 h
theorem w_fX12_words_193 {σ0 : zSt} {σ : zSt} {x2 : Int32} {x6 : Int32} {x7 : Int32} {s0 : Int32} {s1 : Int32} (h : zKeM σ0 σ) : zpc (fX12_words_193 σ x2 x6 x7 s0 s1) (fun r => zKeM σ0 (r)) := by
  unfold fX12_words_193
  exact zpc_bu (w_fX12_put h) (fun σ4 hσ4 => zpc_if (fun _ => w_fX12_words_210 hσ4) (fun _ => zpc_if (fun _ => w_fX12_words_215 hσ4) (fun _ => w_fX12_words_210 hσ4)))
theorem w_fX12_words_123 {σ0 : zSt} {σ : zSt} {x2 : Int32} {x3 : Int32} {x4 : Int32} {x5 : Int32} {x6 : Int32} {x7 : Int32} {s0 : Int32} {s1 : Int32} (h : zKeM σ0 σ) : zpc (fX12_words_123 σ x2 x3 x4 x5 x6 x7 s0 s1) (fun r => zKeM σ0 (r)) := by
  unfold fX12_words_123
  exact zpc_bu (w_fX12_put h) (fun σ5 hσ5 => zpc_bu (w_fX12_xy hσ5) (fun σ6 hσ6 => zpc_if (fun _ => zpc_if (fun _ => w_fX12_words_193 hσ6) (fun _ => w_fX12_words_193 hσ6)) (fun _ => zpc_if (fun _ => w_fX12_words_193 hσ6) (fun _ => w_fX12_words_193 hσ6))))
theorem w_fX12_words_104 {σ0 : zSt} {σ : zSt} {x2 : Int32} {x3 : Int32} {x4 : Int32} {x5 : Int32} {x6 : Int32} {x7 : Int32} {s0 : Int32} {s1 : Int32} (h : zKeM σ0 σ) : zpc (fX12_words_104 σ x2 x3 x4 x5 x6 x7 s0 s1) (fun r => zKeM σ0 (r)) := by
  unfold fX12_words_104
  exact zpc_bu (w_fX12_put h) (fun σ7 hσ7 => zpc_if (fun _ => w_fX12_words_123 hσ7) (fun _ => w_fX12_words_123 hσ7))
theorem w_fX12_words_80 {σ0 : zSt} {σ : zSt} {x2 : Int32} {x3 : Int32} {x4 : Int32} {x5 : Int32} {x6 : Int32} {s0 : Int32} (h : zKeM σ0 σ) : zpc (fX12_words_80 σ x2 x3 x4 x5 x6 s0) (fun r => zKeM σ0 (r)) := by
  unfold fX12_words_80
  exact zpc_bu (w_fX12_hlTo h) (fun σ8 hσ8 => zpc_if (fun _ => w_fX12_words_104 hσ8) (fun _ => w_fX12_words_104 hσ8))
theorem w_fX12_words_53 {σ0 : zSt} {σ : zSt} {x2 : Int32} {x3 : Int32} {x4 : Int32} {x5 : Int32} {s0 : Int32} (h : zKeM σ0 σ) : zpc (fX12_words_53 σ x2 x3 x4 x5 s0) (fun r => zKeM σ0 (r)) := by
  unfold fX12_words_53
  exact zpc_if (fun _ => w_fX12_words_80 h) (fun _ => w_fX12_words_80 h)
theorem w_fX12_words {σ0 : zSt} {σ : zSt} {x1 : Int32} {x2 : Int32} (h : zKeM σ0 σ) : zpc (fX12_words σ x1 x2) (fun r => zKeM σ0 (r)) := by
  unfold fX12_words
  exact zpc_bi (w_fX12_hl h) (fun σ9 v10 hσ9 => zpc_bi (w_fX12_rp hσ9) (fun σ11 v12 hσ11 => zpc_bi (w_fX12_flag hσ11) (fun σ13 v14 hσ13 => zpc_ck (zpc_bs (zKeM.wi hσ13 (by decide)) (fun σ15 hσ15 => zpc_if (fun _ => w_fX12_words_53 hσ15) (fun _ => w_fX12_words_53 hσ15))))))
theorem w_fX12_more_387 {σ0 : zSt} {σ : zSt} {s0 : Int32} {s1 : Int32} (h : zKeM σ0 σ) : zpc (fX12_more_387 σ s0 s1) (fun r => zKeM σ0 (r.1)) := by
  unfold fX12_more_387
  exact zpc_ck (zpc_bs (zKeM.wi h (by decide)) (fun σ1 hσ1 => zpc_some hσ1))
theorem w_fX12_more_281 {σ0 : zSt} {σ : zSt} {x7 : Int32} (h : zKeM σ0 σ) : zpc (fX12_more_281 σ x7) (fun r => zKeM σ0 (r.1)) := by
  unfold fX12_more_281
  exact zpc_ck (zpc_bs (zKeM.wi h (by decide)) (fun σ2 hσ2 => zpc_some hσ2))
theorem w_fX12_more_234 {σ0 : zSt} {σ : zSt} {s0 : Int32} {s1 : Int32} (h : zKeM σ0 σ) : zpc (fX12_more_234 σ s0 s1) (fun r => zKeM σ0 (r.1)) := by
  unfold fX12_more_234
  exact zpc_bu (w_fX12_words h) (fun σ3 hσ3 => zpc_some hσ3)
theorem w_fX12_more_195 {σ0 : zSt} {σ : zSt} {s0 : Int32} {s1 : Int32} (h : zKeM σ0 σ) : zpc (fX12_more_195 σ s0 s1) (fun r => zKeM σ0 (r.1)) := by
  unfold fX12_more_195
  exact zpc_bu (w_fX12_portTo h) (fun σ4 hσ4 => zpc_bi (w_fX12_pair hσ4) (fun σ5 v6 hσ5 => zpc_ck (zpc_bs (zKeM.wi hσ5 (by decide)) (fun σ7 hσ7 => zpc_some hσ7))))
theorem w_fX12_more_133 {σ0 : zSt} {σ : zSt} {x5 : Int32} {x6 : Int32} (h : zKeM σ0 σ) : zpc (fX12_more_133 σ x5 x6) (fun r => zKeM σ0 (r.1)) := by
  unfold fX12_more_133
  exact zpc_bu (w_fX12_by h) (fun σ8 hσ8 => zpc_bi (w_fX12_isEven hσ8) (fun σ9 v10 hσ9 => zpc_bu (w_fX12_put hσ9) (fun σ11 hσ11 => zpc_bu (w_fX12_put hσ11) (fun σ12 hσ12 => zpc_bu (w_fX12_put hσ12) (fun σ13 hσ13 => zpc_ck (zpc_bs (zKeM.wi hσ13 (by decide)) (fun σ14 hσ14 => zpc_some hσ14)))))))
theorem w_fX12_more_42 {σ0 : zSt} {σ : zSt} {x2 : Int32} {x3 : Int32} {x4 : Int32} (h : zKeM σ0 σ) : zpc (fX12_more_42 σ x2 x3 x4) (fun r => zKeM σ0 (r.1)) := by
  unfold fX12_more_42
  exact zpc_if (fun _ => zpc_if (fun _ => zpc_bi (w_fX12_pair h) (fun σ15 v16 hσ15 => zpc_bv (fun v17 _ => zpc_ck (zpc_bi (w_fX12_port hσ15) (fun σ18 v19 hσ18 => zpc_if (fun _ => w_fX12_more_133 hσ18) (fun _ => zpc_bu (w_fX12_rTo hσ18) (fun σ20 hσ20 => w_fX12_more_133 hσ20))))))) (fun _ => zpc_if (fun _ => zpc_ck (zpc_if (fun _ => w_fX12_more_195 h) (fun _ => zpc_bi (w_fX12_r h) (fun σ21 v22 hσ21 => w_fX12_more_195 hσ21)))) (fun _ => zpc_if (fun _ => zpc_ck (zpc_if (fun _ => w_fX12_more_234 h) (fun _ => w_fX12_more_234 h))) (fun _ => zpc_if (fun _ => zpc_bi (w_fX12_nextWord h) (fun σ23 v24 hσ23 => zpc_ck (zpc_if (fun _ => zpc_bi (w_fX12_rp hσ23) (fun σ28 v29 hσ28 => zpc_bu (w_fX12_wordTo hσ28) (fun σ30 hσ30 => w_fX12_more_281 hσ30))) (fun _ => zpc_bi (w_fX12_word hσ23) (fun σ25 v26 hσ25 => zpc_bu (w_fX12_rpTo hσ25) (fun σ27 hσ27 => w_fX12_more_281 hσ27)))))) (fun _ => zpc_if (fun _ => zpc_ck (zpc_bv (fun v31 _ => zpc_ck (zpc_bs (zKeM.wi h (by decide)) (fun σ32 hσ32 => zpc_bu (w_fX12_does hσ32) (fun σ33 hσ33 => zpc_some hσ33)))))) (fun _ => zpc_if (fun _ => zpc_bi (w_fX12_pop h) (fun σ34 v35 hσ34 => zpc_ck (zpc_bs (zKeM.wi hσ34 (by decide)) (fun σ36 hσ36 => zpc_ck (zpc_ck (zpc_bs (zKeM.wi hσ36 (by decide)) (fun σ37 hσ37 => zpc_ck (zpc_ck (zpc_bs (zKeM.wi hσ37 (by decide)) (fun σ38 hσ38 => zpc_some hσ38)))))))))) (fun _ => zpc_if (fun _ => zpc_ck (zpc_if (fun _ => zpc_ck (w_fX12_more_387 h)) (fun _ => w_fX12_more_387 h))) (fun _ => zpc_bi (w_fX12_specials h) (fun σ39 v40 hσ39 => zpc_some hσ39))))))))) (fun _ => zpc_some h)
theorem w_fX12_more {σ0 : zSt} {σ : zSt} {x1 : Int32} (h : zKeM σ0 σ) : zpc (fX12_more σ x1) (fun r => zKeM σ0 (r.1)) := by
  unfold fX12_more
  exact zpc_bv (fun v41 _ => zpc_bv (fun v42 _ => zpc_bv (fun v43 _ => zpc_if (fun _ => zpc_if (fun _ => w_fX12_more_42 h) (fun _ => zpc_if (fun _ => w_fX12_more_42 h) (fun _ => zpc_bi (w_fX12_blocks h) (fun σ44 v45 hσ44 => zpc_some hσ44)))) (fun _ => w_fX12_more_42 h))))
theorem w_fX12_prefixed_r1_33 {σ0 : zSt} {σ : zSt} (h : zKeM σ0 σ) : zpc (fX12_prefixed_r1_33 σ) (fun r => zKeM σ0 (r.1)) := by
  unfold fX12_prefixed_r1_33
  exact zpc_ck (zpc_bs (zKeM.wi h (by decide)) (fun σ1 hσ1 => zpc_some hσ1))
theorem w_fX12_prefixed_r1_154 {σ0 : zSt} {σ : zSt} {s0 : Int32} (h : zKeM σ0 σ) : zpc (fX12_prefixed_r1_154 σ s0) (fun r => zKeM σ0 (r.1)) := by
  unfold fX12_prefixed_r1_154
  exact zpc_some h
theorem w_fX12_prefixed_r1_135 {σ0 : zSt} {σ : zSt} {x4 : Int32} {x5 : Int32} (h : zKeM σ0 σ) : zpc (fX12_prefixed_r1_135 σ x4 x5) (fun r => zKeM σ0 (r.1)) := by
  unfold fX12_prefixed_r1_135
  exact zpc_if (fun _ => w_fX12_prefixed_r1_154 h) (fun _ => w_fX12_prefixed_r1_154 h)
theorem w_fX12_prefixed_r1_244 {σ0 : zSt} {σ : zSt} {x1 : Int32} {x3 : Int32} {s0 : Int32} (h : zKeM σ0 σ) : zpc (fX12_prefixed_r1_244 σ x1 x3 s0) (fun r => zKeM σ0 (r.1)) := by
  unfold fX12_prefixed_r1_244
  exact zpc_if (fun _ => zpc_bs (zKeM.w0 h (by decide)) (fun σ8 hσ8 => zpc_none)) (fun _ => zpc_ck (zpc_bi (w_fX12_next h) (fun σ2 v3 hσ2 => zpc_bi (w_fX12_signed hσ2) (fun σ4 v5 hσ4 => zpc_ck (zpc_bs (zKeM.wi hσ4 (by decide)) (fun σ6 hσ6 => zpc_ck (zpc_bs (zKeM.w0 hσ6 (by decide)) (fun σ7 hσ7 => zpc_none))))))))
theorem w_fX12_prefixed_r1_243 {σ0 : zSt} {σ : zSt} {x1 : Int32} {x3 : Int32} (h : zKeM σ0 σ) : zpc (fX12_prefixed_r1_243 σ x1 x3) (fun r => zKeM σ0 (r.1)) := by
  unfold fX12_prefixed_r1_243
  exact w_fX12_prefixed_r1_244 h
theorem w_fX12_prefixed_r1_239 {σ0 : zSt} {σ : zSt} {x1 : Int32} {x3 : Int32} (h : zKeM σ0 σ) : zpc (fX12_prefixed_r1_239 σ x1 x3) (fun r => zKeM σ0 (r.1)) := by
  unfold fX12_prefixed_r1_239
  exact w_fX12_prefixed_r1_244 h
theorem w_fX12_prefixed_r1_226 {σ0 : zSt} {σ : zSt} {x1 : Int32} {x3 : Int32} {x5 : Int32} {x6 : Int32} (h : zKeM σ0 σ) : zpc (fX12_prefixed_r1_226 σ x1 x3 x5 x6) (fun r => zKeM σ0 (r.1)) := by
  unfold fX12_prefixed_r1_226
  exact zpc_if (fun _ => zpc_if (fun _ => w_fX12_prefixed_r1_239 h) (fun _ => w_fX12_prefixed_r1_243 h)) (fun _ => w_fX12_prefixed_r1_243 h)
theorem w_fX12_prefixed_r1_220 {σ0 : zSt} {σ : zSt} {x1 : Int32} {x3 : Int32} {x5 : Int32} {x6 : Int32} (h : zKeM σ0 σ) : zpc (fX12_prefixed_r1_220 σ x1 x3 x5 x6) (fun r => zKeM σ0 (r.1)) := by
  unfold fX12_prefixed_r1_220
  exact zpc_if (fun _ => w_fX12_prefixed_r1_226 h) (fun _ => w_fX12_prefixed_r1_239 h)
theorem w_fX12_prefixed_r1_200 {σ0 : zSt} {σ : zSt} {x1 : Int32} {x3 : Int32} {x4 : Int32} {x5 : Int32} {x6 : Int32} (h : zKeM σ0 σ) : zpc (fX12_prefixed_r1_200 σ x1 x3 x4 x5 x6) (fun r => zKeM σ0 (r.1)) := by
  unfold fX12_prefixed_r1_200
  exact zpc_if (fun _ => zpc_if (fun _ => w_fX12_prefixed_r1_220 h) (fun _ => zpc_if (fun _ => w_fX12_prefixed_r1_220 h) (fun _ => w_fX12_prefixed_r1_226 h))) (fun _ => w_fX12_prefixed_r1_226 h)
theorem w_fX12_prefixed_r1 {σ0 : zSt} {σ : zSt} {x1 : Int32} (h : zKeM σ0 σ) : zpc (fX12_prefixed_r1 σ x1) (fun r => zKeM σ0 (r.1)) := by
  unfold fX12_prefixed_r1
  exact zpc_ck (zpc_bi (w_fX12_read h) (fun σ9 v10 hσ9 => zpc_if (fun _ => w_fX12_prefixed_r1_33 hσ9) (fun _ => zpc_if (fun _ => w_fX12_prefixed_r1_33 hσ9) (fun _ => zpc_if (fun _ => w_fX12_prefixed_r1_33 hσ9) (fun _ => zpc_bi (w_fX12_fetch hσ9) (fun σ11 v12 hσ11 => zpc_if (fun _ => zpc_ck (zpc_bi (w_fX12_next hσ11) (fun σ16 v17 hσ16 => zpc_bi (w_fX12_signed hσ16) (fun σ18 v19 hσ18 => zpc_ck (zpc_bs (zKeM.wi hσ18 (by decide)) (fun σ20 hσ20 => zpc_ck (zpc_bs (zKeM.w0 hσ20 (by decide)) (fun σ21 hσ21 => zpc_bi (w_fX12_next hσ21) (fun σ22 v23 hσ22 => zpc_bi (w_fX12_turn hσ22) (fun σ24 v25 hσ24 => zpc_if (fun _ => w_fX12_prefixed_r1_135 hσ24) (fun _ => zpc_if (fun _ => w_fX12_prefixed_r1_135 hσ24) (fun _ => zpc_ck (zpc_bs (zKeM.w0 hσ24 (by decide)) (fun σ26 hσ26 => zpc_bu (w_fX12_rTo hσ26) (fun σ27 hσ27 => w_fX12_prefixed_r1_135 hσ27))))))))))))))) (fun _ => zpc_bv (fun v13 _ => zpc_bv (fun v14 _ => zpc_bv (fun v15 _ => zpc_if (fun _ => zpc_if (fun _ => w_fX12_prefixed_r1_200 hσ11) (fun _ => zpc_if (fun _ => w_fX12_prefixed_r1_200 hσ11) (fun _ => zpc_if (fun _ => w_fX12_prefixed_r1_239 hσ11) (fun _ => w_fX12_prefixed_r1_200 hσ11)))) (fun _ => w_fX12_prefixed_r1_200 hσ11)))))))))))
theorem w_fX12_more3_r1_119 {σ0 : zSt} {σ : zSt} {s0 : Int32} (h : zKeM σ0 σ) : zpc (fX12_more3_r1_119 σ s0) (fun r => zKeM σ0 (r.1)) := by
  unfold fX12_more3_r1_119
  exact zpc_bu (w_fX12_push h) (fun σ1 hσ1 => zpc_some hσ1)
theorem w_fX12_more3_r1_200 {σ0 : zSt} {σ : zSt} {s0 : Int32} (h : zKeM σ0 σ) : zpc (fX12_more3_r1_200 σ s0) (fun r => zKeM σ0 (r.1)) := by
  unfold fX12_more3_r1_200
  exact zpc_some h
theorem w_fX12_more3_r1_197 {σ0 : zSt} {σ : zSt} {s0 : Int32} (h : zKeM σ0 σ) : zpc (fX12_more3_r1_197 σ s0) (fun r => zKeM σ0 (r.1)) := by
  unfold fX12_more3_r1_197
  exact zpc_bi (w_fX12_prefixed_r1 h) (fun σ2 v3 hσ2 => w_fX12_more3_r1_200 hσ2)
theorem w_fX12_more3_r1 {σ0 : zSt} {σ : zSt} {x1 : Int32} {x2 : Int32} (h : zKeM σ0 σ) : zpc (fX12_more3_r1 σ x1 x2) (fun r => zKeM σ0 (r.1)) := by
  unfold fX12_more3_r1
  exact zpc_bv (fun v4 _ => zpc_if (fun _ => zpc_bi (w_fX12_nextWord h) (fun σ22 v23 hσ22 => zpc_ck (zpc_bs (zKeM.wi hσ22 (by decide)) (fun σ24 hσ24 => zpc_bi (w_fX12_cc hσ24) (fun σ25 v26 hσ25 => zpc_if (fun _ => zpc_some hσ25) (fun _ => zpc_ck (zpc_bu (w_fX12_push hσ25) (fun σ27 hσ27 => zpc_ck (zpc_ck (zpc_bs (zKeM.wi hσ27 (by decide)) (fun σ28 hσ28 => zpc_some hσ28))))))))))) (fun _ => zpc_if (fun _ => zpc_bi (w_fX12_next h) (fun σ19 v20 hσ19 => zpc_bu (w_fX12_does hσ19) (fun σ21 hσ21 => zpc_some hσ21))) (fun _ => zpc_if (fun _ => zpc_bu (w_fX12_call h) (fun σ18 hσ18 => zpc_some hσ18)) (fun _ => zpc_ck (zpc_if (fun _ => zpc_if (fun _ => zpc_bi (w_fX12_pair h) (fun σ16 v17 hσ16 => w_fX12_more3_r1_119 hσ16)) (fun _ => zpc_bi (w_fX12_rp h) (fun σ14 v15 hσ14 => w_fX12_more3_r1_119 hσ14))) (fun _ => zpc_if (fun _ => zpc_bi (w_fX12_nextWord h) (fun σ9 v10 hσ9 => zpc_ck (zpc_bs (zKeM.wi hσ9 (by decide)) (fun σ11 hσ11 => zpc_ck (zpc_bu (w_fX12_push hσ11) (fun σ12 hσ12 => zpc_ck (zpc_ck (zpc_bs (zKeM.wi hσ12 (by decide)) (fun σ13 hσ13 => zpc_some hσ13))))))))) (fun _ => zpc_if (fun _ => zpc_bi (w_fX12_fetch h) (fun σ5 v6 hσ5 => zpc_bi (w_fX12_more hσ5) (fun σ7 v8 hσ7 => w_fX12_more3_r1_200 hσ7))) (fun _ => zpc_if (fun _ => w_fX12_more3_r1_197 h) (fun _ => w_fX12_more3_r1_197 h)))))))))
theorem w_fX12_jump {σ0 : zSt} {σ : zSt} {x1 : Int32} (h : zKeM σ0 σ) : zpc (fX12_jump σ x1) (fun r => zKeM σ0 (r)) := by
  unfold fX12_jump
  exact zpc_ck (zpc_ck (zpc_bs (zKeM.wi h (by decide)) (fun σ1 hσ1 => zpc_ck (zpc_ck (zpc_bs (zKeM.wi hσ1 (by decide)) (fun σ2 hσ2 => zpc_some hσ2))))))
theorem w_fX12_moves_85 {σ0 : zSt} {σ : zSt} (h : zKeM σ0 σ) : zpc (fX12_moves_85 σ) (fun r => zKeM σ0 (r.1)) := by
  unfold fX12_moves_85
  exact zpc_some h
theorem w_fX12_moves_15 {σ0 : zSt} {σ : zSt} {x2 : Int32} {s0 : Int32} (h : zKeM σ0 σ) : zpc (fX12_moves_15 σ x2 s0) (fun r => zKeM σ0 (r.1)) := by
  unfold fX12_moves_15
  exact zpc_bi (w_fX12_pair h) (fun σ1 v2 hσ1 => zpc_if (fun _ => zpc_ck (zpc_bu (w_fX12_write hσ1) (fun σ3 hσ3 => zpc_ck (zpc_ck (zpc_bs (zKeM.wi hσ3 (by decide)) (fun σ4 hσ4 => w_fX12_moves_85 hσ4)))))) (fun _ => zpc_bi (w_fX12_read hσ1) (fun σ5 v6 hσ5 => zpc_ck (zpc_bs (zKeM.wi hσ5 (by decide)) (fun σ7 hσ7 => zpc_ck (zpc_bs (zKeM.wi hσ7 (by decide)) (fun σ8 hσ8 => w_fX12_moves_85 hσ8)))))))
theorem w_fX12_moves_214 {σ0 : zSt} {σ : zSt} {s0 : Int32} (h : zKeM σ0 σ) : zpc (fX12_moves_214 σ s0) (fun r => zKeM σ0 (r.1)) := by
  unfold fX12_moves_214
  exact zpc_some h
theorem w_fX12_moves_201 {σ0 : zSt} {σ : zSt} {x1 : Int32} {s0 : Int32} {s1 : Int32} (h : zKeM σ0 σ) : zpc (fX12_moves_201 σ x1 s0 s1) (fun r => zKeM σ0 (r.1)) := by
  unfold fX12_moves_201
  exact zpc_ck (zpc_bs (zKeM.wi h (by decide)) (fun σ9 hσ9 => zpc_if (fun _ => w_fX12_moves_214 hσ9) (fun _ => w_fX12_moves_214 hσ9)))
theorem w_fX12_moves_195 {σ0 : zSt} {σ : zSt} {x1 : Int32} {x3 : Int32} {s0 : Int32} (h : zKeM σ0 σ) : zpc (fX12_moves_195 σ x1 x3 s0) (fun r => zKeM σ0 (r.1)) := by
  unfold fX12_moves_195
  exact w_fX12_moves_201 h
theorem w_fX12_moves_160 {σ0 : zSt} {σ : zSt} {x1 : Int32} {x2 : Int32} {x3 : Int32} (h : zKeM σ0 σ) : zpc (fX12_moves_160 σ x1 x2 x3) (fun r => zKeM σ0 (r.1)) := by
  unfold fX12_moves_160
  exact zpc_if (fun _ => zpc_if (fun _ => zpc_ck (w_fX12_moves_201 h)) (fun _ => w_fX12_moves_195 h)) (fun _ => w_fX12_moves_195 h)
theorem w_fX12_moves_114 {σ0 : zSt} {σ : zSt} {x1 : Int32} {x2 : Int32} {x3 : Int32} (h : zKeM σ0 σ) : zpc (fX12_moves_114 σ x1 x2 x3) (fun r => zKeM σ0 (r.1)) := by
  unfold fX12_moves_114
  exact zpc_if (fun _ => zpc_bi (w_fX12_hl h) (fun σ14 v15 hσ14 => zpc_bu (w_fX12_wordTo hσ14) (fun σ16 hσ16 => w_fX12_moves_160 hσ16))) (fun _ => zpc_if (fun _ => zpc_ck (zpc_bu (w_fX12_write h) (fun σ10 hσ10 => w_fX12_moves_160 hσ10))) (fun _ => zpc_bi (w_fX12_read h) (fun σ11 v12 hσ11 => zpc_ck (zpc_bs (zKeM.wi hσ11 (by decide)) (fun σ13 hσ13 => w_fX12_moves_160 hσ13)))))
theorem w_fX12_moves {σ0 : zSt} {σ : zSt} {x1 : Int32} {x2 : Int32} (h : zKeM σ0 σ) : zpc (fX12_moves σ x1 x2) (fun r => zKeM σ0 (r.1)) := by
  unfold fX12_moves
  exact zpc_if (fun _ => zpc_bi (w_fX12_nextWord h) (fun σ17 v18 hσ17 => zpc_if (fun _ => zpc_if (fun _ => w_fX12_moves_114 hσ17) (fun _ => zpc_bi (w_fX12_word hσ17) (fun σ19 v20 hσ19 => zpc_bu (w_fX12_hlTo hσ19) (fun σ21 hσ21 => w_fX12_moves_160 hσ21)))) (fun _ => w_fX12_moves_114 hσ17))) (fun _ => zpc_if (fun _ => w_fX12_moves_15 h) (fun _ => w_fX12_moves_15 h))
theorem w_fX12_zero_154 {σ0 : zSt} {σ : zSt} {s0 : Int32} (h : zKeM σ0 σ) : zpc (fX12_zero_154 σ s0) (fun r => zKeM σ0 (r.1)) := by
  unfold fX12_zero_154
  exact zpc_some h
theorem w_fX12_zero_122 {σ0 : zSt} {σ : zSt} {x1 : Int32} {x5 : Int32} (h : zKeM σ0 σ) : zpc (fX12_zero_122 σ x1 x5) (fun r => zKeM σ0 (r.1)) := by
  unfold fX12_zero_122
  exact zpc_if (fun _ => zpc_if (fun _ => w_fX12_zero_154 h) (fun _ => w_fX12_zero_154 h)) (fun _ => zpc_if (fun _ => w_fX12_zero_154 h) (fun _ => w_fX12_zero_154 h))
theorem w_fX12_zero_109 {σ0 : zSt} {σ : zSt} {x1 : Int32} {x4 : Int32} {s0 : Int32} (h : zKeM σ0 σ) : zpc (fX12_zero_109 σ x1 x4 s0) (fun r => zKeM σ0 (r.1)) := by
  unfold fX12_zero_109
  exact zpc_if (fun _ => w_fX12_zero_122 h) (fun _ => zpc_bu (w_fX12_jump h) (fun σ1 hσ1 => w_fX12_zero_122 hσ1))
theorem w_fX12_zero_104 {σ0 : zSt} {σ : zSt} {x1 : Int32} {x4 : Int32} (h : zKeM σ0 σ) : zpc (fX12_zero_104 σ x1 x4) (fun r => zKeM σ0 (r.1)) := by
  unfold fX12_zero_104
  exact w_fX12_zero_109 h
theorem w_fX12_zero_67 {σ0 : zSt} {σ : zSt} {x1 : Int32} {x4 : Int32} (h : zKeM σ0 σ) : zpc (fX12_zero_67 σ x1 x4) (fun r => zKeM σ0 (r.1)) := by
  unfold fX12_zero_67
  exact zpc_if (fun _ => zpc_ck (zpc_if (fun _ => w_fX12_zero_109 h) (fun _ => w_fX12_zero_109 h))) (fun _ => zpc_if (fun _ => w_fX12_zero_104 h) (fun _ => zpc_bi (w_fX12_cc h) (fun σ2 v3 hσ2 => zpc_if (fun _ => w_fX12_zero_109 hσ2) (fun _ => w_fX12_zero_104 hσ2))))
theorem w_fX12_zero_266 {σ0 : zSt} {σ : zSt} {x6 : Int32} {s0 : Int32} {s1 : Int32} (h : zKeM σ0 σ) : zpc (fX12_zero_266 σ x6 s0 s1) (fun r => zKeM σ0 (r.1)) := by
  unfold fX12_zero_266
  exact zpc_bu (w_fX12_put h) (fun σ4 hσ4 => zpc_bu (w_fX12_put hσ4) (fun σ5 hσ5 => zpc_bu (w_fX12_xy hσ5) (fun σ6 hσ6 => zpc_some hσ6)))
theorem w_fX12_zero_249 {σ0 : zSt} {σ : zSt} {x6 : Int32} {s0 : Int32} {s1 : Int32} (h : zKeM σ0 σ) : zpc (fX12_zero_249 σ x6 s0 s1) (fun r => zKeM σ0 (r.1)) := by
  unfold fX12_zero_249
  exact zpc_bu (w_fX12_put h) (fun σ7 hσ7 => zpc_if (fun _ => w_fX12_zero_266 hσ7) (fun _ => w_fX12_zero_266 hσ7))
theorem w_fX12_zero_306 {σ0 : zSt} {σ : zSt} {s0 : Int32} {s1 : Int32} (h : zKeM σ0 σ) : zpc (fX12_zero_306 σ s0 s1) (fun r => zKeM σ0 (r.1)) := by
  unfold fX12_zero_306
  exact zpc_bi (w_fX12_moves h) (fun σ8 v9 hσ8 => zpc_some hσ8)
theorem w_fX12_zero_328 {σ0 : zSt} {σ : zSt} {s0 : Int32} {s1 : Int32} {s2 : Int32} (h : zKeM σ0 σ) : zpc (fX12_zero_328 σ s0 s1 s2) (fun r => zKeM σ0 (r.1)) := by
  unfold fX12_zero_328
  exact zpc_bu (w_fX12_rpTo h) (fun σ10 hσ10 => zpc_some hσ10)
theorem w_fX12_zero_178 {σ0 : zSt} {σ : zSt} {x1 : Int32} {x2 : Int32} {x3 : Int32} (h : zKeM σ0 σ) : zpc (fX12_zero_178 σ x1 x2 x3) (fun r => zKeM σ0 (r.1)) := by
  unfold fX12_zero_178
  exact zpc_if (fun _ => zpc_bi (w_fX12_hl h) (fun σ13 v14 hσ13 => zpc_bi (w_fX12_rp hσ13) (fun σ15 v16 hσ15 => zpc_ck (zpc_bs (zKeM.wi hσ15 (by decide)) (fun σ17 hσ17 => zpc_bv (fun v18 _ => zpc_bu (w_fX12_hlTo hσ17) (fun σ19 hσ19 => zpc_if (fun _ => w_fX12_zero_249 hσ19) (fun _ => w_fX12_zero_249 hσ19)))))))) (fun _ => zpc_if (fun _ => zpc_ck (zpc_if (fun _ => w_fX12_zero_306 h) (fun _ => w_fX12_zero_306 h))) (fun _ => zpc_bi (w_fX12_rp h) (fun σ11 v12 hσ11 => zpc_ck (zpc_if (fun _ => w_fX12_zero_328 hσ11) (fun _ => w_fX12_zero_328 hσ11)))))
theorem w_fX12_zero {σ0 : zSt} {σ : zSt} {x1 : Int32} {x2 : Int32} (h : zKeM σ0 σ) : zpc (fX12_zero σ x1 x2) (fun r => zKeM σ0 (r.1)) := by
  unfold fX12_zero
  exact zpc_bv (fun v20 _ => zpc_if (fun _ => zpc_if (fun _ => zpc_some h) (fun _ => zpc_if (fun _ => zpc_bu (w_fX12_change h) (fun σ29 hσ29 => zpc_bu (w_fX12_change hσ29) (fun σ30 hσ30 => zpc_some hσ30))) (fun _ => zpc_bi (w_fX12_next h) (fun σ24 v25 hσ24 => zpc_bi (w_fX12_signed hσ24) (fun σ26 v27 hσ26 => zpc_if (fun _ => zpc_ck (zpc_ck (zpc_bs (zKeM.wi hσ26 (by decide)) (fun σ28 hσ28 => w_fX12_zero_67 hσ28)))) (fun _ => w_fX12_zero_67 hσ26)))))) (fun _ => zpc_if (fun _ => zpc_ck (zpc_if (fun _ => zpc_bi (w_fX12_nextWord h) (fun σ21 v22 hσ21 => zpc_bu (w_fX12_rpTo hσ21) (fun σ23 hσ23 => zpc_some hσ23))) (fun _ => w_fX12_zero_178 h))) (fun _ => w_fX12_zero_178 h)))
theorem w_fX12_adjusts_130 {σ0 : zSt} {σ : zSt} {s0 : Int32} {s1 : Int32} (h : zKeM σ0 σ) : zpc (fX12_adjusts_130 σ s0 s1) (fun r => zKeM σ0 (r)) := by
  unfold fX12_adjusts_130
  exact zpc_ck (zpc_bs (zKeM.wi h (by decide)) (fun σ1 hσ1 => zpc_ck (zpc_bu (w_fX12_by hσ1) (fun σ2 hσ2 => zpc_ck (zpc_bi (w_fX12_isEven hσ2) (fun σ3 v4 hσ3 => zpc_bu (w_fX12_put hσ3) (fun σ5 hσ5 => zpc_some hσ5)))))))
theorem w_fX12_adjusts_105 {σ0 : zSt} {σ : zSt} {x1 : Int32} {x2 : Int32} {s0 : Int32} {s1 : Int32} (h : zKeM σ0 σ) : zpc (fX12_adjusts_105 σ x1 x2 s0 s1) (fun r => zKeM σ0 (r)) := by
  unfold fX12_adjusts_105
  exact zpc_bu (w_fX12_put h) (fun σ6 hσ6 => zpc_bi (w_fX12_flag hσ6) (fun σ7 v8 hσ7 => zpc_if (fun _ => w_fX12_adjusts_130 hσ7) (fun _ => w_fX12_adjusts_130 hσ7)))
theorem w_fX12_adjusts_104 {σ0 : zSt} {σ : zSt} {x1 : Int32} {x2 : Int32} {s0 : Int32} (h : zKeM σ0 σ) : zpc (fX12_adjusts_104 σ x1 x2 s0) (fun r => zKeM σ0 (r)) := by
  unfold fX12_adjusts_104
  exact w_fX12_adjusts_105 h
theorem w_fX12_adjusts_55 {σ0 : zSt} {σ : zSt} {x1 : Int32} {x2 : Int32} (h : zKeM σ0 σ) : zpc (fX12_adjusts_55 σ x1 x2) (fun r => zKeM σ0 (r)) := by
  unfold fX12_adjusts_55
  exact zpc_bi (w_fX12_flag h) (fun σ9 v10 hσ9 => zpc_if (fun _ => zpc_if (fun _ => w_fX12_adjusts_105 hσ9) (fun _ => w_fX12_adjusts_105 hσ9)) (fun _ => zpc_bi (w_fX12_flag hσ9) (fun σ11 v12 hσ11 => zpc_if (fun _ => zpc_if (fun _ => w_fX12_adjusts_104 hσ11) (fun _ => w_fX12_adjusts_105 hσ11)) (fun _ => w_fX12_adjusts_104 hσ11))))
theorem w_fX12_adjusts_46 {σ0 : zSt} {σ : zSt} {x1 : Int32} {x2 : Int32} (h : zKeM σ0 σ) : zpc (fX12_adjusts_46 σ x1 x2) (fun r => zKeM σ0 (r)) := by
  unfold fX12_adjusts_46
  exact zpc_bv (fun v13 _ => zpc_bu (w_fX12_put h) (fun σ14 hσ14 => w_fX12_adjusts_55 hσ14))
theorem w_fX12_adjusts_30 {σ0 : zSt} {σ : zSt} {x1 : Int32} {x2 : Int32} (h : zKeM σ0 σ) : zpc (fX12_adjusts_30 σ x1 x2) (fun r => zKeM σ0 (r)) := by
  unfold fX12_adjusts_30
  exact zpc_if (fun _ => w_fX12_adjusts_46 h) (fun _ => zpc_bi (w_fX12_flag h) (fun σ15 v16 hσ15 => zpc_if (fun _ => w_fX12_adjusts_46 hσ15) (fun _ => w_fX12_adjusts_55 hσ15)))
theorem w_fX12_adjusts_27 {σ0 : zSt} {σ : zSt} {x1 : Int32} {x2 : Int32} (h : zKeM σ0 σ) : zpc (fX12_adjusts_27 σ x1 x2) (fun r => zKeM σ0 (r)) := by
  unfold fX12_adjusts_27
  exact zpc_bv (fun v17 _ => w_fX12_adjusts_30 h)
theorem w_fX12_adjusts {σ0 : zSt} {σ : zSt} (h : zKeM σ0 σ) : zpc (fX12_adjusts σ) (fun r => zKeM σ0 (r)) := by
  unfold fX12_adjusts
  exact zpc_ck (zpc_bv (fun v18 _ => zpc_if (fun _ => w_fX12_adjusts_27 h) (fun _ => zpc_bi (w_fX12_flag h) (fun σ19 v20 hσ19 => zpc_if (fun _ => w_fX12_adjusts_27 hσ19) (fun _ => w_fX12_adjusts_30 hσ19)))))
theorem w_fX12_singles_28 {σ0 : zSt} {σ : zSt} {s0 : Int32} (h : zKeM σ0 σ) : zpc (fX12_singles_28 σ s0) (fun r => zKeM σ0 (r.1)) := by
  unfold fX12_singles_28
  exact zpc_some h
theorem w_fX12_singles_149 {σ0 : zSt} {σ : zSt} {s0 : Int32} (h : zKeM σ0 σ) : zpc (fX12_singles_149 σ s0) (fun r => zKeM σ0 (r.1)) := by
  unfold fX12_singles_149
  exact zpc_some h
theorem w_fX12_singles_134 {σ0 : zSt} {σ : zSt} {x1 : Int32} {s0 : Int32} {s1 : Int32} (h : zKeM σ0 σ) : zpc (fX12_singles_134 σ x1 s0 s1) (fun r => zKeM σ0 (r.1)) := by
  unfold fX12_singles_134
  exact zpc_bu (w_fX12_put h) (fun σ1 hσ1 => zpc_if (fun _ => w_fX12_singles_149 hσ1) (fun _ => w_fX12_singles_149 hσ1))
theorem w_fX12_singles_119 {σ0 : zSt} {σ : zSt} {x1 : Int32} {x2 : Int32} {s0 : Int32} {s1 : Int32} (h : zKeM σ0 σ) : zpc (fX12_singles_119 σ x1 x2 s0 s1) (fun r => zKeM σ0 (r.1)) := by
  unfold fX12_singles_119
  exact zpc_bu (w_fX12_put h) (fun σ2 hσ2 => zpc_if (fun _ => w_fX12_singles_134 hσ2) (fun _ => w_fX12_singles_134 hσ2))
theorem w_fX12_singles_111 {σ0 : zSt} {σ : zSt} {x1 : Int32} {x2 : Int32} {s0 : Int32} {s1 : Int32} {s2 : Int32} (h : zKeM σ0 σ) : zpc (fX12_singles_111 σ x1 x2 s0 s1 s2) (fun r => zKeM σ0 (r.1)) := by
  unfold fX12_singles_111
  exact zpc_if (fun _ => w_fX12_singles_119 h) (fun _ => w_fX12_singles_119 h)
theorem w_fX12_singles_92 {σ0 : zSt} {σ : zSt} {x1 : Int32} {x2 : Int32} {x3 : Int32} {s0 : Int32} {s1 : Int32} (h : zKeM σ0 σ) : zpc (fX12_singles_92 σ x1 x2 x3 s0 s1) (fun r => zKeM σ0 (r.1)) := by
  unfold fX12_singles_92
  exact zpc_bu (w_fX12_put h) (fun σ3 hσ3 => zpc_if (fun _ => w_fX12_singles_111 hσ3) (fun _ => w_fX12_singles_111 hσ3))
theorem w_fX12_singles_84 {σ0 : zSt} {σ : zSt} {x1 : Int32} {x2 : Int32} {x3 : Int32} {s0 : Int32} {s1 : Int32} {s2 : Int32} (h : zKeM σ0 σ) : zpc (fX12_singles_84 σ x1 x2 x3 s0 s1 s2) (fun r => zKeM σ0 (r.1)) := by
  unfold fX12_singles_84
  exact zpc_if (fun _ => w_fX12_singles_92 h) (fun _ => w_fX12_singles_92 h)
theorem w_fX12_singles_50 {σ0 : zSt} {σ : zSt} {x1 : Int32} {x2 : Int32} {s0 : Int32} {s1 : Int32} (h : zKeM σ0 σ) : zpc (fX12_singles_50 σ x1 x2 s0 s1) (fun r => zKeM σ0 (r.1)) := by
  unfold fX12_singles_50
  exact zpc_bv (fun v4 _ => zpc_bu (w_fX12_rTo h) (fun σ5 hσ5 => zpc_bu (w_fX12_by hσ5) (fun σ6 hσ6 => zpc_if (fun _ => w_fX12_singles_84 hσ6) (fun _ => w_fX12_singles_84 hσ6))))
theorem w_fX12_singles_316 {σ0 : zSt} {σ : zSt} (h : zKeM σ0 σ) : zpc (fX12_singles_316 σ) (fun r => zKeM σ0 (r.1)) := by
  unfold fX12_singles_316
  exact zpc_some h
theorem w_fX12_singles_297 {σ0 : zSt} {σ : zSt} {s0 : Int32} {s1 : Int32} (h : zKeM σ0 σ) : zpc (fX12_singles_297 σ s0 s1) (fun r => zKeM σ0 (r.1)) := by
  unfold fX12_singles_297
  exact zpc_bu (w_fX12_put h) (fun σ7 hσ7 => zpc_bu (w_fX12_put hσ7) (fun σ8 hσ8 => zpc_ck (zpc_bu (w_fX12_xy hσ8) (fun σ9 hσ9 => w_fX12_singles_316 hσ9))))
theorem w_fX12_singles_292 {σ0 : zSt} {σ : zSt} {s0 : Int32} (h : zKeM σ0 σ) : zpc (fX12_singles_292 σ s0) (fun r => zKeM σ0 (r.1)) := by
  unfold fX12_singles_292
  exact w_fX12_singles_297 h
theorem w_fX12_singles_273 {σ0 : zSt} {σ : zSt} {x1 : Int32} {s0 : Int32} {s1 : Int32} (h : zKeM σ0 σ) : zpc (fX12_singles_273 σ x1 s0 s1) (fun r => zKeM σ0 (r.1)) := by
  unfold fX12_singles_273
  exact zpc_bu (w_fX12_put h) (fun σ10 hσ10 => zpc_if (fun _ => w_fX12_singles_292 hσ10) (fun _ => zpc_bi (w_fX12_flag hσ10) (fun σ11 v12 hσ11 => zpc_if (fun _ => w_fX12_singles_292 hσ11) (fun _ => w_fX12_singles_297 hσ11))))
theorem w_fX12_singles_272 {σ0 : zSt} {σ : zSt} {x1 : Int32} {s0 : Int32} (h : zKeM σ0 σ) : zpc (fX12_singles_272 σ x1 s0) (fun r => zKeM σ0 (r.1)) := by
  unfold fX12_singles_272
  exact w_fX12_singles_273 h
theorem w_fX12_singles {σ0 : zSt} {σ : zSt} {x1 : Int32} {x2 : Int32} (h : zKeM σ0 σ) : zpc (fX12_singles σ x1 x2) (fun r => zKeM σ0 (r.1)) := by
  unfold fX12_singles
  exact zpc_if (fun _ => zpc_bi (w_fX12_next h) (fun σ28 v29 hσ28 => zpc_bu (w_fX12_rTo hσ28) (fun σ30 hσ30 => zpc_if (fun _ => w_fX12_singles_28 hσ30) (fun _ => w_fX12_singles_28 hσ30)))) (fun _ => zpc_if (fun _ => zpc_if (fun _ => zpc_if (fun _ => zpc_bu (w_fX12_adjusts h) (fun σ19 hσ19 => w_fX12_singles_316 hσ19)) (fun _ => zpc_if (fun _ => zpc_ck (zpc_ck (zpc_bs (zKeM.wi h (by decide)) (fun σ15 hσ15 => zpc_bu (w_fX12_put hσ15) (fun σ16 hσ16 => zpc_bu (w_fX12_put hσ16) (fun σ17 hσ17 => zpc_ck (zpc_bu (w_fX12_xy hσ17) (fun σ18 hσ18 => w_fX12_singles_316 hσ18)))))))) (fun _ => zpc_if (fun _ => zpc_bi (w_fX12_flag h) (fun σ13 v14 hσ13 => zpc_if (fun _ => w_fX12_singles_273 hσ13) (fun _ => w_fX12_singles_272 hσ13))) (fun _ => w_fX12_singles_272 h)))) (fun _ => zpc_ck (zpc_bi (w_fX12_turned h) (fun σ20 v21 hσ20 => zpc_ck (zpc_bs (zKeM.wi hσ20 (by decide)) (fun σ22 hσ22 => zpc_ck (zpc_bu (w_fX12_xy hσ22) (fun σ23 hσ23 => zpc_bu (w_fX12_put hσ23) (fun σ24 hσ24 => zpc_bu (w_fX12_put hσ24) (fun σ25 hσ25 => w_fX12_singles_316 hσ25)))))))))) (fun _ => zpc_bi (w_fX12_r h) (fun σ26 v27 hσ26 => zpc_if (fun _ => w_fX12_singles_50 hσ26) (fun _ => w_fX12_singles_50 hσ26))))
theorem w_fX12_plain_r1_160 {σ0 : zSt} {σ : zSt} {s0 : Int32} (h : zKeM σ0 σ) : zpc (fX12_plain_r1_160 σ s0) (fun r => zKeM σ0 (r.1)) := by
  unfold fX12_plain_r1_160
  exact zpc_some h
theorem w_fX12_plain_r1_139 {σ0 : zSt} {σ : zSt} {s0 : Int32} (h : zKeM σ0 σ) : zpc (fX12_plain_r1_139 σ s0) (fun r => zKeM σ0 (r.1)) := by
  unfold fX12_plain_r1_139
  exact zpc_some h
theorem w_fX12_plain_r1_116 {σ0 : zSt} {σ : zSt} {s0 : Int32} (h : zKeM σ0 σ) : zpc (fX12_plain_r1_116 σ s0) (fun r => zKeM σ0 (r.1)) := by
  unfold fX12_plain_r1_116
  exact zpc_some h
theorem w_fX12_plain_r1_115 {σ0 : zSt} {σ : zSt} (h : zKeM σ0 σ) : zpc (fX12_plain_r1_115 σ) (fun r => zKeM σ0 (r.1)) := by
  unfold fX12_plain_r1_115
  exact w_fX12_plain_r1_116 h
theorem w_fX12_plain_r1_110 {σ0 : zSt} {σ : zSt} (h : zKeM σ0 σ) : zpc (fX12_plain_r1_110 σ) (fun r => zKeM σ0 (r.1)) := by
  unfold fX12_plain_r1_110
  exact w_fX12_plain_r1_116 h
theorem w_fX12_plain_r1_92 {σ0 : zSt} {σ : zSt} {x1 : Int32} {x2 : Int32} {x3 : Int32} (h : zKeM σ0 σ) : zpc (fX12_plain_r1_92 σ x1 x2 x3) (fun r => zKeM σ0 (r.1)) := by
  unfold fX12_plain_r1_92
  exact zpc_if (fun _ => w_fX12_plain_r1_115 h) (fun _ => zpc_if (fun _ => w_fX12_plain_r1_110 h) (fun _ => zpc_if (fun _ => w_fX12_plain_r1_110 h) (fun _ => w_fX12_plain_r1_115 h)))
theorem w_fX12_plain_r1_64 {σ0 : zSt} {σ : zSt} {s0 : Int32} (h : zKeM σ0 σ) : zpc (fX12_plain_r1_64 σ s0) (fun r => zKeM σ0 (r.1)) := by
  unfold fX12_plain_r1_64
  exact zpc_some h
theorem w_fX12_plain_r1 {σ0 : zSt} {σ : zSt} {x1 : Int32} (h : zKeM σ0 σ) : zpc (fX12_plain_r1 σ x1) (fun r => zKeM σ0 (r.1)) := by
  unfold fX12_plain_r1
  exact zpc_bv (fun v1 _ => zpc_bv (fun v2 _ => zpc_if (fun _ => zpc_if (fun _ => zpc_bi (w_fX12_singles h) (fun σ3 v4 hσ3 => w_fX12_plain_r1_64 hσ3)) (fun _ => zpc_bi (w_fX12_zero h) (fun σ5 v6 hσ5 => w_fX12_plain_r1_64 hσ5))) (fun _ => zpc_if (fun _ => zpc_if (fun _ => zpc_ck (zpc_bs (zKeM.wi h (by decide)) (fun σ10 hσ10 => w_fX12_plain_r1_92 hσ10))) (fun _ => zpc_bi (w_fX12_r h) (fun σ7 v8 hσ7 => zpc_bu (w_fX12_rTo hσ7) (fun σ9 hσ9 => w_fX12_plain_r1_92 hσ9)))) (fun _ => zpc_if (fun _ => zpc_bi (w_fX12_r h) (fun σ11 v12 hσ11 => zpc_bu (w_fX12_does hσ11) (fun σ13 hσ13 => zpc_if (fun _ => w_fX12_plain_r1_139 hσ13) (fun _ => w_fX12_plain_r1_139 hσ13)))) (fun _ => zpc_if (fun _ => zpc_bi (w_fX12_more3_r1 h) (fun σ14 v15 hσ14 => w_fX12_plain_r1_160 hσ14)) (fun _ => zpc_bi (w_fX12_three h) (fun σ16 v17 hσ16 => w_fX12_plain_r1_160 hσ16)))))))
theorem w_fX12_prefixed_33 {σ0 : zSt} {σ : zSt} (h : zKeM σ0 σ) : zpc (fX12_prefixed_33 σ) (fun r => zKeM σ0 (r.1)) := by
  unfold fX12_prefixed_33
  exact zpc_ck (zpc_bs (zKeM.wi h (by decide)) (fun σ1 hσ1 => zpc_some hσ1))
theorem w_fX12_prefixed_154 {σ0 : zSt} {σ : zSt} {s0 : Int32} (h : zKeM σ0 σ) : zpc (fX12_prefixed_154 σ s0) (fun r => zKeM σ0 (r.1)) := by
  unfold fX12_prefixed_154
  exact zpc_some h
theorem w_fX12_prefixed_135 {σ0 : zSt} {σ : zSt} {x4 : Int32} {x5 : Int32} (h : zKeM σ0 σ) : zpc (fX12_prefixed_135 σ x4 x5) (fun r => zKeM σ0 (r.1)) := by
  unfold fX12_prefixed_135
  exact zpc_if (fun _ => w_fX12_prefixed_154 h) (fun _ => w_fX12_prefixed_154 h)
theorem w_fX12_prefixed_311 {σ0 : zSt} {σ : zSt} {s0 : Int32} {s1 : Int32} (h : zKeM σ0 σ) : zpc (fX12_prefixed_311 σ s0 s1) (fun r => zKeM σ0 (r.1)) := by
  unfold fX12_prefixed_311
  exact zpc_some h
theorem w_fX12_prefixed_244 {σ0 : zSt} {σ : zSt} {x1 : Int32} {x3 : Int32} {s0 : Int32} (h : zKeM σ0 σ) : zpc (fX12_prefixed_244 σ x1 x3 s0) (fun r => zKeM σ0 (r.1)) := by
  unfold fX12_prefixed_244
  exact zpc_if (fun _ => zpc_bs (zKeM.w0 h (by decide)) (fun σ10 hσ10 => zpc_bi (w_fX12_plain_r1 hσ10) (fun σ11 v12 hσ11 => zpc_some hσ11))) (fun _ => zpc_ck (zpc_bi (w_fX12_next h) (fun σ2 v3 hσ2 => zpc_bi (w_fX12_signed hσ2) (fun σ4 v5 hσ4 => zpc_ck (zpc_bs (zKeM.wi hσ4 (by decide)) (fun σ6 hσ6 => zpc_ck (zpc_bs (zKeM.w0 hσ6 (by decide)) (fun σ7 hσ7 => zpc_bi (w_fX12_plain_r1 hσ7) (fun σ8 v9 hσ8 => zpc_if (fun _ => w_fX12_prefixed_311 hσ8) (fun _ => w_fX12_prefixed_311 hσ8))))))))))
theorem w_fX12_prefixed_243 {σ0 : zSt} {σ : zSt} {x1 : Int32} {x3 : Int32} (h : zKeM σ0 σ) : zpc (fX12_prefixed_243 σ x1 x3) (fun r => zKeM σ0 (r.1)) := by
  unfold fX12_prefixed_243
  exact w_fX12_prefixed_244 h
theorem w_fX12_prefixed_239 {σ0 : zSt} {σ : zSt} {x1 : Int32} {x3 : Int32} (h : zKeM σ0 σ) : zpc (fX12_prefixed_239 σ x1 x3) (fun r => zKeM σ0 (r.1)) := by
  unfold fX12_prefixed_239
  exact w_fX12_prefixed_244 h
theorem w_fX12_prefixed_226 {σ0 : zSt} {σ : zSt} {x1 : Int32} {x3 : Int32} {x5 : Int32} {x6 : Int32} (h : zKeM σ0 σ) : zpc (fX12_prefixed_226 σ x1 x3 x5 x6) (fun r => zKeM σ0 (r.1)) := by
  unfold fX12_prefixed_226
  exact zpc_if (fun _ => zpc_if (fun _ => w_fX12_prefixed_239 h) (fun _ => w_fX12_prefixed_243 h)) (fun _ => w_fX12_prefixed_243 h)
theorem w_fX12_prefixed_220 {σ0 : zSt} {σ : zSt} {x1 : Int32} {x3 : Int32} {x5 : Int32} {x6 : Int32} (h : zKeM σ0 σ) : zpc (fX12_prefixed_220 σ x1 x3 x5 x6) (fun r => zKeM σ0 (r.1)) := by
  unfold fX12_prefixed_220
  exact zpc_if (fun _ => w_fX12_prefixed_226 h) (fun _ => w_fX12_prefixed_239 h)
theorem w_fX12_prefixed_200 {σ0 : zSt} {σ : zSt} {x1 : Int32} {x3 : Int32} {x4 : Int32} {x5 : Int32} {x6 : Int32} (h : zKeM σ0 σ) : zpc (fX12_prefixed_200 σ x1 x3 x4 x5 x6) (fun r => zKeM σ0 (r.1)) := by
  unfold fX12_prefixed_200
  exact zpc_if (fun _ => zpc_if (fun _ => w_fX12_prefixed_220 h) (fun _ => zpc_if (fun _ => w_fX12_prefixed_220 h) (fun _ => w_fX12_prefixed_226 h))) (fun _ => w_fX12_prefixed_226 h)
theorem w_fX12_prefixed {σ0 : zSt} {σ : zSt} {x1 : Int32} (h : zKeM σ0 σ) : zpc (fX12_prefixed σ x1) (fun r => zKeM σ0 (r.1)) := by
  unfold fX12_prefixed
  exact zpc_ck (zpc_bi (w_fX12_read h) (fun σ13 v14 hσ13 => zpc_if (fun _ => w_fX12_prefixed_33 hσ13) (fun _ => zpc_if (fun _ => w_fX12_prefixed_33 hσ13) (fun _ => zpc_if (fun _ => w_fX12_prefixed_33 hσ13) (fun _ => zpc_bi (w_fX12_fetch hσ13) (fun σ15 v16 hσ15 => zpc_if (fun _ => zpc_ck (zpc_bi (w_fX12_next hσ15) (fun σ20 v21 hσ20 => zpc_bi (w_fX12_signed hσ20) (fun σ22 v23 hσ22 => zpc_ck (zpc_bs (zKeM.wi hσ22 (by decide)) (fun σ24 hσ24 => zpc_ck (zpc_bs (zKeM.w0 hσ24 (by decide)) (fun σ25 hσ25 => zpc_bi (w_fX12_next hσ25) (fun σ26 v27 hσ26 => zpc_bi (w_fX12_turn hσ26) (fun σ28 v29 hσ28 => zpc_if (fun _ => w_fX12_prefixed_135 hσ28) (fun _ => zpc_if (fun _ => w_fX12_prefixed_135 hσ28) (fun _ => zpc_ck (zpc_bs (zKeM.w0 hσ28 (by decide)) (fun σ30 hσ30 => zpc_bu (w_fX12_rTo hσ30) (fun σ31 hσ31 => w_fX12_prefixed_135 hσ31))))))))))))))) (fun _ => zpc_bv (fun v17 _ => zpc_bv (fun v18 _ => zpc_bv (fun v19 _ => zpc_if (fun _ => zpc_if (fun _ => w_fX12_prefixed_200 hσ15) (fun _ => zpc_if (fun _ => w_fX12_prefixed_200 hσ15) (fun _ => zpc_if (fun _ => w_fX12_prefixed_239 hσ15) (fun _ => w_fX12_prefixed_200 hσ15)))) (fun _ => w_fX12_prefixed_200 hσ15)))))))))))
theorem w_fX12_more3_119 {σ0 : zSt} {σ : zSt} {s0 : Int32} (h : zKeM σ0 σ) : zpc (fX12_more3_119 σ s0) (fun r => zKeM σ0 (r.1)) := by
  unfold fX12_more3_119
  exact zpc_bu (w_fX12_push h) (fun σ1 hσ1 => zpc_some hσ1)
theorem w_fX12_more3_200 {σ0 : zSt} {σ : zSt} {s0 : Int32} (h : zKeM σ0 σ) : zpc (fX12_more3_200 σ s0) (fun r => zKeM σ0 (r.1)) := by
  unfold fX12_more3_200
  exact zpc_some h
theorem w_fX12_more3_197 {σ0 : zSt} {σ : zSt} {s0 : Int32} (h : zKeM σ0 σ) : zpc (fX12_more3_197 σ s0) (fun r => zKeM σ0 (r.1)) := by
  unfold fX12_more3_197
  exact zpc_bi (w_fX12_prefixed h) (fun σ2 v3 hσ2 => w_fX12_more3_200 hσ2)
theorem w_fX12_more3 {σ0 : zSt} {σ : zSt} {x1 : Int32} {x2 : Int32} (h : zKeM σ0 σ) : zpc (fX12_more3 σ x1 x2) (fun r => zKeM σ0 (r.1)) := by
  unfold fX12_more3
  exact zpc_bv (fun v4 _ => zpc_if (fun _ => zpc_bi (w_fX12_nextWord h) (fun σ22 v23 hσ22 => zpc_ck (zpc_bs (zKeM.wi hσ22 (by decide)) (fun σ24 hσ24 => zpc_bi (w_fX12_cc hσ24) (fun σ25 v26 hσ25 => zpc_if (fun _ => zpc_some hσ25) (fun _ => zpc_ck (zpc_bu (w_fX12_push hσ25) (fun σ27 hσ27 => zpc_ck (zpc_ck (zpc_bs (zKeM.wi hσ27 (by decide)) (fun σ28 hσ28 => zpc_some hσ28))))))))))) (fun _ => zpc_if (fun _ => zpc_bi (w_fX12_next h) (fun σ19 v20 hσ19 => zpc_bu (w_fX12_does hσ19) (fun σ21 hσ21 => zpc_some hσ21))) (fun _ => zpc_if (fun _ => zpc_bu (w_fX12_call h) (fun σ18 hσ18 => zpc_some hσ18)) (fun _ => zpc_ck (zpc_if (fun _ => zpc_if (fun _ => zpc_bi (w_fX12_pair h) (fun σ16 v17 hσ16 => w_fX12_more3_119 hσ16)) (fun _ => zpc_bi (w_fX12_rp h) (fun σ14 v15 hσ14 => w_fX12_more3_119 hσ14))) (fun _ => zpc_if (fun _ => zpc_bi (w_fX12_nextWord h) (fun σ9 v10 hσ9 => zpc_ck (zpc_bs (zKeM.wi hσ9 (by decide)) (fun σ11 hσ11 => zpc_ck (zpc_bu (w_fX12_push hσ11) (fun σ12 hσ12 => zpc_ck (zpc_ck (zpc_bs (zKeM.wi hσ12 (by decide)) (fun σ13 hσ13 => zpc_some hσ13))))))))) (fun _ => zpc_if (fun _ => zpc_bi (w_fX12_fetch h) (fun σ5 v6 hσ5 => zpc_bi (w_fX12_more hσ5) (fun σ7 v8 hσ7 => w_fX12_more3_200 hσ7))) (fun _ => zpc_if (fun _ => w_fX12_more3_197 h) (fun _ => w_fX12_more3_197 h)))))))))
theorem w_fX12_plain_160 {σ0 : zSt} {σ : zSt} {s0 : Int32} (h : zKeM σ0 σ) : zpc (fX12_plain_160 σ s0) (fun r => zKeM σ0 (r.1)) := by
  unfold fX12_plain_160
  exact zpc_some h
theorem w_fX12_plain_139 {σ0 : zSt} {σ : zSt} {s0 : Int32} (h : zKeM σ0 σ) : zpc (fX12_plain_139 σ s0) (fun r => zKeM σ0 (r.1)) := by
  unfold fX12_plain_139
  exact zpc_some h
theorem w_fX12_plain_116 {σ0 : zSt} {σ : zSt} {s0 : Int32} (h : zKeM σ0 σ) : zpc (fX12_plain_116 σ s0) (fun r => zKeM σ0 (r.1)) := by
  unfold fX12_plain_116
  exact zpc_some h
theorem w_fX12_plain_115 {σ0 : zSt} {σ : zSt} (h : zKeM σ0 σ) : zpc (fX12_plain_115 σ) (fun r => zKeM σ0 (r.1)) := by
  unfold fX12_plain_115
  exact w_fX12_plain_116 h
theorem w_fX12_plain_110 {σ0 : zSt} {σ : zSt} (h : zKeM σ0 σ) : zpc (fX12_plain_110 σ) (fun r => zKeM σ0 (r.1)) := by
  unfold fX12_plain_110
  exact w_fX12_plain_116 h
theorem w_fX12_plain_92 {σ0 : zSt} {σ : zSt} {x1 : Int32} {x2 : Int32} {x3 : Int32} (h : zKeM σ0 σ) : zpc (fX12_plain_92 σ x1 x2 x3) (fun r => zKeM σ0 (r.1)) := by
  unfold fX12_plain_92
  exact zpc_if (fun _ => w_fX12_plain_115 h) (fun _ => zpc_if (fun _ => w_fX12_plain_110 h) (fun _ => zpc_if (fun _ => w_fX12_plain_110 h) (fun _ => w_fX12_plain_115 h)))
theorem w_fX12_plain_64 {σ0 : zSt} {σ : zSt} {s0 : Int32} (h : zKeM σ0 σ) : zpc (fX12_plain_64 σ s0) (fun r => zKeM σ0 (r.1)) := by
  unfold fX12_plain_64
  exact zpc_some h
theorem w_fX12_plain {σ0 : zSt} {σ : zSt} {x1 : Int32} (h : zKeM σ0 σ) : zpc (fX12_plain σ x1) (fun r => zKeM σ0 (r.1)) := by
  unfold fX12_plain
  exact zpc_bv (fun v1 _ => zpc_bv (fun v2 _ => zpc_if (fun _ => zpc_if (fun _ => zpc_bi (w_fX12_singles h) (fun σ3 v4 hσ3 => w_fX12_plain_64 hσ3)) (fun _ => zpc_bi (w_fX12_zero h) (fun σ5 v6 hσ5 => w_fX12_plain_64 hσ5))) (fun _ => zpc_if (fun _ => zpc_if (fun _ => zpc_ck (zpc_bs (zKeM.wi h (by decide)) (fun σ10 hσ10 => w_fX12_plain_92 hσ10))) (fun _ => zpc_bi (w_fX12_r h) (fun σ7 v8 hσ7 => zpc_bu (w_fX12_rTo hσ7) (fun σ9 hσ9 => w_fX12_plain_92 hσ9)))) (fun _ => zpc_if (fun _ => zpc_bi (w_fX12_r h) (fun σ11 v12 hσ11 => zpc_bu (w_fX12_does hσ11) (fun σ13 hσ13 => zpc_if (fun _ => w_fX12_plain_139 hσ13) (fun _ => w_fX12_plain_139 hσ13)))) (fun _ => zpc_if (fun _ => zpc_bi (w_fX12_more3 h) (fun σ14 v15 hσ14 => w_fX12_plain_160 hσ14)) (fun _ => zpc_bi (w_fX12_three h) (fun σ16 v17 hσ16 => w_fX12_plain_160 hσ16)))))))
theorem w_fX12_instruction {σ0 : zSt} {σ : zSt} (h : zKeM σ0 σ) : zpc (fX12_instruction σ) (fun r => zKeM σ0 (r.1)) := by
  unfold fX12_instruction
  exact zpc_bs (zKeM.w0 h (by decide)) (fun σ1 hσ1 => zpc_ck (zpc_bs (zKeM.w0 hσ1 (by decide)) (fun σ2 hσ2 => zpc_bi (w_fX12_fetch hσ2) (fun σ3 v4 hσ3 => zpc_bi (w_fX12_plain hσ3) (fun σ5 v6 hσ5 => zpc_some hσ5)))))
theorem w_fX12_answers {σ0 : zSt} {σ : zSt} (h : zKeM σ0 σ) : zpc (fX12_answers σ) (fun r => zKeM σ0 (r)) := by
  unfold fX12_answers
  exact zpc_bu (w_fX12_grows h) (fun σ1 hσ1 => zpc_ck (zpc_bs (zKeM.wi hσ1 (by decide)) (fun σ2 hσ2 => zpc_some hσ2)))
theorem w_fX12_reg {σ0 : zSt} {σ : zSt} {x1 : Int32} (h : zKeM σ0 σ) : zpc (fX12_reg σ x1) (fun r => zKeM σ0 (r.1)) := by
  unfold fX12_reg
  exact zpc_ck (zpc_some h)
theorem w_fX12_tileDot_6_body {σ0 : zSt} {k6 : zSt → Int32 → Int32 → Int32 → Int32 → Int32 → Option (zSt × Int32)} (hk6 : ∀ (y0 : zSt) (y1 : Int32) (y2 : Int32) (y3 : Int32) (y4 : Int32) (y5 : Int32), zKeM σ0 y0 → zpc (k6 y0 y1 y2 y3 y4 y5) (fun r => zKeM σ0 (r.1))) {σ : zSt} {x1 : Int32} {x2 : Int32} {x3 : Int32} {x4 : Int32} {x5 : Int32} (h : zKeM σ0 σ) : zpc (fX12_tileDot_6_body k6 σ x1 x2 x3 x4 x5) (fun r => zKeM σ0 (r.1)) := by
  unfold fX12_tileDot_6_body
  exact zpc_if (fun _ => zpc_some h) (fun _ => zpc_bi (w_fX12_video8 h) (fun σ1 v2 hσ1 => zpc_bv (fun v3 _ => zpc_bv (fun v4 _ => hk6 _ _ _ _ _ _ hσ1))))
theorem w_fX12_tileDot_6 {σ0 : zSt} : ∀ (n : Nat) (y0 : zSt) (y1 : Int32) (y2 : Int32) (y3 : Int32) (y4 : Int32) (y5 : Int32), zKeM σ0 y0 → zpc (fX12_tileDot_6 n y0 y1 y2 y3 y4 y5) (fun r => zKeM σ0 (r.1)) := by
  intro n
  induction n with
  | zero => intro y0 y1 y2 y3 y4 y5 h; exact zpc_none
  | succ n ih => intro y0 y1 y2 y3 y4 y5 h; exact w_fX12_tileDot_6_body ih h
theorem w_fX12_tileDot {σ0 : zSt} {σ : zSt} {x1 : Int32} {x2 : Int32} {x3 : Int32} (h : zKeM σ0 σ) : zpc (fX12_tileDot σ x1 x2 x3) (fun r => zKeM σ0 (r.1)) := by
  unfold fX12_tileDot
  exact w_fX12_tileDot_6 _ _ _ _ _ _ _ h
theorem w_fX12_tile_302 {σ0 : zSt} {σ : zSt} {s0 : Int32} {s1 : Int32} (h : zKeM σ0 σ) : zpc (fX12_tile_302 σ s0 s1) (fun r => zKeM σ0 (r)) := by
  unfold fX12_tile_302
  exact zpc_ck (zpc_bs (zKeM.wi h (by decide)) (fun σ1 hσ1 => zpc_some hσ1))
theorem w_fX12_tile_301 {σ0 : zSt} {σ : zSt} {s0 : Int32} (h : zKeM σ0 σ) : zpc (fX12_tile_301 σ s0) (fun r => zKeM σ0 (r)) := by
  unfold fX12_tile_301
  exact w_fX12_tile_302 h
theorem w_fX12_tile_276 {σ0 : zSt} {σ : zSt} {x2 : Int32} {x9 : Int32} {x12 : Int32} {s0 : Int32} {s1 : Int32} {s2 : Int32} (h : zKeM σ0 σ) : zpc (fX12_tile_276 σ x2 x9 x12 s0 s1 s2) (fun r => zKeM σ0 (r)) := by
  unfold fX12_tile_276
  exact zpc_ck (zpc_bs (zKeM.wi h (by decide)) (fun σ2 hσ2 => zpc_if (fun _ => w_fX12_tile_301 hσ2) (fun _ => zpc_if (fun _ => w_fX12_tile_301 hσ2) (fun _ => w_fX12_tile_302 hσ2))))
theorem w_fX12_tile_236 {σ0 : zSt} {σ : zSt} {x2 : Int32} {x9 : Int32} {x10 : Int32} {s0 : Int32} (h : zKeM σ0 σ) : zpc (fX12_tile_236 σ x2 x9 x10 s0) (fun r => zKeM σ0 (r)) := by
  unfold fX12_tile_236
  exact zpc_bi (w_fX12_tileDot h) (fun σ3 v4 hσ3 => zpc_if (fun _ => w_fX12_tile_276 hσ3) (fun _ => w_fX12_tile_276 hσ3))
theorem w_fX12_tile_209 {σ0 : zSt} {σ : zSt} {x2 : Int32} {x7 : Int32} {x9 : Int32} {s0 : Int32} (h : zKeM σ0 σ) : zpc (fX12_tile_209 σ x2 x7 x9 s0) (fun r => zKeM σ0 (r)) := by
  unfold fX12_tile_209
  exact zpc_if (fun _ => zpc_ck (w_fX12_tile_236 h)) (fun _ => zpc_ck (w_fX12_tile_236 h))
theorem w_fX12_tile_141 {σ0 : zSt} {σ : zSt} {x2 : Int32} {x4 : Int32} {x6 : Int32} {s0 : Int32} (h : zKeM σ0 σ) : zpc (fX12_tile_141 σ x2 x4 x6 s0) (fun r => zKeM σ0 (r)) := by
  unfold fX12_tile_141
  exact zpc_ck (zpc_ck (zpc_bv (fun v5 _ => zpc_bi (w_fX12_video8 h) (fun σ6 v7 hσ6 => zpc_bi (w_fX12_video8 hσ6) (fun σ8 v9 hσ8 => zpc_bv (fun v10 _ => zpc_if (fun _ => zpc_ck (w_fX12_tile_209 hσ8)) (fun _ => zpc_ck (w_fX12_tile_209 hσ8))))))))
theorem w_fX12_tile_140 {σ0 : zSt} {σ : zSt} {x2 : Int32} {x4 : Int32} {x6 : Int32} {s0 : Int32} {s1 : Int32} (h : zKeM σ0 σ) : zpc (fX12_tile_140 σ x2 x4 x6 s0 s1) (fun r => zKeM σ0 (r)) := by
  unfold fX12_tile_140
  exact zpc_ck (w_fX12_tile_141 h)
theorem w_fX12_tile_118 {σ0 : zSt} {σ : zSt} {x1 : Int32} {x2 : Int32} {x3 : Int32} {x4 : Int32} {x6 : Int32} (h : zKeM σ0 σ) : zpc (fX12_tile_118 σ x1 x2 x3 x4 x6) (fun r => zKeM σ0 (r)) := by
  unfold fX12_tile_118
  exact zpc_ck (zpc_if (fun _ => w_fX12_tile_140 h) (fun _ => w_fX12_tile_140 h))
theorem w_fX12_tile_84 {σ0 : zSt} {σ : zSt} {x1 : Int32} {x2 : Int32} {x3 : Int32} {x4 : Int32} {s0 : Int32} (h : zKeM σ0 σ) : zpc (fX12_tile_84 σ x1 x2 x3 x4 s0) (fun r => zKeM σ0 (r)) := by
  unfold fX12_tile_84
  exact zpc_bv (fun v11 _ => zpc_if (fun _ => w_fX12_tile_118 h) (fun _ => zpc_bi (w_fX12_bit h) (fun σ12 v13 hσ12 => zpc_if (fun _ => w_fX12_tile_141 hσ12) (fun _ => w_fX12_tile_118 hσ12))))
theorem w_fX12_tile_78 {σ0 : zSt} {σ : zSt} {x1 : Int32} {x2 : Int32} {x3 : Int32} {x4 : Int32} (h : zKeM σ0 σ) : zpc (fX12_tile_78 σ x1 x2 x3 x4) (fun r => zKeM σ0 (r)) := by
  unfold fX12_tile_78
  exact zpc_bi (w_fX12_reg h) (fun σ14 v15 hσ14 => w_fX12_tile_84 hσ14)
theorem w_fX12_tile_55 {σ0 : zSt} {σ : zSt} {x1 : Int32} {x2 : Int32} {x3 : Int32} {s0 : Int32} (h : zKeM σ0 σ) : zpc (fX12_tile_55 σ x1 x2 x3 s0) (fun r => zKeM σ0 (r)) := by
  unfold fX12_tile_55
  exact zpc_if (fun _ => w_fX12_tile_78 h) (fun _ => zpc_bi (w_fX12_bit h) (fun σ16 v17 hσ16 => zpc_if (fun _ => w_fX12_tile_84 hσ16) (fun _ => w_fX12_tile_78 hσ16)))
theorem w_fX12_tile_15 {σ0 : zSt} {σ : zSt} {x1 : Int32} {x2 : Int32} {s0 : Int32} (h : zKeM σ0 σ) : zpc (fX12_tile_15 σ x1 x2 s0) (fun r => zKeM σ0 (r)) := by
  unfold fX12_tile_15
  exact zpc_if (fun _ => zpc_bi (w_fX12_reg h) (fun σ18 v19 hσ18 => zpc_ck (zpc_ck (w_fX12_tile_55 hσ18)))) (fun _ => zpc_bi (w_fX12_reg h) (fun σ20 v21 hσ20 => zpc_ck (w_fX12_tile_55 hσ20)))
theorem w_fX12_tile {σ0 : zSt} {σ : zSt} {x1 : Int32} {x2 : Int32} (h : zKeM σ0 σ) : zpc (fX12_tile σ x1 x2) (fun r => zKeM σ0 (r)) := by
  unfold fX12_tile
  exact zpc_bi (w_fX12_height h) (fun σ22 v23 hσ22 => zpc_if (fun _ => w_fX12_tile_15 hσ22) (fun _ => w_fX12_tile_15 hσ22))
theorem w_fX12_sprites_349 {σ0 : zSt} {k73 : zSt → Int32 → Int32 → Int32 → Int32 → Int32 → Int32 → Int32 → Option (zSt)} (hk73 : ∀ (y0 : zSt) (y1 : Int32) (y2 : Int32) (y3 : Int32) (y4 : Int32) (y5 : Int32) (y6 : Int32) (y7 : Int32), zKeM σ0 y0 → zpc (k73 y0 y1 y2 y3 y4 y5 y6 y7) (fun r => zKeM σ0 (r))) {σ : zSt} {x1 : Int32} {x2 : Int32} {x3 : Int32} {x4 : Int32} {x5 : Int32} {x6 : Int32} {x7 : Int32} (h : zKeM σ0 σ) : zpc (fX12_sprites_349 k73 σ x1 x2 x3 x4 x5 x6 x7) (fun r => zKeM σ0 (r)) := by
  unfold fX12_sprites_349
  exact zpc_bv (fun v1 _ => hk73 _ _ _ _ _ _ _ _ h)
theorem w_fX12_sprites_343 {σ0 : zSt} {k73 : zSt → Int32 → Int32 → Int32 → Int32 → Int32 → Int32 → Int32 → Option (zSt)} (hk73 : ∀ (y0 : zSt) (y1 : Int32) (y2 : Int32) (y3 : Int32) (y4 : Int32) (y5 : Int32) (y6 : Int32) (y7 : Int32), zKeM σ0 y0 → zpc (k73 y0 y1 y2 y3 y4 y5 y6 y7) (fun r => zKeM σ0 (r))) {k250 : zSt → Int32 → Int32 → Int32 → Int32 → Int32 → Int32 → Int32 → Int32 → Int32 → Int32 → Int32 → Option (zSt)} (hk250 : ∀ (y0 : zSt) (y1 : Int32) (y2 : Int32) (y3 : Int32) (y4 : Int32) (y5 : Int32) (y6 : Int32) (y7 : Int32) (y8 : Int32) (y9 : Int32) (y10 : Int32) (y11 : Int32), zKeM σ0 y0 → zpc (k250 y0 y1 y2 y3 y4 y5 y6 y7 y8 y9 y10 y11) (fun r => zKeM σ0 (r))) {σ : zSt} {x1 : Int32} {x2 : Int32} {x3 : Int32} {x4 : Int32} {x5 : Int32} {x6 : Int32} {x7 : Int32} {x9 : Int32} {x10 : Int32} {x11 : Int32} {x12 : Int32} (h : zKeM σ0 σ) : zpc (fX12_sprites_343 k73 k250 σ x1 x2 x3 x4 x5 x6 x7 x9 x10 x11 x12) (fun r => zKeM σ0 (r)) := by
  unfold fX12_sprites_343
  exact zpc_bv (fun v2 _ => hk250 _ _ _ _ _ _ _ _ _ _ _ _ h)
theorem w_fX12_sprites_250_body {σ0 : zSt} {k73 : zSt → Int32 → Int32 → Int32 → Int32 → Int32 → Int32 → Int32 → Option (zSt)} (hk73 : ∀ (y0 : zSt) (y1 : Int32) (y2 : Int32) (y3 : Int32) (y4 : Int32) (y5 : Int32) (y6 : Int32) (y7 : Int32), zKeM σ0 y0 → zpc (k73 y0 y1 y2 y3 y4 y5 y6 y7) (fun r => zKeM σ0 (r))) {k250 : zSt → Int32 → Int32 → Int32 → Int32 → Int32 → Int32 → Int32 → Int32 → Int32 → Int32 → Int32 → Option (zSt)} (hk250 : ∀ (y0 : zSt) (y1 : Int32) (y2 : Int32) (y3 : Int32) (y4 : Int32) (y5 : Int32) (y6 : Int32) (y7 : Int32) (y8 : Int32) (y9 : Int32) (y10 : Int32) (y11 : Int32), zKeM σ0 y0 → zpc (k250 y0 y1 y2 y3 y4 y5 y6 y7 y8 y9 y10 y11) (fun r => zKeM σ0 (r))) {σ : zSt} {x1 : Int32} {x2 : Int32} {x3 : Int32} {x4 : Int32} {x5 : Int32} {x6 : Int32} {x7 : Int32} {x9 : Int32} {x10 : Int32} {x11 : Int32} {x12 : Int32} (h : zKeM σ0 σ) : zpc (fX12_sprites_250_body k73 k250 σ x1 x2 x3 x4 x5 x6 x7 x9 x10 x11 x12) (fun r => zKeM σ0 (r)) := by
  unfold fX12_sprites_250_body
  exact zpc_if (fun _ => w_fX12_sprites_349 hk73 h) (fun _ => zpc_ck (zpc_ck (zpc_ck (zpc_bi (w_fX12_tileDot h) (fun σ3 v4 hσ3 => zpc_bv (fun v5 _ => zpc_if (fun _ => w_fX12_sprites_343 hk73 hk250 hσ3) (fun _ => zpc_if (fun _ => w_fX12_sprites_343 hk73 hk250 hσ3) (fun _ => zpc_if (fun _ => zpc_ck (zpc_if (fun _ => zpc_ck (zpc_bs (zKeM.wi hσ3 (by decide)) (fun σ6 hσ6 => w_fX12_sprites_343 hk73 hk250 hσ6))) (fun _ => zpc_ck (zpc_ck (zpc_bs (zKeM.wi hσ3 (by decide)) (fun σ7 hσ7 => w_fX12_sprites_343 hk73 hk250 hσ7)))))) (fun _ => w_fX12_sprites_343 hk73 hk250 hσ3)))))))))
theorem w_fX12_sprites_250 {σ0 : zSt} {k73 : zSt → Int32 → Int32 → Int32 → Int32 → Int32 → Int32 → Int32 → Option (zSt)} (hk73 : ∀ (y0 : zSt) (y1 : Int32) (y2 : Int32) (y3 : Int32) (y4 : Int32) (y5 : Int32) (y6 : Int32) (y7 : Int32), zKeM σ0 y0 → zpc (k73 y0 y1 y2 y3 y4 y5 y6 y7) (fun r => zKeM σ0 (r))) : ∀ (n : Nat) (y0 : zSt) (y1 : Int32) (y2 : Int32) (y3 : Int32) (y4 : Int32) (y5 : Int32) (y6 : Int32) (y7 : Int32) (y8 : Int32) (y9 : Int32) (y10 : Int32) (y11 : Int32), zKeM σ0 y0 → zpc (fX12_sprites_250 k73 n y0 y1 y2 y3 y4 y5 y6 y7 y8 y9 y10 y11) (fun r => zKeM σ0 (r)) := by
  intro n
  induction n with
  | zero => intro y0 y1 y2 y3 y4 y5 y6 y7 y8 y9 y10 y11 h; exact zpc_none
  | succ n ih => intro y0 y1 y2 y3 y4 y5 y6 y7 y8 y9 y10 y11 h; exact w_fX12_sprites_250_body hk73 ih h
theorem w_fX12_sprites_244 {σ0 : zSt} {k73 : zSt → Int32 → Int32 → Int32 → Int32 → Int32 → Int32 → Int32 → Option (zSt)} (hk73 : ∀ (y0 : zSt) (y1 : Int32) (y2 : Int32) (y3 : Int32) (y4 : Int32) (y5 : Int32) (y6 : Int32) (y7 : Int32), zKeM σ0 y0 → zpc (k73 y0 y1 y2 y3 y4 y5 y6 y7) (fun r => zKeM σ0 (r))) {σ : zSt} {x1 : Int32} {x2 : Int32} {x3 : Int32} {x4 : Int32} {x5 : Int32} {x6 : Int32} {x7 : Int32} {x9 : Int32} {x10 : Int32} {s0 : Int32} {s1 : Int32} (h : zKeM σ0 σ) : zpc (fX12_sprites_244 k73 σ x1 x2 x3 x4 x5 x6 x7 x9 x10 s0 s1) (fun r => zKeM σ0 (r)) := by
  unfold fX12_sprites_244
  exact zpc_bv (fun v8 _ => w_fX12_sprites_250 hk73 _ _ _ _ _ _ _ _ _ _ _ _ _ h)
theorem w_fX12_sprites_212 {σ0 : zSt} {k73 : zSt → Int32 → Int32 → Int32 → Int32 → Int32 → Int32 → Int32 → Option (zSt)} (hk73 : ∀ (y0 : zSt) (y1 : Int32) (y2 : Int32) (y3 : Int32) (y4 : Int32) (y5 : Int32) (y6 : Int32) (y7 : Int32), zKeM σ0 y0 → zpc (k73 y0 y1 y2 y3 y4 y5 y6 y7) (fun r => zKeM σ0 (r))) {σ : zSt} {x1 : Int32} {x2 : Int32} {x3 : Int32} {x4 : Int32} {x5 : Int32} {x6 : Int32} {x7 : Int32} {x9 : Int32} {s0 : Int32} (h : zKeM σ0 σ) : zpc (fX12_sprites_212 k73 σ x1 x2 x3 x4 x5 x6 x7 x9 s0) (fun r => zKeM σ0 (r)) := by
  unfold fX12_sprites_212
  exact zpc_bi (w_fX12_video8 h) (fun σ9 v10 hσ9 => zpc_bi (w_fX12_bit hσ9) (fun σ11 v12 hσ11 => zpc_if (fun _ => w_fX12_sprites_244 hk73 hσ11) (fun _ => w_fX12_sprites_244 hk73 hσ11)))
theorem w_fX12_sprites_183 {σ0 : zSt} {k73 : zSt → Int32 → Int32 → Int32 → Int32 → Int32 → Int32 → Int32 → Option (zSt)} (hk73 : ∀ (y0 : zSt) (y1 : Int32) (y2 : Int32) (y3 : Int32) (y4 : Int32) (y5 : Int32) (y6 : Int32) (y7 : Int32), zKeM σ0 y0 → zpc (k73 y0 y1 y2 y3 y4 y5 y6 y7) (fun r => zKeM σ0 (r))) {σ : zSt} {x1 : Int32} {x2 : Int32} {x3 : Int32} {x4 : Int32} {x5 : Int32} {x6 : Int32} {x7 : Int32} {x9 : Int32} {s0 : Int32} {s1 : Int32} (h : zKeM σ0 σ) : zpc (fX12_sprites_183 k73 σ x1 x2 x3 x4 x5 x6 x7 x9 s0 s1) (fun r => zKeM σ0 (r)) := by
  unfold fX12_sprites_183
  exact zpc_bv (fun v13 _ => zpc_if (fun _ => zpc_ck (zpc_ck (w_fX12_sprites_212 hk73 h))) (fun _ => w_fX12_sprites_212 hk73 h))
theorem w_fX12_sprites_104 {σ0 : zSt} {k73 : zSt → Int32 → Int32 → Int32 → Int32 → Int32 → Int32 → Int32 → Option (zSt)} (hk73 : ∀ (y0 : zSt) (y1 : Int32) (y2 : Int32) (y3 : Int32) (y4 : Int32) (y5 : Int32) (y6 : Int32) (y7 : Int32), zKeM σ0 y0 → zpc (k73 y0 y1 y2 y3 y4 y5 y6 y7) (fun r => zKeM σ0 (r))) {σ : zSt} {x1 : Int32} {x2 : Int32} {x3 : Int32} {x4 : Int32} {x5 : Int32} {x6 : Int32} {x7 : Int32} {x8 : Int32} (h : zKeM σ0 σ) : zpc (fX12_sprites_104 k73 σ x1 x2 x3 x4 x5 x6 x7 x8) (fun r => zKeM σ0 (r)) := by
  unfold fX12_sprites_104
  exact zpc_bv (fun v14 _ => zpc_if (fun _ => zpc_if (fun _ => zpc_ck (zpc_ck (zpc_bs (zKeM.wi h (by decide)) (fun σ20 hσ20 => zpc_some hσ20)))) (fun _ => zpc_bv (fun v15 _ => zpc_bi (w_fX12_video8 h) (fun σ16 v17 hσ16 => zpc_bi (w_fX12_bit hσ16) (fun σ18 v19 hσ18 => zpc_if (fun _ => w_fX12_sprites_183 hk73 hσ18) (fun _ => w_fX12_sprites_183 hk73 hσ18)))))) (fun _ => w_fX12_sprites_349 hk73 h))
theorem w_fX12_sprites_73_body {σ0 : zSt} {k73 : zSt → Int32 → Int32 → Int32 → Int32 → Int32 → Int32 → Int32 → Option (zSt)} (hk73 : ∀ (y0 : zSt) (y1 : Int32) (y2 : Int32) (y3 : Int32) (y4 : Int32) (y5 : Int32) (y6 : Int32) (y7 : Int32), zKeM σ0 y0 → zpc (k73 y0 y1 y2 y3 y4 y5 y6 y7) (fun r => zKeM σ0 (r))) {σ : zSt} {x1 : Int32} {x2 : Int32} {x3 : Int32} {x4 : Int32} {x5 : Int32} {x6 : Int32} {x7 : Int32} (h : zKeM σ0 σ) : zpc (fX12_sprites_73_body k73 σ x1 x2 x3 x4 x5 x6 x7) (fun r => zKeM σ0 (r)) := by
  unfold fX12_sprites_73_body
  exact zpc_if (fun _ => zpc_some h) (fun _ => zpc_bi (w_fX12_video8 h) (fun σ21 v22 hσ21 => zpc_if (fun _ => w_fX12_sprites_104 hk73 hσ21) (fun _ => zpc_if (fun _ => zpc_some hσ21) (fun _ => w_fX12_sprites_104 hk73 hσ21))))
theorem w_fX12_sprites_73 {σ0 : zSt} : ∀ (n : Nat) (y0 : zSt) (y1 : Int32) (y2 : Int32) (y3 : Int32) (y4 : Int32) (y5 : Int32) (y6 : Int32) (y7 : Int32), zKeM σ0 y0 → zpc (fX12_sprites_73 n y0 y1 y2 y3 y4 y5 y6 y7) (fun r => zKeM σ0 (r)) := by
  intro n
  induction n with
  | zero => intro y0 y1 y2 y3 y4 y5 y6 y7 h; exact zpc_none
  | succ n ih => intro y0 y1 y2 y3 y4 y5 y6 y7 h; exact w_fX12_sprites_73_body ih h
theorem w_fX12_sprites_68 {σ0 : zSt} {σ : zSt} {x1 : Int32} {x2 : Int32} {x3 : Int32} {x4 : Int32} {x5 : Int32} {s0 : Int32} (h : zKeM σ0 σ) : zpc (fX12_sprites_68 σ x1 x2 x3 x4 x5 s0) (fun r => zKeM σ0 (r)) := by
  unfold fX12_sprites_68
  exact w_fX12_sprites_73 _ _ _ _ _ _ _ _ _ h
theorem w_fX12_sprites_48 {σ0 : zSt} {σ : zSt} {x1 : Int32} {x2 : Int32} {x3 : Int32} {s0 : Int32} (h : zKeM σ0 σ) : zpc (fX12_sprites_48 σ x1 x2 x3 s0) (fun r => zKeM σ0 (r)) := by
  unfold fX12_sprites_48
  exact zpc_bi (w_fX12_height h) (fun σ23 v24 hσ23 => zpc_if (fun _ => w_fX12_sprites_68 hσ23) (fun _ => w_fX12_sprites_68 hσ23))
theorem w_fX12_sprites_30 {σ0 : zSt} {σ : zSt} {x1 : Int32} {x2 : Int32} {s0 : Int32} (h : zKeM σ0 σ) : zpc (fX12_sprites_30 σ x1 x2 s0) (fun r => zKeM σ0 (r)) := by
  unfold fX12_sprites_30
  exact zpc_bi (w_fX12_bit h) (fun σ25 v26 hσ25 => zpc_if (fun _ => w_fX12_sprites_48 hσ25) (fun _ => w_fX12_sprites_48 hσ25))
theorem w_fX12_sprites {σ0 : zSt} {σ : zSt} {x1 : Int32} (h : zKeM σ0 σ) : zpc (fX12_sprites σ x1) (fun r => zKeM σ0 (r)) := by
  unfold fX12_sprites
  exact zpc_bi (w_fX12_reg h) (fun σ27 v28 hσ27 => zpc_ck (zpc_ck (zpc_bv (fun v29 _ => zpc_bi (w_fX12_bit hσ27) (fun σ30 v31 hσ30 => zpc_if (fun _ => w_fX12_sprites_30 hσ30) (fun _ => w_fX12_sprites_30 hσ30))))))
theorem w_fX12_colour_62 {σ0 : zSt} {σ : zSt} {s0 : Int32} (h : zKeM σ0 σ) : zpc (fX12_colour_62 σ s0) (fun r => zKeM σ0 (r.1)) := by
  unfold fX12_colour_62
  exact zpc_some h
theorem w_fX12_colour_252 {σ0 : zSt} {σ : zSt} {s0 : Int32} (h : zKeM σ0 σ) : zpc (fX12_colour_252 σ s0) (fun r => zKeM σ0 (r.1)) := by
  unfold fX12_colour_252
  exact zpc_some h
theorem w_fX12_colour_217 {σ0 : zSt} {σ : zSt} {x2 : Int32} (h : zKeM σ0 σ) : zpc (fX12_colour_217 σ x2) (fun r => zKeM σ0 (r.1)) := by
  unfold fX12_colour_217
  exact zpc_if (fun _ => zpc_ck (zpc_ck (zpc_ck (zpc_ck (w_fX12_colour_252 h))))) (fun _ => w_fX12_colour_252 h)
theorem w_fX12_colour {σ0 : zSt} {σ : zSt} {x1 : Int32} (h : zKeM σ0 σ) : zpc (fX12_colour σ x1) (fun r => zKeM σ0 (r.1)) := by
  unfold fX12_colour
  exact zpc_bi (w_fX12_mode h) (fun σ1 v2 hσ1 => zpc_if (fun _ => zpc_if (fun _ => zpc_ck (zpc_ck (zpc_ck (w_fX12_colour_62 hσ1)))) (fun _ => zpc_ck (w_fX12_colour_62 hσ1))) (fun _ => zpc_if (fun _ => w_fX12_colour_217 hσ1) (fun _ => zpc_if (fun _ => w_fX12_colour_217 hσ1) (fun _ => zpc_if (fun _ => w_fX12_colour_217 hσ1) (fun _ => zpc_if (fun _ => w_fX12_colour_217 hσ1) (fun _ => zpc_if (fun _ => w_fX12_colour_217 hσ1) (fun _ => zpc_if (fun _ => w_fX12_colour_217 hσ1) (fun _ => zpc_if (fun _ => w_fX12_colour_217 hσ1) (fun _ => zpc_if (fun _ => w_fX12_colour_217 hσ1) (fun _ => zpc_if (fun _ => w_fX12_colour_217 hσ1) (fun _ => zpc_if (fun _ => w_fX12_colour_217 hσ1) (fun _ => zpc_if (fun _ => w_fX12_colour_217 hσ1) (fun _ => zpc_if (fun _ => w_fX12_colour_217 hσ1) (fun _ => zpc_if (fun _ => w_fX12_colour_217 hσ1) (fun _ => zpc_if (fun _ => w_fX12_colour_217 hσ1) (fun _ => w_fX12_colour_217 hσ1))))))))))))))))
theorem w_fX12_old_48 {σ0 : zSt} {σ : zSt} (h : zKeM σ0 σ) : zpc (fX12_old_48 σ) (fun r => zKeM σ0 (r.1)) := by
  unfold fX12_old_48
  exact zpc_some h
theorem w_fX12_old_131 {σ0 : zSt} {σ : zSt} {s0 : Int32} (h : zKeM σ0 σ) : zpc (fX12_old_131 σ s0) (fun r => zKeM σ0 (r.1)) := by
  unfold fX12_old_131
  exact zpc_some h
theorem w_fX12_old_209 {σ0 : zSt} {σ : zSt} {s0 : Int32} (h : zKeM σ0 σ) : zpc (fX12_old_209 σ s0) (fun r => zKeM σ0 (r.1)) := by
  unfold fX12_old_209
  exact zpc_some h
theorem w_fX12_old_395 {σ0 : zSt} {σ : zSt} {s0 : Int32} (h : zKeM σ0 σ) : zpc (fX12_old_395 σ s0) (fun r => zKeM σ0 (r.1)) := by
  unfold fX12_old_395
  exact zpc_some h
theorem w_fX12_old_367 {σ0 : zSt} {σ : zSt} {x2 : Int32} {x6 : Int32} {x7 : Int32} (h : zKeM σ0 σ) : zpc (fX12_old_367 σ x2 x6 x7) (fun r => zKeM σ0 (r.1)) := by
  unfold fX12_old_367
  exact zpc_ck (zpc_if (fun _ => w_fX12_old_395 h) (fun _ => w_fX12_old_395 h))
theorem w_fX12_old {σ0 : zSt} {σ : zSt} {x1 : Int32} {x2 : Int32} (h : zKeM σ0 σ) : zpc (fX12_old σ x1 x2) (fun r => zKeM σ0 (r.1)) := by
  unfold fX12_old
  exact zpc_bi (w_fX12_reg h) (fun σ1 v2 hσ1 => zpc_ck (zpc_bv (fun v3 _ => zpc_bi (w_fX12_reg hσ1) (fun σ4 v5 hσ4 => zpc_ck (zpc_bv (fun v6 _ => zpc_bi (w_fX12_mode hσ4) (fun σ7 v8 hσ7 => zpc_if (fun _ => zpc_if (fun _ => w_fX12_old_48 hσ7) (fun _ => zpc_if (fun _ => zpc_ck (zpc_ck (zpc_bi (w_fX12_video8 hσ7) (fun σ38 v39 hσ38 => zpc_ck (zpc_bi (w_fX12_video8 hσ38) (fun σ40 v41 hσ40 => zpc_ck (zpc_bv (fun v42 _ => zpc_if (fun _ => zpc_bi (w_fX12_reg hσ40) (fun σ45 v46 hσ45 => w_fX12_old_131 hσ45)) (fun _ => zpc_bi (w_fX12_reg hσ40) (fun σ43 v44 hσ43 => w_fX12_old_131 hσ43)))))))))) (fun _ => w_fX12_old_48 hσ7))) (fun _ => zpc_ck (zpc_ck (zpc_bi (w_fX12_video8 hσ7) (fun σ9 v10 hσ9 => zpc_bi (w_fX12_mode hσ9) (fun σ11 v12 hσ11 => zpc_if (fun _ => zpc_ck (zpc_ck (zpc_ck (zpc_ck (zpc_bi (w_fX12_video8 hσ11) (fun σ36 v37 hσ36 => zpc_ck (zpc_if (fun _ => w_fX12_old_209 hσ36) (fun _ => w_fX12_old_209 hσ36)))))))) (fun _ => zpc_bi (w_fX12_mode hσ11) (fun σ13 v14 hσ13 => zpc_if (fun _ => zpc_ck (zpc_bi (w_fX12_video8 hσ13) (fun σ30 v31 hσ30 => zpc_bi (w_fX12_reg hσ30) (fun σ32 v33 hσ32 => zpc_ck (zpc_bi (w_fX12_video8 hσ32) (fun σ34 v35 hσ34 => w_fX12_old_367 hσ34)))))) (fun _ => zpc_ck (zpc_bv (fun v15 _ => zpc_bi (w_fX12_reg hσ13) (fun σ16 v17 hσ16 => zpc_ck (zpc_bv (fun v18 _ => zpc_bi (w_fX12_reg hσ16) (fun σ19 v20 hσ19 => zpc_ck (zpc_bv (fun v21 _ => zpc_bi (w_fX12_bit hσ19) (fun σ22 v23 hσ22 => zpc_ck (zpc_bi (w_fX12_video8 hσ22) (fun σ24 v25 hσ24 => zpc_bi (w_fX12_bit hσ24) (fun σ26 v27 hσ26 => zpc_ck (zpc_bi (w_fX12_video8 hσ26) (fun σ28 v29 hσ28 => w_fX12_old_367 hσ28)))))))))))))))))))))))))))))
theorem w_fX12_oldSprites_388 {σ0 : zSt} {k40 : zSt → Int32 → Int32 → Int32 → Int32 → Int32 → Option (zSt)} (hk40 : ∀ (y0 : zSt) (y1 : Int32) (y2 : Int32) (y3 : Int32) (y4 : Int32) (y5 : Int32), zKeM σ0 y0 → zpc (k40 y0 y1 y2 y3 y4 y5) (fun r => zKeM σ0 (r))) {σ : zSt} {x1 : Int32} {x2 : Int32} {x3 : Int32} {x4 : Int32} {x5 : Int32} (h : zKeM σ0 σ) : zpc (fX12_oldSprites_388 k40 σ x1 x2 x3 x4 x5) (fun r => zKeM σ0 (r)) := by
  unfold fX12_oldSprites_388
  exact zpc_bv (fun v1 _ => hk40 _ _ _ _ _ _ h)
theorem w_fX12_oldSprites_150 {σ0 : zSt} {σ : zSt} (h : zKeM σ0 σ) : zpc (fX12_oldSprites_150 σ) (fun r => zKeM σ0 (r)) := by
  unfold fX12_oldSprites_150
  exact zpc_some h
theorem w_fX12_oldSprites_382 {σ0 : zSt} {k40 : zSt → Int32 → Int32 → Int32 → Int32 → Int32 → Option (zSt)} (hk40 : ∀ (y0 : zSt) (y1 : Int32) (y2 : Int32) (y3 : Int32) (y4 : Int32) (y5 : Int32), zKeM σ0 y0 → zpc (k40 y0 y1 y2 y3 y4 y5) (fun r => zKeM σ0 (r))) {k231 : zSt → Int32 → Int32 → Int32 → Int32 → Int32 → Int32 → Int32 → Int32 → Int32 → Int32 → Option (zSt)} (hk231 : ∀ (y0 : zSt) (y1 : Int32) (y2 : Int32) (y3 : Int32) (y4 : Int32) (y5 : Int32) (y6 : Int32) (y7 : Int32) (y8 : Int32) (y9 : Int32) (y10 : Int32), zKeM σ0 y0 → zpc (k231 y0 y1 y2 y3 y4 y5 y6 y7 y8 y9 y10) (fun r => zKeM σ0 (r))) {σ : zSt} {x1 : Int32} {x2 : Int32} {x3 : Int32} {x4 : Int32} {x5 : Int32} {x8 : Int32} {x9 : Int32} {x10 : Int32} {x11 : Int32} {x12 : Int32} (h : zKeM σ0 σ) : zpc (fX12_oldSprites_382 k40 k231 σ x1 x2 x3 x4 x5 x8 x9 x10 x11 x12) (fun r => zKeM σ0 (r)) := by
  unfold fX12_oldSprites_382
  exact zpc_bv (fun v2 _ => hk231 _ _ _ _ _ _ _ _ _ _ _ h)
theorem w_fX12_oldSprites_350 {σ0 : zSt} {k40 : zSt → Int32 → Int32 → Int32 → Int32 → Int32 → Option (zSt)} (hk40 : ∀ (y0 : zSt) (y1 : Int32) (y2 : Int32) (y3 : Int32) (y4 : Int32) (y5 : Int32), zKeM σ0 y0 → zpc (k40 y0 y1 y2 y3 y4 y5) (fun r => zKeM σ0 (r))) {k231 : zSt → Int32 → Int32 → Int32 → Int32 → Int32 → Int32 → Int32 → Int32 → Int32 → Int32 → Option (zSt)} (hk231 : ∀ (y0 : zSt) (y1 : Int32) (y2 : Int32) (y3 : Int32) (y4 : Int32) (y5 : Int32) (y6 : Int32) (y7 : Int32) (y8 : Int32) (y9 : Int32) (y10 : Int32), zKeM σ0 y0 → zpc (k231 y0 y1 y2 y3 y4 y5 y6 y7 y8 y9 y10) (fun r => zKeM σ0 (r))) {σ : zSt} {x1 : Int32} {x2 : Int32} {x3 : Int32} {x4 : Int32} {x5 : Int32} {x8 : Int32} {x9 : Int32} {x10 : Int32} {x11 : Int32} {x12 : Int32} {x15 : Int32} (h : zKeM σ0 σ) : zpc (fX12_oldSprites_350 k40 k231 σ x1 x2 x3 x4 x5 x8 x9 x10 x11 x12 x15) (fun r => zKeM σ0 (r)) := by
  unfold fX12_oldSprites_350
  exact zpc_ck (zpc_bs (zKeM.wi h (by decide)) (fun σ3 hσ3 => zpc_if (fun _ => w_fX12_oldSprites_382 hk40 hk231 hσ3) (fun _ => zpc_ck (zpc_if (fun _ => zpc_ck (zpc_bs (zKeM.wi hσ3 (by decide)) (fun σ4 hσ4 => w_fX12_oldSprites_382 hk40 hk231 hσ4))) (fun _ => w_fX12_oldSprites_382 hk40 hk231 hσ3)))))
theorem w_fX12_oldSprites_283 {σ0 : zSt} {k40 : zSt → Int32 → Int32 → Int32 → Int32 → Int32 → Option (zSt)} (hk40 : ∀ (y0 : zSt) (y1 : Int32) (y2 : Int32) (y3 : Int32) (y4 : Int32) (y5 : Int32), zKeM σ0 y0 → zpc (k40 y0 y1 y2 y3 y4 y5) (fun r => zKeM σ0 (r))) {k231 : zSt → Int32 → Int32 → Int32 → Int32 → Int32 → Int32 → Int32 → Int32 → Int32 → Int32 → Option (zSt)} (hk231 : ∀ (y0 : zSt) (y1 : Int32) (y2 : Int32) (y3 : Int32) (y4 : Int32) (y5 : Int32) (y6 : Int32) (y7 : Int32) (y8 : Int32) (y9 : Int32) (y10 : Int32), zKeM σ0 y0 → zpc (k231 y0 y1 y2 y3 y4 y5 y6 y7 y8 y9 y10) (fun r => zKeM σ0 (r))) {σ : zSt} {x1 : Int32} {x2 : Int32} {x3 : Int32} {x4 : Int32} {x5 : Int32} {x8 : Int32} {x9 : Int32} {x10 : Int32} {x11 : Int32} {x12 : Int32} {x13 : Int32} {s0 : Int32} {s1 : Int32} (h : zKeM σ0 σ) : zpc (fX12_oldSprites_283 k40 k231 σ x1 x2 x3 x4 x5 x8 x9 x10 x11 x12 x13 s0 s1) (fun r => zKeM σ0 (r)) := by
  unfold fX12_oldSprites_283
  exact zpc_bi (w_fX12_video8 h) (fun σ5 v6 hσ5 => zpc_ck (zpc_bv (fun v7 _ => zpc_bv (fun v8 _ => zpc_if (fun _ => w_fX12_oldSprites_382 hk40 hk231 hσ5) (fun _ => zpc_if (fun _ => w_fX12_oldSprites_382 hk40 hk231 hσ5) (fun _ => zpc_if (fun _ => zpc_ck (zpc_if (fun _ => w_fX12_oldSprites_350 hk40 hk231 hσ5) (fun _ => zpc_ck (zpc_ck (zpc_bs (zKeM.wi hσ5 (by decide)) (fun σ9 hσ9 => w_fX12_oldSprites_350 hk40 hk231 hσ9)))))) (fun _ => w_fX12_oldSprites_382 hk40 hk231 hσ5)))))))
theorem w_fX12_oldSprites_231_body {σ0 : zSt} {k40 : zSt → Int32 → Int32 → Int32 → Int32 → Int32 → Option (zSt)} (hk40 : ∀ (y0 : zSt) (y1 : Int32) (y2 : Int32) (y3 : Int32) (y4 : Int32) (y5 : Int32), zKeM σ0 y0 → zpc (k40 y0 y1 y2 y3 y4 y5) (fun r => zKeM σ0 (r))) {k231 : zSt → Int32 → Int32 → Int32 → Int32 → Int32 → Int32 → Int32 → Int32 → Int32 → Int32 → Option (zSt)} (hk231 : ∀ (y0 : zSt) (y1 : Int32) (y2 : Int32) (y3 : Int32) (y4 : Int32) (y5 : Int32) (y6 : Int32) (y7 : Int32) (y8 : Int32) (y9 : Int32) (y10 : Int32), zKeM σ0 y0 → zpc (k231 y0 y1 y2 y3 y4 y5 y6 y7 y8 y9 y10) (fun r => zKeM σ0 (r))) {σ : zSt} {x1 : Int32} {x2 : Int32} {x3 : Int32} {x4 : Int32} {x5 : Int32} {x8 : Int32} {x9 : Int32} {x10 : Int32} {x11 : Int32} {x12 : Int32} (h : zKeM σ0 σ) : zpc (fX12_oldSprites_231_body k40 k231 σ x1 x2 x3 x4 x5 x8 x9 x10 x11 x12) (fun r => zKeM σ0 (r)) := by
  unfold fX12_oldSprites_231_body
  exact zpc_if (fun _ => w_fX12_oldSprites_388 hk40 h) (fun _ => zpc_ck (zpc_bv (fun v10 _ => zpc_bi (w_fX12_reg h) (fun σ11 v12 hσ11 => zpc_ck (zpc_ck (zpc_if (fun _ => w_fX12_oldSprites_283 hk40 hk231 hσ11) (fun _ => w_fX12_oldSprites_283 hk40 hk231 hσ11)))))))
theorem w_fX12_oldSprites_231 {σ0 : zSt} {k40 : zSt → Int32 → Int32 → Int32 → Int32 → Int32 → Option (zSt)} (hk40 : ∀ (y0 : zSt) (y1 : Int32) (y2 : Int32) (y3 : Int32) (y4 : Int32) (y5 : Int32), zKeM σ0 y0 → zpc (k40 y0 y1 y2 y3 y4 y5) (fun r => zKeM σ0 (r))) : ∀ (n : Nat) (y0 : zSt) (y1 : Int32) (y2 : Int32) (y3 : Int32) (y4 : Int32) (y5 : Int32) (y6 : Int32) (y7 : Int32) (y8 : Int32) (y9 : Int32) (y10 : Int32), zKeM σ0 y0 → zpc (fX12_oldSprites_231 k40 n y0 y1 y2 y3 y4 y5 y6 y7 y8 y9 y10) (fun r => zKeM σ0 (r)) := by
  intro n
  induction n with
  | zero => intro y0 y1 y2 y3 y4 y5 y6 y7 y8 y9 y10 h; exact zpc_none
  | succ n ih => intro y0 y1 y2 y3 y4 y5 y6 y7 y8 y9 y10 h; exact w_fX12_oldSprites_231_body hk40 ih h
theorem w_fX12_oldSprites_225 {σ0 : zSt} {k40 : zSt → Int32 → Int32 → Int32 → Int32 → Int32 → Option (zSt)} (hk40 : ∀ (y0 : zSt) (y1 : Int32) (y2 : Int32) (y3 : Int32) (y4 : Int32) (y5 : Int32), zKeM σ0 y0 → zpc (k40 y0 y1 y2 y3 y4 y5) (fun r => zKeM σ0 (r))) {σ : zSt} {x1 : Int32} {x2 : Int32} {x3 : Int32} {x4 : Int32} {x5 : Int32} {x8 : Int32} {x9 : Int32} {x10 : Int32} {s0 : Int32} {s1 : Int32} (h : zKeM σ0 σ) : zpc (fX12_oldSprites_225 k40 σ x1 x2 x3 x4 x5 x8 x9 x10 s0 s1) (fun r => zKeM σ0 (r)) := by
  unfold fX12_oldSprites_225
  exact zpc_bv (fun v13 _ => w_fX12_oldSprites_231 hk40 _ _ _ _ _ _ _ _ _ _ _ _ h)
theorem w_fX12_oldSprites_183 {σ0 : zSt} {k40 : zSt → Int32 → Int32 → Int32 → Int32 → Int32 → Option (zSt)} (hk40 : ∀ (y0 : zSt) (y1 : Int32) (y2 : Int32) (y3 : Int32) (y4 : Int32) (y5 : Int32), zKeM σ0 y0 → zpc (k40 y0 y1 y2 y3 y4 y5) (fun r => zKeM σ0 (r))) {σ : zSt} {x1 : Int32} {x2 : Int32} {x3 : Int32} {x4 : Int32} {x5 : Int32} {x6 : Int32} {x8 : Int32} {s0 : Int32} (h : zKeM σ0 σ) : zpc (fX12_oldSprites_183 k40 σ x1 x2 x3 x4 x5 x6 x8 s0) (fun r => zKeM σ0 (r)) := by
  unfold fX12_oldSprites_183
  exact zpc_bi (w_fX12_video8 h) (fun σ14 v15 hσ14 => zpc_bv (fun v16 _ => zpc_bi (w_fX12_video8 hσ14) (fun σ17 v18 hσ17 => zpc_bi (w_fX12_video8 hσ17) (fun σ19 v20 hσ19 => zpc_if (fun _ => w_fX12_oldSprites_225 hk40 hσ19) (fun _ => w_fX12_oldSprites_225 hk40 hσ19)))))
theorem w_fX12_oldSprites_40_body {σ0 : zSt} {k40 : zSt → Int32 → Int32 → Int32 → Int32 → Int32 → Option (zSt)} (hk40 : ∀ (y0 : zSt) (y1 : Int32) (y2 : Int32) (y3 : Int32) (y4 : Int32) (y5 : Int32), zKeM σ0 y0 → zpc (k40 y0 y1 y2 y3 y4 y5) (fun r => zKeM σ0 (r))) {σ : zSt} {x1 : Int32} {x2 : Int32} {x3 : Int32} {x4 : Int32} {x5 : Int32} (h : zKeM σ0 σ) : zpc (fX12_oldSprites_40_body k40 σ x1 x2 x3 x4 x5) (fun r => zKeM σ0 (r)) := by
  unfold fX12_oldSprites_40_body
  exact zpc_if (fun _ => zpc_some h) (fun _ => zpc_bi (w_fX12_reg h) (fun σ21 v22 hσ21 => zpc_ck (zpc_bv (fun v23 _ => zpc_bi (w_fX12_video8 hσ21) (fun σ24 v25 hσ24 => zpc_if (fun _ => zpc_some hσ24) (fun _ => zpc_bv (fun v26 _ => zpc_if (fun _ => zpc_if (fun _ => zpc_ck (zpc_if (fun _ => zpc_ck (zpc_ck (zpc_bs (zKeM.wi hσ24 (by decide)) (fun σ32 hσ32 => w_fX12_oldSprites_150 hσ32)))) (fun _ => w_fX12_oldSprites_150 hσ24))) (fun _ => zpc_bv (fun v27 _ => zpc_if (fun _ => zpc_bi (w_fX12_video8 hσ24) (fun σ30 v31 hσ30 => w_fX12_oldSprites_183 hk40 hσ30)) (fun _ => zpc_bi (w_fX12_video8 hσ24) (fun σ28 v29 hσ28 => w_fX12_oldSprites_183 hk40 hσ28))))) (fun _ => w_fX12_oldSprites_388 hk40 hσ24))))))))
theorem w_fX12_oldSprites_40 {σ0 : zSt} : ∀ (n : Nat) (y0 : zSt) (y1 : Int32) (y2 : Int32) (y3 : Int32) (y4 : Int32) (y5 : Int32), zKeM σ0 y0 → zpc (fX12_oldSprites_40 n y0 y1 y2 y3 y4 y5) (fun r => zKeM σ0 (r)) := by
  intro n
  induction n with
  | zero => intro y0 y1 y2 y3 y4 y5 h; exact zpc_none
  | succ n ih => intro y0 y1 y2 y3 y4 y5 h; exact w_fX12_oldSprites_40_body ih h
theorem w_fX12_oldSprites_33 {σ0 : zSt} {σ : zSt} {x1 : Int32} {x2 : Int32} {s0 : Int32} (h : zKeM σ0 σ) : zpc (fX12_oldSprites_33 σ x1 x2 s0) (fun r => zKeM σ0 (r)) := by
  unfold fX12_oldSprites_33
  exact w_fX12_oldSprites_40 _ _ _ _ _ _ _ h
theorem w_fX12_oldSprites_15 {σ0 : zSt} {σ : zSt} {x1 : Int32} {s0 : Int32} (h : zKeM σ0 σ) : zpc (fX12_oldSprites_15 σ x1 s0) (fun r => zKeM σ0 (r)) := by
  unfold fX12_oldSprites_15
  exact zpc_bi (w_fX12_bit h) (fun σ33 v34 hσ33 => zpc_if (fun _ => w_fX12_oldSprites_33 hσ33) (fun _ => w_fX12_oldSprites_33 hσ33))
theorem w_fX12_oldSprites {σ0 : zSt} {σ : zSt} {x1 : Int32} (h : zKeM σ0 σ) : zpc (fX12_oldSprites σ x1) (fun r => zKeM σ0 (r)) := by
  unfold fX12_oldSprites
  exact zpc_bi (w_fX12_bit h) (fun σ35 v36 hσ35 => zpc_if (fun _ => w_fX12_oldSprites_15 hσ35) (fun _ => w_fX12_oldSprites_15 hσ35))
theorem w_fX12_draws_302_body {σ0 : zSt} {k302 : zSt → Int32 → Int32 → Option (zSt)} (hk302 : ∀ (y0 : zSt) (y1 : Int32) (y2 : Int32), zKeM σ0 y0 → zpc (k302 y0 y1 y2) (fun r => zKeM σ0 (r))) {σ : zSt} {x1 : Int32} {x3 : Int32} (h : zKeM σ0 σ) : zpc (fX12_draws_302_body k302 σ x1 x3) (fun r => zKeM σ0 (r)) := by
  unfold fX12_draws_302_body
  exact zpc_if (fun _ => zpc_some h) (fun _ => zpc_ck (zpc_bi (w_fX12_colour h) (fun σ1 v2 hσ1 => zpc_ck (zpc_bs (zKeM.wi hσ1 (by decide)) (fun σ3 hσ3 => zpc_bv (fun v4 _ => hk302 _ _ _ hσ3))))))
theorem w_fX12_draws_302 {σ0 : zSt} : ∀ (n : Nat) (y0 : zSt) (y1 : Int32) (y2 : Int32), zKeM σ0 y0 → zpc (fX12_draws_302 n y0 y1 y2) (fun r => zKeM σ0 (r)) := by
  intro n
  induction n with
  | zero => intro y0 y1 y2 h; exact zpc_none
  | succ n ih => intro y0 y1 y2 h; exact w_fX12_draws_302_body ih h
theorem w_fX12_draws_300 {σ0 : zSt} {σ : zSt} {x1 : Int32} (h : zKeM σ0 σ) : zpc (fX12_draws_300 σ x1) (fun r => zKeM σ0 (r)) := by
  unfold fX12_draws_300
  exact w_fX12_draws_302 _ _ _ _ h
theorem w_fX12_draws_244 {σ0 : zSt} {k213 : zSt → Int32 → Int32 → Int32 → Option (zSt)} (hk213 : ∀ (y0 : zSt) (y1 : Int32) (y2 : Int32) (y3 : Int32), zKeM σ0 y0 → zpc (k213 y0 y1 y2 y3) (fun r => zKeM σ0 (r))) {σ : zSt} {x1 : Int32} {x2 : Int32} {x3 : Int32} {s0 : Int32} {s1 : Int32} (h : zKeM σ0 σ) : zpc (fX12_draws_244 k213 σ x1 x2 x3 s0 s1) (fun r => zKeM σ0 (r)) := by
  unfold fX12_draws_244
  exact zpc_ck (zpc_bs (zKeM.wi h (by decide)) (fun σ5 hσ5 => zpc_bv (fun v6 _ => hk213 _ _ _ _ hσ5)))
theorem w_fX12_draws_294 {σ0 : zSt} {k266 : zSt → Int32 → Int32 → Option (zSt)} (hk266 : ∀ (y0 : zSt) (y1 : Int32) (y2 : Int32), zKeM σ0 y0 → zpc (k266 y0 y1 y2) (fun r => zKeM σ0 (r))) {σ : zSt} {x1 : Int32} {x3 : Int32} (h : zKeM σ0 σ) : zpc (fX12_draws_294 k266 σ x1 x3) (fun r => zKeM σ0 (r)) := by
  unfold fX12_draws_294
  exact zpc_bv (fun v7 _ => hk266 _ _ _ h)
theorem w_fX12_draws_266_body {σ0 : zSt} {k266 : zSt → Int32 → Int32 → Option (zSt)} (hk266 : ∀ (y0 : zSt) (y1 : Int32) (y2 : Int32), zKeM σ0 y0 → zpc (k266 y0 y1 y2) (fun r => zKeM σ0 (r))) {σ : zSt} {x1 : Int32} {x3 : Int32} (h : zKeM σ0 σ) : zpc (fX12_draws_266_body k266 σ x1 x3) (fun r => zKeM σ0 (r)) := by
  unfold fX12_draws_266_body
  exact zpc_if (fun _ => w_fX12_draws_300 h) (fun _ => zpc_ck (zpc_if (fun _ => w_fX12_draws_294 hk266 h) (fun _ => zpc_ck (zpc_ck (zpc_bs (zKeM.wi h (by decide)) (fun σ8 hσ8 => w_fX12_draws_294 hk266 hσ8))))))
theorem w_fX12_draws_266 {σ0 : zSt} : ∀ (n : Nat) (y0 : zSt) (y1 : Int32) (y2 : Int32), zKeM σ0 y0 → zpc (fX12_draws_266 n y0 y1 y2) (fun r => zKeM σ0 (r)) := by
  intro n
  induction n with
  | zero => intro y0 y1 y2 h; exact zpc_none
  | succ n ih => intro y0 y1 y2 h; exact w_fX12_draws_266_body ih h
theorem w_fX12_draws_264 {σ0 : zSt} {σ : zSt} {x1 : Int32} (h : zKeM σ0 σ) : zpc (fX12_draws_264 σ x1) (fun r => zKeM σ0 (r)) := by
  unfold fX12_draws_264
  exact w_fX12_draws_266 _ _ _ _ h
theorem w_fX12_draws_213_body {σ0 : zSt} {k213 : zSt → Int32 → Int32 → Int32 → Option (zSt)} (hk213 : ∀ (y0 : zSt) (y1 : Int32) (y2 : Int32) (y3 : Int32), zKeM σ0 y0 → zpc (k213 y0 y1 y2 y3) (fun r => zKeM σ0 (r))) {σ : zSt} {x1 : Int32} {x2 : Int32} {x3 : Int32} (h : zKeM σ0 σ) : zpc (fX12_draws_213_body k213 σ x1 x2 x3) (fun r => zKeM σ0 (r)) := by
  unfold fX12_draws_213_body
  exact zpc_if (fun _ => zpc_bi (w_fX12_mode h) (fun σ9 v10 hσ9 => zpc_if (fun _ => w_fX12_draws_264 hσ9) (fun _ => zpc_bu (w_fX12_oldSprites hσ9) (fun σ11 hσ11 => w_fX12_draws_264 hσ11)))) (fun _ => zpc_bi (w_fX12_old h) (fun σ12 v13 hσ12 => zpc_if (fun _ => w_fX12_draws_244 hk213 hσ12) (fun _ => w_fX12_draws_244 hk213 hσ12)))
theorem w_fX12_draws_213 {σ0 : zSt} : ∀ (n : Nat) (y0 : zSt) (y1 : Int32) (y2 : Int32) (y3 : Int32), zKeM σ0 y0 → zpc (fX12_draws_213 n y0 y1 y2 y3) (fun r => zKeM σ0 (r)) := by
  intro n
  induction n with
  | zero => intro y0 y1 y2 y3 h; exact zpc_none
  | succ n ih => intro y0 y1 y2 y3 h; exact w_fX12_draws_213_body ih h
theorem w_fX12_draws_200 {σ0 : zSt} {σ : zSt} {x1 : Int32} {x2 : Int32} (h : zKeM σ0 σ) : zpc (fX12_draws_200 σ x1 x2) (fun r => zKeM σ0 (r)) := by
  unfold fX12_draws_200
  exact zpc_bi (w_fX12_bit h) (fun σ14 v15 hσ14 => zpc_if (fun _ => w_fX12_draws_213 _ _ _ _ _ hσ14) (fun _ => w_fX12_draws_300 hσ14))
theorem w_fX12_draws_160 {σ0 : zSt} {k123 : zSt → Int32 → Int32 → Int32 → Option (zSt)} (hk123 : ∀ (y0 : zSt) (y1 : Int32) (y2 : Int32) (y3 : Int32), zKeM σ0 y0 → zpc (k123 y0 y1 y2 y3) (fun r => zKeM σ0 (r))) {σ : zSt} {x1 : Int32} {x2 : Int32} {x3 : Int32} (h : zKeM σ0 σ) : zpc (fX12_draws_160 k123 σ x1 x2 x3) (fun r => zKeM σ0 (r)) := by
  unfold fX12_draws_160
  exact zpc_bv (fun v16 _ => hk123 _ _ _ _ h)
theorem w_fX12_draws_197 {σ0 : zSt} {σ : zSt} {x1 : Int32} (h : zKeM σ0 σ) : zpc (fX12_draws_197 σ x1) (fun r => zKeM σ0 (r)) := by
  unfold fX12_draws_197
  exact w_fX12_draws_300 h
theorem w_fX12_draws_168_body {σ0 : zSt} {k168 : zSt → Int32 → Int32 → Int32 → Option (zSt)} (hk168 : ∀ (y0 : zSt) (y1 : Int32) (y2 : Int32) (y3 : Int32), zKeM σ0 y0 → zpc (k168 y0 y1 y2 y3) (fun r => zKeM σ0 (r))) {σ : zSt} {x1 : Int32} {x2 : Int32} {x3 : Int32} (h : zKeM σ0 σ) : zpc (fX12_draws_168_body k168 σ x1 x2 x3) (fun r => zKeM σ0 (r)) := by
  unfold fX12_draws_168_body
  exact zpc_if (fun _ => w_fX12_draws_197 h) (fun _ => zpc_bi (w_fX12_bit h) (fun σ17 v18 hσ17 => zpc_if (fun _ => zpc_ck (zpc_bs (zKeM.wi hσ17 (by decide)) (fun σ19 hσ19 => zpc_bv (fun v20 _ => hk168 _ _ _ _ hσ19)))) (fun _ => w_fX12_draws_197 hσ17)))
