/-! RANGES OF THE CLASS'S CELLS, BY A TABLE -/
theorem z_an1 (x : Int32) : x &&& (-1) = x := by
  refine Int32.toBitVec_inj.1 ?_
  rw [Int32.toBitVec_and]
  exact BitVec.and_allOnes
def zGt : List (Nat × Nat × Nat × Int × Int) := [(23, 0, 11, 0, 255), (23, 11, 1, 0, 16383), (23, 12, 1, 0, 3), (23, 13, 1, 0, 255), (23, 14, 1, 0, 1), (23, 15, 1, 0, 255), (23, 16, 1, 0, 1), (23, 18, 1, -1, 255), (23, 19, 1, 0, 255), (23, 20, 1, 0, 312), (23, 21, 1, 0, 227), (23, 26, 1, 0, 255), (34, 0, 7, 0, 255), (34, 7, 2, 0, 63), (34, 9, 3, 0, 1), (30, 0, 3, 0, 1023), (30, 9, 4, 0, 15), (30, 13, 1, 0, 7), (30, 17, 1, 0, 7), (30, 18, 1, 0, 255), (32, 0, 64, 0, 255), (32, 64, 1, 0, 3), (32, 68, 1, 0, 63), (40, 8, 1, 0, 8)]
def zGf (k j : Nat) : List (Nat × Nat × Nat × Int × Int) → Option (Int × Int)
  | [] => none
  | t :: l => bif (Nat.beq t.1 k && (Nat.ble t.2.1 j && Nat.blt j (t.2.1 + t.2.2.1))) then some t.2.2.2 else zGf k j l
def zGo (k j : Nat) (v : Int32) : Prop := ∀ a b : Int, zGf k j zGt = some (a, b) → zr a b v
def zG (σ : zSt) : Prop := ∀ k j : Nat, zGo k j (σ.1 k j)
theorem zGo.n {k j : Nat} {v : Int32} (e : zGf k j zGt = none) : zGo k j v := fun a b q => by
  rw [e] at q
  cases q
theorem zGo.r {k j : Nat} {a b : Int} {v : Int32} (e : zGf k j zGt = some (a, b)) (h : zr a b v) : zGo k j v := fun c d q => by
  rw [e] at q
  cases q
  exact h
theorem zG.at {σ : zSt} (h : zG σ) {k j : Nat} {a b : Int} (e : zGf k j zGt = some (a, b)) : zr a b (σ.1 k j) := h k j a b e
theorem zG.w {σ : zSt} (h : zG σ) {k j : Nat} {v : Int32} (g : zGo k j v) : zG (zsi σ k j v) := fun x y => by
  rw [zsi_at]
  by_cases q : x = k ∧ y = j
  · rw [if_pos q, q.1, q.2]
    exact g
  · rw [if_neg q]
    exact h x y
theorem zg_23r : ∀ j : Fin 11, zGf 23 j.val zGt = some (0, 255) := by decide +kernel
theorem zg_23c : ∀ j : Fin 64, zGf 23 (32 + j.val) zGt = none := by decide +kernel
theorem zg_34 : ∀ j : Fin 7, zGf 34 j.val zGt = some (0, 255) := by decide +kernel
theorem zg_32 : ∀ j : Fin 64, zGf 32 j.val zGt = some (0, 255) := by decide +kernel
theorem zg_30a : ∀ j : Fin 3, zGf 30 j.val zGt = some (0, 1023) := by decide +kernel
theorem zg_30b : ∀ j : Fin 4, zGf 30 (9 + j.val) zGt = some (0, 15) := by decide +kernel
/-! THE RELATION AROUND THE PROCESSOR -/
def zFr (k j : Nat) : Bool := !(Nat.beq k 0 || (Nat.beq k 2 || (Nat.beq k 3 || Nat.beq k 6))) && !(Nat.beq k 23 && Nat.beq j 20)
def zLn (σ : zSt) : Prop := (σ.1 23 20).toInt < (σ.1 2 1).toInt
def zVe (σ μ : zSt) : Prop := zE σ μ ∧ zG σ ∧ zRk σ μ ∧ zLn σ
theorem zTb_r : (zTb.all (fun t => !(Nat.beq t.2.2.2.1 0))) = true := by decide +kernel
theorem zPn.r0 {k j r i : Nat} {m : Int32} (p : zPn k j r i m) : ¬ r = 0 := fun q => by
  obtain ⟨t, ht, e1, e2, e3, d, hd, e4, e5⟩ := p
  have a := zTb_r
  rw [List.all_eq_true] at a
  have b := a t ht
  rw [e2, q] at b
  exact absurd b (by decide)
theorem zTb_n : (zTb.all (fun t => !(Nat.beq t.1 30 && (Nat.ble t.2.1 16 && Nat.blt 16 (t.2.1 + t.2.2.1))) && !(Nat.beq t.2.2.2.1 3 && (Nat.ble t.2.2.2.2.1 85 && Nat.blt 85 (t.2.2.2.2.1 + t.2.2.1))))) = true := by decide +kernel
theorem zPn.nz {k j r i : Nat} {m : Int32} (p : zPn k j r i m) : ¬ (30 = k ∧ 16 = j) ∧ ¬ (3 = r ∧ 85 = i) := by
  obtain ⟨t, ht, e1, e2, e3, d, hd, e4, e5⟩ := p
  have a := zTb_n
  rw [List.all_eq_true] at a
  have b := a t ht
  rw [Bool.and_eq_true, Bool.not_eq_true', Bool.not_eq_true'] at b
  obtain ⟨b1, b2⟩ := b
  refine ⟨fun q => ?_, fun q => ?_⟩
  · have c : (Nat.beq t.1 30 && (Nat.ble t.2.1 16 && Nat.blt 16 (t.2.1 + t.2.2.1))) = true := by
      rw [Bool.and_eq_true, Bool.and_eq_true]
      exact ⟨by rw [e1, ← q.1]; rfl, Nat.ble_eq.mpr (by have := q.2; omega), Nat.ble_eq.mpr (by have := q.2; omega)⟩
    rw [c] at b1
    cases b1
  · have c : (Nat.beq t.2.2.2.1 3 && (Nat.ble t.2.2.2.2.1 85 && Nat.blt 85 (t.2.2.2.2.1 + t.2.2.1))) = true := by
      rw [Bool.and_eq_true, Bool.and_eq_true]
      exact ⟨by rw [e2, ← q.1]; rfl, Nat.ble_eq.mpr (by have := q.2; omega), Nat.ble_eq.mpr (by have := q.2; omega)⟩
    rw [c] at b2
    cases b2
section ZVP
variable {σ μ s t : zSt}
theorem zsi_no {ν : zSt} {k j k1 j1 : Nat} {v : Int32} (h : ¬ k1 = k) : (zsi ν k j v).1 k1 j1 = ν.1 k1 j1 := by rw [zsi_ne h]
theorem zE.e (h : zE σ μ) {k j r i : Nat} (p : zPn k j r i (-1)) : μ.1 r i = σ.1 k j := by
  have q := h.at p
  rw [z_an1] at q
  exact q
theorem zVe.of (h : zVe σ μ) (a : zE s t) (b : zG s) (c : s.1 0 0 = σ.1 0 0 ∧ s.1 2 0 = σ.1 2 0 ∧ s.1 3 1 = σ.1 3 1 ∧ s.1 6 0 = σ.1 6 0 ∧ s.1 2 1 = σ.1 2 1) (d : t.1 0 3 = μ.1 0 3) (e : s.1 23 20 = σ.1 23 20) : zVe s t := by
  obtain ⟨c1, c2, c3, c4, c5⟩ := c
  refine ⟨a, b, ?_, ?_⟩
  · unfold zRk
    rw [c1, c2, c3, c4, c5, d]
    exact h.2.2.1
  · unfold zLn
    rw [e, c5]
    exact h.2.2.2
theorem zVe.w (h : zVe σ μ) {k j r i : Nat} {m v w : Int32} (p : zPn k j r i m) (f : zFr k j = true) (g : zGo k j v) (e : w &&& m = v) : zVe (zsi σ k j v) (zsi μ r i w) := by
  unfold zFr at f
  rw [Bool.and_eq_true, Bool.not_eq_true', Bool.not_eq_true', Bool.or_eq_false_iff, Bool.or_eq_false_iff, Bool.or_eq_false_iff] at f
  obtain ⟨⟨f0, f2, f3, f6⟩, f4⟩ := f
  have n0 : ¬ 0 = k := fun q => by rw [← q] at f0; exact absurd f0 (by decide)
  have n2 : ¬ 2 = k := fun q => by rw [← q] at f2; exact absurd f2 (by decide)
  have n3 : ¬ 3 = k := fun q => by rw [← q] at f3; exact absurd f3 (by decide)
  have n6 : ¬ 6 = k := fun q => by rw [← q] at f6; exact absurd f6 (by decide)
  refine h.of (h.1.wr p e) (h.2.1.w g) ⟨?_, ?_, ?_, ?_, ?_⟩ ?_ ?_
  · rw [zsi_ne n0]
  · rw [zsi_ne n2]
  · rw [zsi_ne n3]
  · rw [zsi_ne n6]
  · rw [zsi_ne n2]
  · rw [zsi_ne (fun q => p.r0 q.symm)]
  · rw [zsi_at, if_neg]
    intro q
    rw [← q.1, ← q.2] at f4
    exact absurd f4 (by decide)
/-- what the ports may touch -/
def zFC (σ s : zSt) : Prop := zQ [21, 23, 34] [(30, 0, 2), (30, 9, 13), (30, 16, 18), (32, 0, 64), (32, 68, 68)] [] [] σ s
def zFM (μ t : zSt) : Prop := zQ [7, 8] [(3, 33, 65), (3, 68, 71), (3, 78, 82), (3, 85, 86), (3, 98, 163)] [] [] μ t
/-- the noise's row: left alone or set anew on both sides -/
def zNz (σ μ s t : zSt) : Prop := (s.1 30 16 = σ.1 30 16 ∧ t.1 3 85 = μ.1 3 85) ∨ (s.1 30 16 = 32768 ∧ t.1 3 85 = 32768)
def zPo (σ μ s t : zSt) : Prop := zVe s t ∧ zFC σ s ∧ zFM μ t ∧ zNz σ μ s t
theorem zPo.rf (h : zVe σ μ) : zPo σ μ σ μ := ⟨h, zQ.rf, zQ.rf, Or.inl ⟨rfl, rfl⟩⟩
theorem zPo.tr {s' t' : zSt} (h : zPo σ μ s t) (k : zPo s t s' t') : zPo σ μ s' t' := by
  refine ⟨k.1, zQ.tr h.2.1 k.2.1, zQ.tr h.2.2.1 k.2.2.1, ?_⟩
  rcases k.2.2.2 with ⟨a, b⟩ | q
  · rcases h.2.2.2 with ⟨c, d⟩ | ⟨c, d⟩
    · exact Or.inl ⟨a.trans c, b.trans d⟩
    · exact Or.inr ⟨a.trans c, b.trans d⟩
  · exact Or.inr q
theorem zPo.w (h : zPo σ μ s t) {k j r i : Nat} {m v w : Int32} (p : zPn k j r i m) (f : zFr k j = true) (g : zGo k j v) (e : w &&& m = v) (c : zcv [21, 23, 34] [(30, 0, 2), (30, 9, 13), (30, 16, 18), (32, 0, 64), (32, 68, 68)] k j = true) (d : zcv [7, 8] [(3, 33, 65), (3, 68, 71), (3, 78, 82), (3, 85, 86), (3, 98, 163)] r i = true) : zPo σ μ (zsi s k j v) (zsi t r i w) := by
  refine ⟨h.1.w p f g e, zQ.wi h.2.1 c, zQ.wi h.2.2.1 d, ?_⟩
  unfold zNz
  rw [zsi_at, zsi_at, if_neg p.nz.1, if_neg p.nz.2]
  exact h.2.2.2
theorem zPo.w1 (h : zPo σ μ s t) {k j r i : Nat} {v w : Int32} (p : zPn k j r i (-1)) (f : zFr k j = true) (g : zGo k j v) (e : w = v) (c : zcv [21, 23, 34] [(30, 0, 2), (30, 9, 13), (30, 16, 18), (32, 0, 64), (32, 68, 68)] k j = true) (d : zcv [7, 8] [(3, 33, 65), (3, 68, 71), (3, 78, 82), (3, 85, 86), (3, 98, 163)] r i = true) : zPo σ μ (zsi s k j v) (zsi t r i w) := h.w p f g (by rw [z_an1]; exact e) c d
theorem zPo.nz (h : zPo σ μ s t) : zPo σ μ (zsi s 30 16 32768) (zsi t 3 85 32768) := by
  refine ⟨h.1.of ((h.1.1.wc (by decide +kernel)).wm (by decide +kernel)) (h.1.2.1.w (zGo.n rfl)) ⟨zsi_no (by decide), zsi_no (by decide), zsi_no (by decide), zsi_no (by decide), zsi_no (by decide)⟩ (zsi_no (by decide)) (zsi_no (by decide)), zQ.wi h.2.1 rfl, zQ.wi h.2.2.1 rfl, Or.inr ⟨zsi_ej, zsi_ej⟩⟩
theorem zcv_m {R : List Nat} {A : List (Nat × Nat × Nat)} {k j a b : Nat} (m : (k, a, b) ∈ A) (h1 : a ≤ j) (h2 : j ≤ b) : zcv R A k j = true := by
  unfold zcv
  rw [Bool.or_eq_true]
  right
  rw [List.any_eq_true]
  exact ⟨(k, a, b), m, by rw [Bool.and_eq_true, Bool.and_eq_true]; exact ⟨Nat.beq_refl k, Nat.ble_eq.mpr h1, Nat.ble_eq.mpr h2⟩⟩
theorem zPo.v11 (h : zPo σ μ s t) {v w : Int32} (r : zr 0 16383 v) (e : w = v) : zPo σ μ (zsi s 23 11 v) (zsi t 3 58 w) := h.w1 (z_pn23_0 (d := 11) (by decide)) rfl (zGo.r rfl r) e rfl rfl
theorem zPo.v12 (h : zPo σ μ s t) {v w : Int32} (r : zr 0 3 v) (e : w = v) : zPo σ μ (zsi s 23 12 v) (zsi t 3 59 w) := h.w1 (z_pn23_0 (d := 12) (by decide)) rfl (zGo.r rfl r) e rfl rfl
theorem zPo.v13 (h : zPo σ μ s t) {v w : Int32} (r : zr 0 255 v) (e : w = v) : zPo σ μ (zsi s 23 13 v) (zsi t 3 60 w) := h.w1 (z_pn23_0 (d := 13) (by decide)) rfl (zGo.r rfl r) e rfl rfl
theorem zPo.v14 (h : zPo σ μ s t) {v w : Int32} (r : zr 0 1 v) (e : w = v) : zPo σ μ (zsi s 23 14 v) (zsi t 3 61 w) := h.w1 (z_pn23_0 (d := 14) (by decide)) rfl (zGo.r rfl r) e rfl rfl
theorem zPo.v15 (h : zPo σ μ s t) {v w : Int32} (r : zr 0 255 v) (e : w = v) : zPo σ μ (zsi s 23 15 v) (zsi t 3 62 w) := h.w1 (z_pn23_0 (d := 15) (by decide)) rfl (zGo.r rfl r) e rfl rfl
theorem zPo.v16 (h : zPo σ μ s t) {v w : Int32} (r : zr 0 1 v) (e : w = v) : zPo σ μ (zsi s 23 16 v) (zsi t 3 63 w) := h.w1 (z_pn23_0 (d := 16) (by decide)) rfl (zGo.r rfl r) e rfl rfl
theorem zVe.e11 (h : zVe σ μ) : μ.1 3 58 = σ.1 23 11 := h.1.e (z_pn23_0 (d := 11) (by decide))
theorem zVe.e12 (h : zVe σ μ) : μ.1 3 59 = σ.1 23 12 := h.1.e (z_pn23_0 (d := 12) (by decide))
theorem zVe.e13 (h : zVe σ μ) : μ.1 3 60 = σ.1 23 13 := h.1.e (z_pn23_0 (d := 13) (by decide))
theorem zVe.e14 (h : zVe σ μ) : μ.1 3 61 = σ.1 23 14 := h.1.e (z_pn23_0 (d := 14) (by decide))
theorem zVe.e15 (h : zVe σ μ) : μ.1 3 62 = σ.1 23 15 := h.1.e (z_pn23_0 (d := 15) (by decide))
theorem zVe.e16 (h : zVe σ μ) : μ.1 3 63 = σ.1 23 16 := h.1.e (z_pn23_0 (d := 16) (by decide))
theorem t_status (h : zVe σ μ) : zp2 (fX9_readStatus σ ) (fX12_status μ ) (fun r r' => zPo σ μ r.1 r'.1 ∧ r'.2 = r.2 ∧ zr 0 255 r.2) := by
  unfold fX9_readStatus fX12_status
  refine zp2_ckl (zp2_bvl (fun v ev => zp2_ckl (zp2_bvl (fun s1 f1 => zp2_ckl (zp2_bvl (fun s2 f2 => zp2_ckl (zp2_bvl (fun s3 f3 => ?_))))))))
  refine zp2_ckr (zp2_bvr (fun v' ev' => zp2_ckr (zp2_bvr (fun t1 g1 => zp2_ckr (zp2_bvr (fun t2 g2 => zp2_ckr (zp2_bvr (fun t3 g3 => zp2_some ?_))))))))
  have ev : v = σ.1 23 15 := ev
  have ev' : v' = μ.1 3 62 := ev'
  have z0 : zr 0 1 (0 : Int32) := zr_c (by decide)
  have z1 : zr 0 255 (0 : Int32) := zr_c (by decide)
  subst f3
  subst f2
  subst f1
  subst g3
  subst g2
  subst g1
  refine ⟨(((zPo.rf h).v14 z0 rfl).v15 z1 rfl).v16 z0 rfl, ?_, ?_⟩
  · show v' = v
    rw [ev, ev', h.e15]
  · show zr 0 255 v
    rw [ev]
    exact h.2.1.at (k := 23) (j := 15) rfl
theorem z_vr (h : zE σ μ) {j : Nat} (hj : j < 16384) : μ.1 7 j &&& 255 = σ.1 21 j := by
  have q := h.at (z_pn21_0 (d := j) hj)
  rw [Nat.zero_add] at q
  exact q
theorem z_r14 (x : Int32) : zr 0 16383 (x &&& 16383) := zr_andr (lo := 0) (hi := 16383) (zr_c (lo := 16383) (hi := 16383) (by decide)) (by decide)
theorem z_m14 {v : Int32} (h : zr 0 16383 v) : v &&& 16383 = v := Int32.toInt_inj.mp (by rw [z_mask (k := 14) h.1 rfl (by decide)]; have := h.1; have := h.2; show v.toInt % 16384 = _; omega)
/-- one byte ahead -/
theorem t_ahead (h : zVe σ μ) {α β : Type} {Q : α → β → Prop} {f : zSt → Option α} {g : zSt → Option β} (k : ∀ s t, zPo σ μ s t → zp2 (f s) (g t) Q) : zp2 (zbu (fX9_readAhead σ ) f) (zck (zin 58 1048) (zbi (fX12_video8 μ (zgi μ 3 (58 : Int32).toNatClampNeg)) (fun σ3 v4 => zck (zin 60 1048) (zbv (zsi σ3 3 ((60 : Int32).toNatClampNeg) v4) (fun σ5 => zbu (fX12_further σ5 ) g))))) Q := by
  have e11 : μ.1 3 58 = σ.1 23 11 := h.e11
  have r14 := z_r14 (σ.1 23 11)
  have hj : (σ.1 23 11 &&& 16383).toNatClampNeg < 16384 := by
    have := z_clamp r14.1
    have := r14.2
    omega
  have cC : zpc (fX9_readAhead σ ) (fun r => r = zsi (zsi σ 23 13 (σ.1 21 (σ.1 23 11 &&& 16383).toNatClampNeg)) 23 11 ((σ.1 23 11 + 1) &&& 16383)) := by
    unfold fX9_readAhead
    exact zpc_ck (zpc_ck (zpc_ck (zpc_bv (fun s1 f1 => zpc_ck (zpc_ck (zpc_bv (fun s2 f2 => zpc_some (by rw [f2, f1]; rfl))))))))
  refine zp2_bul cC (fun s es => zp2_ckr ?_)
  rw [show zgi μ 3 (58 : Int32).toNatClampNeg = σ.1 23 11 from e11]
  unfold fX12_video8 fX12_further
  refine zp2_bir (P := fun r => r = (μ, σ.1 21 (σ.1 23 11 &&& 16383).toNatClampNeg)) (zpc_ck (zpc_some (by rw [← z_vr h.1 hj]; rfl))) (fun t0 v0 e0 => ?_)
  cases e0
  refine zp2_ckr (zp2_bvr (fun t1 g1 => zp2_bur (P := fun r => r = zsi t1 3 58 ((σ.1 23 11 + 1) &&& 16383)) (zpc_ck (zpc_ck (zpc_bv (fun t2 g2 => zpc_some ?_)))) (fun t2 e2 => ?_)))
  · rw [g2]
    have e : zgi t1 3 (58 : Int32).toNatClampNeg = σ.1 23 11 := by rw [g1]; exact e11
    rw [e]
    rfl
  · have g1 : t1 = zsi μ 3 60 (σ.1 21 (σ.1 23 11 &&& 16383).toNatClampNeg) := g1
    subst e2
    subst g1
    subst es
    refine k _ _ (((zPo.rf h).v13 ?_ rfl).v11 (z_r14 _) rfl)
    rw [← z_vr h.1 hj]
    exact z_r8 _
theorem t_data (h : zVe σ μ) : zp2 (fX9_readData σ ) (fX12_data μ ) (fun r r' => zPo σ μ r.1 r'.1 ∧ r'.2 = r.2 ∧ zr 0 255 r.2) := by
  unfold fX9_readData fX12_data
  refine zp2_ckl (zp2_bvl (fun v ev => zp2_ckl (zp2_bvl (fun s1 f1 => zp2_ckr (zp2_bvr (fun v' ev' => zp2_ckr (zp2_bvr (fun t1 g1 => ?_))))))))
  have ev : v = σ.1 23 13 := ev
  have ev' : v' = σ.1 23 13 := ev'.trans h.e13
  have f1 : s1 = zsi σ 23 14 0 := f1
  have g1 : t1 = zsi μ 3 61 0 := g1
  subst f1
  subst g1
  have h1 : zPo σ μ (zsi σ 23 14 0) (zsi μ 3 61 0) := (zPo.rf h).v14 (zr_c (by decide)) rfl
  refine t_ahead h1.1 (fun s t q => zp2_some ⟨h1.tr q, ?_, ?_⟩)
  · show v' = v
    rw [ev, ev']
  · show zr 0 255 v
    rw [ev]
    exact h.2.1.at (k := 23) (j := 13) rfl
end ZVP
