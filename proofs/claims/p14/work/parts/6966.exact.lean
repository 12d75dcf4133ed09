/-! exact: the tape's length, the kind, what is saved, on both sides -/
theorem zTh.bs {v x : Int32} {σ σ1 : zSt} {k j : Nat} (h : zTh v σ) (e : σ1 = zsi σ k j x) (c : Nat.beq 0 k = false) : zTh v σ1 := by
  subst e
  exact h.w (fun r => by rw [← r.1] at c; exact absurd c (by decide))
theorem zTh.bl {v : Int32} {σ σ1 : zSt} {k j : Nat} {x : Int64} (h : zTh v σ) (e : σ1 = zsl σ k j x) : zTh v σ1 := by
  subst e
  exact h
theorem z_tp1 (x : Int32) : ¬ 1 = ztp x := by
  unfold ztp
  split <;> decide
theorem z_lgc {x y : Int64} (h : x.toInt = y.toInt) : lg_cmp x y = 0 := by
  have e : x = y := Int64.toInt_inj.mp h
  subst e
  unfold lg_cmp
  rw [if_neg (fun r => by have := Int64.lt_iff_toInt_lt.mp r; omega), if_pos rfl]
def zLz (r : zSt × Int32) : Prop := r.2 = 0 ∧ zgi r.1 0 19 = 0
theorem t_load_126 {k89 : zSt → Int32 → Int32 → Option (zSt × Int32)} (hk : ∀ (σ : zSt) (y0 y1 : Int32), zpc (k89 σ y0 y1) zLz) {σ : zSt} {x1 : Int32} {x3 : Int32} {s0 : Int32} {s1 : Int32} : zpc (fX12_load_126 k89 σ x1 x3 s0 s1) zLz := by
  unfold fX12_load_126
  exact zpc_ck (zpc_bv (fun σ1 e_σ1 => zpc_bv (fun v2 e_v2 => hk _ _ _)))
theorem t_load_161 {k142 : zSt → Int32 → Option (zSt × Int32)} (hk : ∀ (σ : zSt) (y0 : Int32), zpc (k142 σ y0) zLz) {σ : zSt} {x3 : Int32} : zpc (fX12_load_161 k142 σ x3) zLz := by
  unfold fX12_load_161
  exact zpc_bv (fun v3 e_v3 => hk _ _)
theorem t_load_414_body {k414 : zSt → Int32 → Option (zSt × Int32)} (hk : ∀ (σ : zSt) (y0 : Int32), zpc (k414 σ y0) zLz) {σ : zSt} {x6 : Int32} : zpc (fX12_load_414_body k414 σ x6) zLz := by
  unfold fX12_load_414_body
  exact zpc_if (fun _ => zpc_ck (zpc_bv (fun σ4 e_σ4 => zpc_some ⟨rfl, by subst e_σ4; exact zsi_ej⟩))) (fun _ => zpc_ck (zpc_bv (fun σ5 e_σ5 => zpc_bv (fun v6 e_v6 => hk _ _))))
theorem t_load_414 : ∀ (n : Nat) (σ : zSt) (y0 : Int32), zpc (fX12_load_414 n σ y0) zLz := by
  intro n
  induction n with
  | zero => intro σ y0; exact zpc_none
  | succ n ih => intro σ y0; exact t_load_414_body ih
theorem t_load_404 {σ : zSt} {s0 : Int32} : zpc (fX12_load_404 σ s0) zLz := by
  unfold fX12_load_404
  exact zpc_bv (fun σ7 e_σ7 => zpc_bu (P := fun _ => True) (fun _ _ => trivial) (fun σ8 _ => t_load_414 _ _ _))
theorem t_load_385 {σ : zSt} : zpc (fX12_load_385 σ) zLz := by
  unfold fX12_load_385
  exact zpc_if (fun _ => t_load_404) (fun _ => t_load_404)
theorem t_load_359 {k337 : zSt → Int32 → Int32 → Option (zSt × Int32)} (hk : ∀ (σ : zSt) (y0 y1 : Int32), zpc (k337 σ y0 y1) zLz) {σ : zSt} {x5 : Int32} {x6 : Int32} : zpc (fX12_load_359 k337 σ x5 x6) zLz := by
  unfold fX12_load_359
  exact zpc_ck (zpc_bv (fun σ9 e_σ9 => zpc_bv (fun v10 e_v10 => hk _ _ _)))
theorem t_load_337_body {k337 : zSt → Int32 → Int32 → Option (zSt × Int32)} (hk : ∀ (σ : zSt) (y0 y1 : Int32), zpc (k337 σ y0 y1) zLz) {σ : zSt} {x5 : Int32} {x6 : Int32} : zpc (fX12_load_337_body k337 σ x5 x6) zLz := by
  unfold fX12_load_337_body
  exact zpc_if (fun _ => t_load_385) (fun _ => zpc_if (fun _ => t_load_359 hk) (fun _ => zpc_if (fun _ => t_load_385) (fun _ => t_load_359 hk)))
theorem t_load_337 : ∀ (n : Nat) (σ : zSt) (y0 y1 : Int32), zpc (fX12_load_337 n σ y0 y1) zLz := by
  intro n
  induction n with
  | zero => intro σ y0 y1; exact zpc_none
  | succ n ih => intro σ y0 y1; exact t_load_337_body ih
theorem t_load_298_body {k298 : zSt → Int32 → Int32 → Option (zSt × Int32)} (hk : ∀ (σ : zSt) (y0 y1 : Int32), zpc (k298 σ y0 y1) zLz) {σ : zSt} {x5 : Int32} {x6 : Int32} : zpc (fX12_load_298_body k298 σ x5 x6) zLz := by
  unfold fX12_load_298_body
  exact zpc_if (fun _ => t_load_337 _ _ _ _) (fun _ => zpc_ck (zpc_bv (fun σ11 e_σ11 => zpc_bv (fun v12 e_v12 => hk _ _ _))))
theorem t_load_298 : ∀ (n : Nat) (σ : zSt) (y0 y1 : Int32), zpc (fX12_load_298 n σ y0 y1) zLz := by
  intro n
  induction n with
  | zero => intro σ y0 y1; exact zpc_none
  | succ n ih => intro σ y0 y1; exact t_load_298_body ih
theorem t_load_293 {σ : zSt} {s0 : Int32} : zpc (fX12_load_293 σ s0) zLz := by
  unfold fX12_load_293
  exact t_load_298 _ _ _ _
theorem t_load_259 {σ : zSt} {s0 : Int32} : zpc (fX12_load_259 σ s0) zLz := by
  unfold fX12_load_259
  exact zpc_bv (fun σ13 e_σ13 => zpc_bv (fun σ14 e_σ14 => zpc_if (fun _ => zpc_ck (t_load_293)) (fun _ => t_load_293)))
theorem t_load_247 {σ : zSt} : zpc (fX12_load_247 σ) zLz := by
  unfold fX12_load_247
  exact zpc_if (fun _ => t_load_259) (fun _ => t_load_259)
theorem t_load_214 {σ : zSt} {x3 : Int32} {s0 : Int32} : zpc (fX12_load_214 σ x3 s0) zLz := by
  unfold fX12_load_214
  exact zpc_if (fun _ => zpc_if (fun _ => t_load_247) (fun _ => zpc_if (fun _ => t_load_259) (fun _ => t_load_247))) (fun _ => t_load_259)
theorem t_load_192 {σ : zSt} {s0 : Int32} : zpc (fX12_load_192 σ s0) zLz := by
  unfold fX12_load_192
  exact zpc_if (fun _ => t_load_214) (fun _ => zpc_bi (P := fun _ => True) (fun _ _ => trivial) (fun σ15 v16 _ => t_load_214))
theorem t_load_142_body {k142 : zSt → Int32 → Option (zSt × Int32)} (hk : ∀ (σ : zSt) (y0 : Int32), zpc (k142 σ y0) zLz) {σ : zSt} {x3 : Int32} : zpc (fX12_load_142_body k142 σ x3) zLz := by
  unfold fX12_load_142_body
  exact zpc_if (fun _ => zpc_if (fun _ => t_load_192) (fun _ => zpc_bi (P := fun _ => True) (fun _ _ => trivial) (fun σ17 v18 _ => t_load_192))) (fun _ => zpc_bi (P := fun _ => True) (fun _ _ => trivial) (fun σ19 v20 _ => zpc_if (fun _ => t_load_161 hk) (fun _ => zpc_bv (fun σ21 e_σ21 => t_load_161 hk))))
theorem t_load_142 : ∀ (n : Nat) (σ : zSt) (y0 : Int32), zpc (fX12_load_142 n σ y0) zLz := by
  intro n
  induction n with
  | zero => intro σ y0; exact zpc_none
  | succ n ih => intro σ y0; exact t_load_142_body ih
theorem t_load_89_body {k89 : zSt → Int32 → Int32 → Option (zSt × Int32)} (hk : ∀ (σ : zSt) (y0 y1 : Int32), zpc (k89 σ y0 y1) zLz) {σ : zSt} {x1 : Int32} {x3 : Int32} : zpc (fX12_load_89_body k89 σ x1 x3) zLz := by
  unfold fX12_load_89_body
  exact zpc_if (fun _ => zpc_bv (fun σ22 e_σ22 => t_load_142 _ _ _)) (fun _ => zpc_if (fun _ => t_load_126 hk) (fun _ => zpc_ck (t_load_126 hk)))
theorem t_load_89 : ∀ (n : Nat) (σ : zSt) (y0 y1 : Int32), zpc (fX12_load_89 n σ y0 y1) zLz := by
  intro n
  induction n with
  | zero => intro σ y0 y1; exact zpc_none
  | succ n ih => intro σ y0 y1; exact t_load_89_body ih
theorem t_restore_207_body {v : Int32} {k207 : zSt → Int32 → Option zSt} (hk : ∀ (σ : zSt) (y : Int32), zTh v σ → zpc (k207 σ y) (zTh v)) {σ : zSt} {x1 : Int32} (h : zTh v σ) : zpc (fX12_restore_207_body k207 σ x1) (zTh v) := by
  unfold fX12_restore_207_body
  exact zpc_if (fun _ => zpc_some h) (fun _ => zpc_ck (zpc_ck (zpc_bv (fun σ1 e_σ1 => zpc_ck (zpc_ck (zpc_bv (fun σ2 e_σ2 => zpc_bv (fun v3 e_v3 => hk _ _ (zTh.bl (zTh.bl h e_σ1) e_σ2)))))))))
theorem t_restore_207 {v : Int32} : ∀ (n : Nat) (σ : zSt) (y : Int32), zTh v σ → zpc (fX12_restore_207 n σ y) (zTh v) := by
  intro n
  induction n with
  | zero => intro σ y h; exact zpc_none
  | succ n ih => intro σ y h; exact t_restore_207_body ih h
theorem t_restore_181_body {v : Int32} {k181 : zSt → Int32 → Option zSt} (hk : ∀ (σ : zSt) (y : Int32), zTh v σ → zpc (k181 σ y) (zTh v)) {σ : zSt} {x1 : Int32} (h : zTh v σ) : zpc (fX12_restore_181_body k181 σ x1) (zTh v) := by
  unfold fX12_restore_181_body
  exact zpc_if (fun _ => t_restore_207 _ _ _ h) (fun _ => zpc_ck (zpc_ck (zpc_bv (fun σ4 e_σ4 => zpc_bv (fun v5 e_v5 => hk _ _ (zTh.bs h e_σ4 (by decide)))))))
theorem t_restore_181 {v : Int32} : ∀ (n : Nat) (σ : zSt) (y : Int32), zTh v σ → zpc (fX12_restore_181 n σ y) (zTh v) := by
  intro n
  induction n with
  | zero => intro σ y h; exact zpc_none
  | succ n ih => intro σ y h; exact t_restore_181_body ih h
theorem t_restore_155_body {v : Int32} {k155 : zSt → Int32 → Option zSt} (hk : ∀ (σ : zSt) (y : Int32), zTh v σ → zpc (k155 σ y) (zTh v)) {σ : zSt} {x1 : Int32} (h : zTh v σ) : zpc (fX12_restore_155_body k155 σ x1) (zTh v) := by
  unfold fX12_restore_155_body
  exact zpc_if (fun _ => t_restore_181 _ _ _ h) (fun _ => zpc_ck (zpc_ck (zpc_bv (fun σ6 e_σ6 => zpc_bv (fun v7 e_v7 => hk _ _ (zTh.bs h e_σ6 (by decide)))))))
theorem t_restore_155 {v : Int32} : ∀ (n : Nat) (σ : zSt) (y : Int32), zTh v σ → zpc (fX12_restore_155 n σ y) (zTh v) := by
  intro n
  induction n with
  | zero => intro σ y h; exact zpc_none
  | succ n ih => intro σ y h; exact t_restore_155_body ih h
theorem t_restore_128_body {v : Int32} {k128 : zSt → Int32 → Option zSt} (hk : ∀ (σ : zSt) (y : Int32), zTh v σ → zpc (k128 σ y) (zTh v)) {σ : zSt} {x1 : Int32} (h : zTh v σ) : zpc (fX12_restore_128_body k128 σ x1) (zTh v) := by
  unfold fX12_restore_128_body
  exact zpc_if (fun _ => t_restore_155 _ _ _ h) (fun _ => zpc_ck (zpc_ck (zpc_bv (fun σ8 e_σ8 => zpc_bv (fun v9 e_v9 => hk _ _ (zTh.bs h e_σ8 (by decide)))))))
theorem t_restore_128 {v : Int32} : ∀ (n : Nat) (σ : zSt) (y : Int32), zTh v σ → zpc (fX12_restore_128 n σ y) (zTh v) := by
  intro n
  induction n with
  | zero => intro σ y h; exact zpc_none
  | succ n ih => intro σ y h; exact t_restore_128_body ih h
theorem t_restore_102_body {v : Int32} {k102 : zSt → Int32 → Option zSt} (hk : ∀ (σ : zSt) (y : Int32), zTh v σ → zpc (k102 σ y) (zTh v)) {σ : zSt} {x1 : Int32} (h : zTh v σ) : zpc (fX12_restore_102_body k102 σ x1) (zTh v) := by
  unfold fX12_restore_102_body
  exact zpc_if (fun _ => t_restore_128 _ _ _ h) (fun _ => zpc_ck (zpc_ck (zpc_bv (fun σ10 e_σ10 => zpc_bv (fun v11 e_v11 => hk _ _ (zTh.bs h e_σ10 (by decide)))))))
theorem t_restore_102 {v : Int32} : ∀ (n : Nat) (σ : zSt) (y : Int32), zTh v σ → zpc (fX12_restore_102 n σ y) (zTh v) := by
  intro n
  induction n with
  | zero => intro σ y h; exact zpc_none
  | succ n ih => intro σ y h; exact t_restore_102_body ih h
theorem t_restore_75_body {v : Int32} {k75 : zSt → Int32 → Option zSt} (hk : ∀ (σ : zSt) (y : Int32), zTh v σ → zpc (k75 σ y) (zTh v)) {σ : zSt} {x1 : Int32} (h : zTh v σ) : zpc (fX12_restore_75_body k75 σ x1) (zTh v) := by
  unfold fX12_restore_75_body
  exact zpc_if (fun _ => t_restore_102 _ _ _ h) (fun _ => zpc_ck (zpc_ck (zpc_bv (fun σ12 e_σ12 => zpc_bv (fun v13 e_v13 => hk _ _ (zTh.bs h e_σ12 (by decide)))))))
theorem t_restore_75 {v : Int32} : ∀ (n : Nat) (σ : zSt) (y : Int32), zTh v σ → zpc (fX12_restore_75 n σ y) (zTh v) := by
  intro n
  induction n with
  | zero => intro σ y h; exact zpc_none
  | succ n ih => intro σ y h; exact t_restore_75_body ih h
theorem t_restore_50_body {v : Int32} {k50 : zSt → Int32 → Option zSt} (hk : ∀ (σ : zSt) (y : Int32), zTh v σ → zpc (k50 σ y) (zTh v)) {σ : zSt} {x1 : Int32} (h : zTh v σ) : zpc (fX12_restore_50_body k50 σ x1) (zTh v) := by
  unfold fX12_restore_50_body
  exact zpc_if (fun _ => t_restore_75 _ _ _ h) (fun _ => zpc_ck (zpc_ck (zpc_bv (fun σ14 e_σ14 => zpc_bv (fun v15 e_v15 => hk _ _ (zTh.bl h e_σ14))))))
theorem t_restore_50 {v : Int32} : ∀ (n : Nat) (σ : zSt) (y : Int32), zTh v σ → zpc (fX12_restore_50 n σ y) (zTh v) := by
  intro n
  induction n with
  | zero => intro σ y h; exact zpc_none
  | succ n ih => intro σ y h; exact t_restore_50_body ih h
theorem t_restore_23_body {v : Int32} {k23 : zSt → Int32 → Option zSt} (hk : ∀ (σ : zSt) (y : Int32), zTh v σ → zpc (k23 σ y) (zTh v)) {σ : zSt} {x1 : Int32} (h : zTh v σ) : zpc (fX12_restore_23_body k23 σ x1) (zTh v) := by
  unfold fX12_restore_23_body
  exact zpc_if (fun _ => t_restore_50 _ _ _ h) (fun _ => zpc_ck (zpc_ck (zpc_bv (fun σ16 e_σ16 => zpc_bv (fun v17 e_v17 => hk _ _ (zTh.bs h e_σ16 (by decide)))))))
theorem t_restore_23 {v : Int32} : ∀ (n : Nat) (σ : zSt) (y : Int32), zTh v σ → zpc (fX12_restore_23 n σ y) (zTh v) := by
  intro n
  induction n with
  | zero => intro σ y h; exact zpc_none
  | succ n ih => intro σ y h; exact t_restore_23_body ih h
/-- three ends: refused by 1, refused by 2, done -/
def zBr (A B : Prop) (n m y : Int) (t : Int32) (V R : Int → Prop) : Prop := (¬ A ∧ t = 1 ∧ R n) ∨ (A ∧ ¬ B ∧ t = 2 ∧ R n) ∨ (A ∧ B ∧ t = 0 ∧ V y ∧ R m)
theorem zBr.both {A B : Prop} {n m y : Int} {t t' : Int32} {V V' R R' : Int → Prop} (h : zBr A B n m y t V R) (h' : zBr A B n m y t' V' R') : t' = t ∧ (∃ n1, R n1 ∧ R' n1) ∧ (t = 0 → ∃ z, V z ∧ V' z) := by
  rcases h with ⟨a, b, c⟩ | ⟨a, d, b, c⟩ | ⟨a, d, b, v, c⟩ <;> rcases h' with ⟨a', b', c'⟩ | ⟨a', d', b', c'⟩ | ⟨a', d', b', v', c'⟩
  · exact ⟨b'.trans b.symm, ⟨n, c, c'⟩, fun z => absurd (b.symm.trans z) (by decide)⟩
  · exact absurd a' a
  · exact absurd a' a
  · exact absurd a a'
  · exact ⟨b'.trans b.symm, ⟨n, c, c'⟩, fun z => absurd (b.symm.trans z) (by decide)⟩
  · exact absurd d' d
  · exact absurd a a'
  · exact absurd d d'
  · exact ⟨b'.trans b.symm, ⟨m, c, c'⟩, fun _ => ⟨y, v, v'⟩⟩
/-! feed, the reference -/
theorem p_feed_54 {x1 : Int32} {x2 x4 x6 : Int64} (hx : zr 1 24 x1) : ∀ (n : Nat) (σ : zSt) (x8 : Int32), zr 0 24 x8 → x8.toInt ≤ x1.toInt → 0 ≤ (zgi σ 0 2).toInt → (zgi σ 0 2).toInt + (x1.toInt - x8.toInt) ≤ 262656 → zpc (fX12_feed_54 n σ x1 x2 x4 x6 x8) (fun r => zgi r.1 0 0 = zgi σ 0 0 ∧ (zgi r.1 0 2).toInt = (zgi σ 0 2).toInt + (x1.toInt - x8.toInt) ∧ r.2 = zgi r.1 0 2) := by
  intro n
  induction n with
  | zero => intro σ x8 _ _ _ _; exact zpc_none
  | succ n ih =>
    intro σ x8 h8 hle h0 hb
    show zpc (fX12_feed_54_body (fX12_feed_54 n) σ x1 x2 x4 x6 x8) _
    unfold fX12_feed_54_body
    have b8 := h8.1
    have bx := hx.2
    refine zpc_if (fun q => ?_) (fun q => ?_)
    · have q1 := Int32.le_iff_toInt_le.mp q
      have e : (zgi σ 0 2).toInt = (zgi σ 0 2).toInt + (x1.toInt - x8.toInt) := by omega
      exact zpc_some ⟨rfl, e, rfl⟩
    · have q1 := Int32.lt_iff_toInt_lt.mp (z_nle q)
      have f : ∀ s0, zpc (fX12_feed_93 (fX12_feed_54 n) σ x1 x2 x4 x6 x8 s0 (zgi σ 0 2)) (fun r => zgi r.1 0 0 = zgi σ 0 0 ∧ (zgi r.1 0 2).toInt = (zgi σ 0 2).toInt + (x1.toInt - x8.toInt) ∧ r.2 = zgi r.1 0 2) := fun s0 => by
        unfold fX12_feed_93
        refine zpc_ck (zpc_ck (zpc_bv (fun σ1 e1 => zpc_bv (fun σ2 e2 => zpc_bv (fun v3 e3 => ?_)))))
        have a2 : zgi σ1 0 2 = zgi σ 0 2 := by
          subst e1
          show (zsi σ 1 _ _).1 0 2 = σ.1 0 2
          rw [zsi_off (by omega)]
        have a0 : zgi σ2 0 0 = zgi σ 0 0 := by
          subst e2
          subst e1
          show (zsi (zsi σ 1 _ _) 0 2 _).1 0 0 = σ.1 0 0
          rw [zsi_off (by omega), zsi_off (by omega)]
        have c1 : (1 : Int32).toInt = 1 := rfl
        have r1 : zr 1 1 (1 : Int32) := zr_c (by decide)
        have t3 : (zgi σ 0 2 + 1).toInt = (zgi σ 0 2).toInt + (1 : Int32).toInt := z_tadd (a := 0) (b := 262655) ⟨h0, by omega⟩ r1 (by decide)
        have a3 : (zgi σ2 0 2).toInt = (zgi σ 0 2).toInt + 1 := by
          subst e2
          show ((zsi σ1 0 2 (zgi σ1 0 2 + 1)).1 0 2).toInt = _
          rw [zsi_ej, a2, t3, c1]
        have t8 : (x8 + 1).toInt = x8.toInt + (1 : Int32).toInt := z_tadd h8 r1 (by decide)
        have t : v3.toInt = x8.toInt + 1 := by rw [e3, t8, c1]
        refine zpc_mono (ih σ2 v3 ⟨by omega, by omega⟩ (by omega) (by omega) (by omega)) (fun r p => ?_)
        obtain ⟨p1, p2, p3⟩ := p
        exact ⟨p1.trans a0, by omega, p3⟩
      exact zpc_if (fun _ => zpc_if (fun _ => f _) (fun _ => f _)) (fun _ => f _)
theorem p_feed {μ : zSt} {x1 : Int32} {x2 x4 x6 : Int64} (hr : zr 0 262656 (zgi μ 0 2)) : zpc (fX12_feed μ x1 x2 x4 x6) (fun r => (¬ zr 1 24 x1 ∧ zTh 1 r.1 ∧ zgi r.1 0 2 = zgi μ 0 2) ∨ (zr 1 24 x1 ∧ ¬ (zgi μ 0 2).toInt + x1.toInt ≤ 262656 ∧ zTh 2 r.1 ∧ zgi r.1 0 2 = zgi μ 0 2) ∨ (zr 1 24 x1 ∧ (zgi μ 0 2).toInt + x1.toInt ≤ 262656 ∧ zTh 0 r.1 ∧ (zgi r.1 0 2).toInt = (zgi μ 0 2).toInt + x1.toInt ∧ r.2 = zgi r.1 0 2)) := by
  unfold fX12_feed
  have c2 : (262656 : Int32).toInt = 262656 := rfl
  have c0 : (0 : Int32).toInt = 0 := rfl
  have at02 : ∀ (σ σ1 : zSt) (v : Int32), σ1 = zsi σ 0 0 v → zgi σ1 0 2 = zgi σ 0 2 := fun σ σ1 v e => by
    subst e
    show (zsi σ 0 0 _).1 0 2 = σ.1 0 2
    rw [zsi_off (by omega)]
  refine zpc_within (fun w1 w2 => ?_) (fun w3 => ?_)
  · have h := z_wir w1 w2 (zrl_c (lo := 1) (hi := 1) (by decide)) (zrl_c (lo := 24) (hi := 24) (by decide))
    refine zpc_if (fun q => absurd q (by decide)) (fun _ => ?_)
    unfold fX12_feed_18
    refine zpc_fails0 (fun σ1 e1 => ?_)
    refine zpc_if (fun _ => ?_) (fun q => absurd rfl q)
    have a := at02 _ _ _ e1
    have t : (zgi μ 0 2 + x1).toInt = (zgi μ 0 2).toInt + x1.toInt := z_tadd hr h (by decide)
    have hx1 := h.1
    have hr1 := hr.1
    refine zpc_if (fun q => ?_) (fun q => ?_)
    · rw [a] at q
      have q1 := Int32.le_iff_toInt_le.mp q
      rw [t, c2] at q1
      unfold fX12_feed_42
      refine zpc_fails0 (fun σ2 e2 => ?_)
      refine zpc_if (fun _ => ?_) (fun q => absurd rfl q)
      have a2 : zgi σ2 0 2 = zgi μ 0 2 := (at02 _ _ _ e2).trans a
      have b2 : zgi σ2 0 0 = 0 := by subst e2; exact zTh_own
      have k1 : (0 : Int32).toInt ≤ x1.toInt := by omega
      have k2 : 0 ≤ (zgi σ2 0 2).toInt := by rw [a2]; exact hr1
      have k3 : (zgi σ2 0 2).toInt + (x1.toInt - (0 : Int32).toInt) ≤ 262656 := by rw [a2, c0]; omega
      refine zpc_mono (p_feed_54 h zfuel σ2 0 (zr_c (by decide)) k1 k2 k3) (fun r p => ?_)
      obtain ⟨p1, p2, p3⟩ := p
      rw [a2, c0] at p2
      exact Or.inr (Or.inr ⟨h, q1, p1.trans b2, by omega, p3⟩)
    · rw [a] at q
      have q1 := Int32.lt_iff_toInt_lt.mp (z_nle q)
      rw [t, c2] at q1
      unfold fX12_feed_42 fX12_feed_49
      refine zpc_fails1 (fun σ2 e2 => ?_)
      have a2 : zgi σ2 0 2 = zgi μ 0 2 := (at02 _ _ _ e2).trans a
      exact zpc_if (fun q => absurd q (by decide)) (fun _ => zpc_some (Or.inr (Or.inl ⟨h, by omega, by subst e2; exact zTh_own, a2⟩)))
  · refine zpc_if (fun _ => ?_) (fun q => absurd rfl q)
    unfold fX12_feed_18 fX12_feed_49
    refine zpc_fails1 (fun σ1 e1 => ?_)
    have a := at02 _ _ _ e1
    exact zpc_if (fun q => absurd q (by decide)) (fun _ => zpc_some (Or.inl ⟨z_within w3 rfl rfl, by subst e1; exact zTh_own, a⟩))
/-! grow, the reference -/
theorem p_grow_54 {x1 x2 : Int32} (hx : zr 0 262656 x1) : ∀ (n : Nat) (σ : zSt), 0 ≤ (zgi σ 0 2).toInt → (zgi σ 0 2).toInt ≤ x1.toInt → zpc (fX12_grow_54 n σ x1 x2) (fun r => zgi r.1 0 0 = zgi σ 0 0 ∧ (zgi r.1 0 2).toInt = x1.toInt ∧ r.2 = x2) := by
  intro n
  induction n with
  | zero => intro σ _ _; exact zpc_none
  | succ n ih =>
    intro σ h0 hle
    show zpc (fX12_grow_54_body (fX12_grow_54 n) σ x1 x2) _
    unfold fX12_grow_54_body
    have bx := hx.2
    refine zpc_if (fun q => ?_) (fun q => ?_)
    · have q1 := Int32.le_iff_toInt_le.mp q
      have e : (zgi σ 0 2).toInt = x1.toInt := by omega
      exact zpc_some ⟨rfl, e, rfl⟩
    · have q1 := Int32.lt_iff_toInt_lt.mp (z_nle q)
      refine zpc_ck (zpc_ck (zpc_ck (zpc_bv (fun σ1 e1 => zpc_bv (fun σ2 e2 => ?_)))))
      have a2 : zgi σ1 0 2 = zgi σ 0 2 := by
        subst e1
        show (zsi σ 1 _ _).1 0 2 = σ.1 0 2
        rw [zsi_off (by omega)]
      have a0 : zgi σ2 0 0 = zgi σ 0 0 := by
        subst e2
        subst e1
        show (zsi (zsi σ 1 _ _) 0 2 _).1 0 0 = σ.1 0 0
        rw [zsi_off (by omega), zsi_off (by omega)]
      have c1 : (1 : Int32).toInt = 1 := rfl
      have r1 : zr 1 1 (1 : Int32) := zr_c (by decide)
      have t3 : (zgi σ 0 2 + 1).toInt = (zgi σ 0 2).toInt + (1 : Int32).toInt := z_tadd (a := 0) (b := 262655) ⟨h0, by omega⟩ r1 (by decide)
      have a3 : (zgi σ2 0 2).toInt = (zgi σ 0 2).toInt + 1 := by
        subst e2
        show ((zsi σ1 0 2 (zgi σ1 0 2 + 1)).1 0 2).toInt = _
        rw [zsi_ej, a2, t3, c1]
      refine zpc_mono (ih σ2 (by omega) (by omega)) (fun r p => ?_)
      obtain ⟨p1, p2, p3⟩ := p
      exact ⟨p1.trans a0, p2, p3⟩
theorem p_grow {μ : zSt} {x1 : Int32} (hr : zr 0 262656 (zgi μ 0 2)) : zpc (fX12_grow μ x1) (fun r => (¬ ((zgi μ 0 2).toInt ≤ x1.toInt ∧ x1.toInt ≤ 262656) ∧ zTh 1 r.1 ∧ zgi r.1 0 2 = zgi μ 0 2) ∨ (((zgi μ 0 2).toInt ≤ x1.toInt ∧ x1.toInt ≤ 262656) ∧ (zgi μ 0 2).toInt = 0 ∧ zTh 2 r.1 ∧ zgi r.1 0 2 = zgi μ 0 2) ∨ (((zgi μ 0 2).toInt ≤ x1.toInt ∧ x1.toInt ≤ 262656) ∧ ¬ (zgi μ 0 2).toInt = 0 ∧ zTh 0 r.1 ∧ (zgi r.1 0 2).toInt = x1.toInt ∧ r.2 = zgi μ 0 2)) := by
  unfold fX12_grow fX12_grow_15
  have c2 : (262656 : Int32).toInt = 262656 := rfl
  have c0 : (0 : Int32).toInt = 0 := rfl
  have at02 : ∀ (σ σ1 : zSt) (v : Int32), σ1 = zsi σ 0 0 v → zgi σ1 0 2 = zgi σ 0 2 := fun σ σ1 v e => by
    subst e
    show (zsi σ 0 0 _).1 0 2 = σ.1 0 2
    rw [zsi_off (by omega)]
  have no : ∀ (hno : ¬ ((zgi μ 0 2).toInt ≤ x1.toInt ∧ x1.toInt ≤ 262656)), zpc (fX12_grow_20 μ x1 1) (fun r => (¬ ((zgi μ 0 2).toInt ≤ x1.toInt ∧ x1.toInt ≤ 262656) ∧ zTh 1 r.1 ∧ zgi r.1 0 2 = zgi μ 0 2) ∨ (((zgi μ 0 2).toInt ≤ x1.toInt ∧ x1.toInt ≤ 262656) ∧ (zgi μ 0 2).toInt = 0 ∧ zTh 2 r.1 ∧ zgi r.1 0 2 = zgi μ 0 2) ∨ (((zgi μ 0 2).toInt ≤ x1.toInt ∧ x1.toInt ≤ 262656) ∧ ¬ (zgi μ 0 2).toInt = 0 ∧ zTh 0 r.1 ∧ (zgi r.1 0 2).toInt = x1.toInt ∧ r.2 = zgi μ 0 2)) := fun hno => by
    unfold fX12_grow_20 fX12_grow_47
    refine zpc_fails1 (fun σ1 e1 => ?_)
    have a := at02 _ _ _ e1
    exact zpc_if (fun q => absurd q (by decide)) (fun _ => zpc_some (Or.inl ⟨hno, by subst e1; exact zTh_own, a⟩))
  refine zpc_if (fun q => no (fun h => ?_)) (fun q => zpc_if (fun q1 => ?_) (fun q1 => no (fun h => ?_)))
  · have r := Int32.lt_iff_toInt_lt.mp q; omega
  · have r := Int32.le_iff_toInt_le.mp (z_nlt q)
    have r1 := Int32.le_iff_toInt_le.mp q1
    rw [c2] at r1
    have hr1 := hr.1
    unfold fX12_grow_20
    refine zpc_fails0 (fun σ1 e1 => ?_)
    refine zpc_if (fun _ => ?_) (fun q => absurd rfl q)
    have a := at02 _ _ _ e1
    refine zpc_if (fun q2 => ?_) (fun q2 => ?_)
    · rw [a] at q2
      unfold fX12_grow_40 fX12_grow_47
      refine zpc_fails1 (fun σ2 e2 => ?_)
      have a2 : zgi σ2 0 2 = zgi μ 0 2 := (at02 _ _ _ e2).trans a
      have e0 : (zgi μ 0 2).toInt = 0 := by rw [q2]; exact c0
      exact zpc_if (fun q => absurd q (by decide)) (fun _ => zpc_some (Or.inr (Or.inl ⟨⟨r, r1⟩, e0, by subst e2; exact zTh_own, a2⟩)))
    · rw [a] at q2
      unfold fX12_grow_40
      refine zpc_fails0 (fun σ2 e2 => ?_)
      refine zpc_if (fun _ => ?_) (fun q => absurd rfl q)
      have a2 : zgi σ2 0 2 = zgi μ 0 2 := (at02 _ _ _ e2).trans a
      have b2 : zgi σ2 0 0 = 0 := by subst e2; exact zTh_own
      refine zpc_bv (fun v5 e5 => ?_)
      have k2 : 0 ≤ (zgi σ2 0 2).toInt := by rw [a2]; exact hr1
      have k3 : (zgi σ2 0 2).toInt ≤ x1.toInt := by rw [a2]; exact r
      refine zpc_mono (p_grow_54 (x2 := v5) ⟨by omega, r1⟩ zfuel σ2 k2 k3) (fun r' p => ?_)
      obtain ⟨p1, p2, p3⟩ := p
      refine Or.inr (Or.inr ⟨⟨r, r1⟩, fun h => q2 (Int32.toInt_inj.mp (h.trans c0.symm)), p1.trans b2, p2, ?_⟩)
      rw [p3, e5, a2]
  · have r := Int32.lt_iff_toInt_lt.mp (z_nle q1); omega
/-! patch, the reference -/
theorem t_patch_32 {v x1 : Int32} {x2 : Int64} : ∀ (n : Nat) (σ : zSt) (x4 : Int32), zTh v σ → zpc (fX12_patch_32 n σ x1 x2 x4) (zTh v) := by
  intro n
  induction n with
  | zero => intro σ x4 h; exact zpc_none
  | succ n ih =>
    intro σ x4 h
    show zpc (fX12_patch_32_body (fX12_patch_32 n) σ x1 x2 x4) _
    unfold fX12_patch_32_body
    exact zpc_if (fun _ => zpc_some h) (fun _ => zpc_ck (zpc_bv (fun σ1 e1 => zpc_bv (fun v2 e2 => ih _ _ (zTh.bs h e1 (by decide))))))
theorem p_patch {μ : zSt} {x1 : Int32} {x2 : Int64} (hr : zr 0 262656 (zgi μ 0 2)) : zpc (fX12_patch μ x1 x2) (fun r => ((0 ≤ x1.toInt ∧ x1.toInt ≤ (zgi μ 0 2).toInt - 8) ∧ zgi r 0 0 = 0) ∨ (¬ (0 ≤ x1.toInt ∧ x1.toInt ≤ (zgi μ 0 2).toInt - 8) ∧ zgi r 0 0 = 1)) := by
  unfold fX12_patch fX12_patch_16
  have c0 : (0 : Int32).toInt = 0 := rfl
  have c8 : (8 : Int32).toInt = 8 := rfl
  have t : (zgi μ 0 2 - 8).toInt = (zgi μ 0 2).toInt - (8 : Int32).toInt := z_tsub hr (zr_c (lo := 8) (hi := 8) (by decide)) (by decide)
  have no : ∀ (hno : ¬ (0 ≤ x1.toInt ∧ x1.toInt ≤ (zgi μ 0 2).toInt - 8)), zpc (fX12_patch_21 μ x1 x2 1) (fun r => ((0 ≤ x1.toInt ∧ x1.toInt ≤ (zgi μ 0 2).toInt - 8) ∧ zgi r 0 0 = 0) ∨ (¬ (0 ≤ x1.toInt ∧ x1.toInt ≤ (zgi μ 0 2).toInt - 8) ∧ zgi r 0 0 = 1)) := fun hno => by
    unfold fX12_patch_21
    refine zpc_fails1 (fun σ1 e1 => ?_)
    exact zpc_if (fun q => absurd q (by decide)) (fun _ => zpc_some (Or.inr ⟨hno, by subst e1; exact zTh_own⟩))
  refine zpc_if (fun q => no (fun h => ?_)) (fun q => zpc_if (fun q1 => ?_) (fun q1 => no (fun h => ?_)))
  · have r := Int32.lt_iff_toInt_lt.mp q; omega
  · have r := Int32.le_iff_toInt_le.mp (z_nlt q)
    have r1 := Int32.le_iff_toInt_le.mp q1
    rw [t, c8] at r1
    unfold fX12_patch_21
    refine zpc_fails0 (fun σ1 e1 => ?_)
    refine zpc_if (fun _ => ?_) (fun q => absurd rfl q)
    exact zpc_mono (t_patch_32 (v := 0) _ _ _ (by subst e1; exact zTh_own)) (fun r' p => Or.inl ⟨⟨by omega, r1⟩, p⟩)
  · have r := Int32.lt_iff_toInt_lt.mp (z_nle q1); rw [t, c8] at r; omega
/-! feed, grow, the class -/
theorem p_addToTape {σ : zSt} {x : Int32} (hr : zr 0 262655 (zgi σ 1 2)) : zpc (fX2_addToTape σ x) (fun r => (zgi r 1 2).toInt = (zgi σ 1 2).toInt + 1) := by
  unfold fX2_addToTape fX2_addToTape_29
  have c1 : (1 : Int32).toInt = 1 := rfl
  have c2 : (262656 : Int32).toInt = 262656 := rfl
  have t3 : (zgi σ 1 2 + 1).toInt = (zgi σ 1 2).toInt + (1 : Int32).toInt := z_tadd hr (zr_c (lo := 1) (hi := 1) (by decide)) (by decide)
  refine zpc_if (fun q => ?_) (fun q => zpc_ck (zpc_bv (fun σ1 e1 => zpc_bv (fun σ2 e2 => zpc_some ?_))))
  · have q1 := Int32.le_iff_toInt_le.mp q
    have := hr.2
    exfalso
    omega
  · have a2 : zgi σ1 1 2 = zgi σ 1 2 := by
      subst e1
      show (zsi σ (ztp _) _ _).1 1 2 = σ.1 1 2
      rw [zsi_off (fun r => z_tp1 _ r.1)]
    subst e2
    show ((zsi σ1 1 2 (zgi σ1 1 2 + 1)).1 1 2).toInt = _
    rw [zsi_ej, a2, t3, c1]
theorem p_feedC_48 {x1 : Int32} {x2 x4 x6 : Int64} (hx : zr 1 24 x1) : ∀ (n : Nat) (σ : zSt) (x8 : Int32), zr 0 24 x8 → x8.toInt ≤ x1.toInt → 0 ≤ (zgi σ 1 2).toInt → (zgi σ 1 2).toInt + (x1.toInt - x8.toInt) ≤ 262656 → zpc (fX11_feed_48 n σ x1 x2 x4 x6 x8) (fun r => ∃ s1 v, r = Sum.inl (s1, v) ∧ v = zgi s1 1 2 ∧ (zgi s1 1 2).toInt = (zgi σ 1 2).toInt + (x1.toInt - x8.toInt)) := by
  intro n
  induction n with
  | zero => intro σ x8 _ _ _ _; exact zpc_none
  | succ n ih =>
    intro σ x8 h8 hle h0 hb
    show zpc (fX11_feed_48_body (fX11_feed_48 n) σ x1 x2 x4 x6 x8) _
    unfold fX11_feed_48_body
    have b8 := h8.1
    have bx := hx.2
    refine zpc_if (fun q => ?_) (fun q => ?_)
    · have q1 := Int32.le_iff_toInt_le.mp q
      exact zpc_some ⟨σ, _, rfl, rfl, by omega⟩
    · have q1 := Int32.lt_iff_toInt_lt.mp (z_nle q)
      have f : ∀ s0, zpc (fX11_feed_79 (fX11_feed_48 n) σ x1 x2 x4 x6 x8 s0) (fun r => ∃ s1 v, r = Sum.inl (s1, v) ∧ v = zgi s1 1 2 ∧ (zgi s1 1 2).toInt = (zgi σ 1 2).toInt + (x1.toInt - x8.toInt)) := fun s0 => by
        unfold fX11_feed_79
        refine zpc_bu (p_addToTape ⟨h0, by omega⟩) (fun σ1 a3 => zpc_bv (fun v3 e3 => ?_))
        have c1 : (1 : Int32).toInt = 1 := rfl
        have r1 : zr 1 1 (1 : Int32) := zr_c (by decide)
        have t8 : (x8 + 1).toInt = x8.toInt + (1 : Int32).toInt := z_tadd h8 r1 (by decide)
        have t : v3.toInt = x8.toInt + 1 := by rw [e3, t8, c1]
        refine zpc_mono (ih σ1 v3 ⟨by omega, by omega⟩ (by omega) (by omega) (by omega)) (fun r p => ?_)
        obtain ⟨s1, v, p1, p2, p3⟩ := p
        exact ⟨s1, v, p1, p2, by omega⟩
      exact zpc_if (fun _ => zpc_if (fun _ => f _) (fun _ => f _)) (fun _ => f _)
theorem p_feedC {σ : zSt} {x1 : Int32} {x2 x4 x6 : Int64} (hr : zr 0 262656 (zgi σ 1 2)) : zpc (fX11_feed σ x1 x2 x4 x6) (fun r => (¬ zr 1 24 x1 ∧ r = Sum.inr (σ, 1)) ∨ (zr 1 24 x1 ∧ ¬ (zgi σ 1 2).toInt + x1.toInt ≤ 262656 ∧ r = Sum.inr (σ, 2)) ∨ (zr 1 24 x1 ∧ (zgi σ 1 2).toInt + x1.toInt ≤ 262656 ∧ ∃ s1 v, r = Sum.inl (s1, v) ∧ v = zgi s1 1 2 ∧ (zgi s1 1 2).toInt = (zgi σ 1 2).toInt + x1.toInt)) := by
  unfold fX11_feed fX11_feed_11
  have c0 : (0 : Int32).toInt = 0 := rfl
  have c1 : (1 : Int32).toInt = 1 := rfl
  have c4 : (24 : Int32).toInt = 24 := rfl
  have c2 : (262656 : Int32).toInt = 262656 := rfl
  refine zpc_if (fun q => zpc_some (Or.inl ⟨fun h => ?_, rfl⟩)) (fun q => zpc_if (fun q1 => ?_) (fun q1 => zpc_some (Or.inl ⟨fun h => ?_, rfl⟩)))
  · have r := Int32.lt_iff_toInt_lt.mp q; have := h.1; omega
  · have r := Int32.le_iff_toInt_le.mp (z_nlt q)
    have r1 := Int32.le_iff_toInt_le.mp q1
    rw [c1] at r
    rw [c4] at r1
    have h : zr 1 24 x1 := ⟨r, r1⟩
    have t : (zgi σ 1 2 + x1).toInt = (zgi σ 1 2).toInt + x1.toInt := z_tadd hr h (by decide)
    refine zpc_if (fun q2 => ?_) (fun q2 => ?_)
    · have r2 := Int32.le_iff_toInt_le.mp q2
      rw [t, c2] at r2
      refine zpc_mono (p_feedC_48 h zfuel σ 0 (zr_c (by decide)) (by omega) hr.1 (by omega)) (fun r' p => ?_)
      obtain ⟨s1, v, p1, p2, p3⟩ := p
      exact Or.inr (Or.inr ⟨h, r2, s1, v, p1, p2, by omega⟩)
    · have r2 := Int32.lt_iff_toInt_lt.mp (z_nle q2)
      rw [t, c2] at r2
      exact zpc_some (Or.inr (Or.inl ⟨h, by omega, rfl⟩))
  · have r := Int32.lt_iff_toInt_lt.mp (z_nle q1); have := h.2; omega
theorem p_repeat_15 {x2 x3 : Int32} : ∀ (n : Nat) (σ : zSt) (x4 : Int32), zpc (fX2_repeatTape_15 n σ x2 x3 x4) (fun r => zgi r 1 2 = zmax x2 x3) := by
  intro n
  induction n with
  | zero => intro σ x4; exact zpc_none
  | succ n ih =>
    intro σ x4
    show zpc (fX2_repeatTape_15_body (fX2_repeatTape_15 n) σ x2 x3 x4) _
    unfold fX2_repeatTape_15_body
    have f : zpc (fX2_repeatTape_47 σ x2 x3) (fun r => zgi r 1 2 = zmax x2 x3) := by
      unfold fX2_repeatTape_47
      exact zpc_bv (fun σ1 e1 => zpc_some (by subst e1; exact zsi_ej))
    exact zpc_if (fun _ => f) (fun _ => zpc_if (fun _ => f) (fun _ => zpc_ck (zpc_ck (zpc_bv (fun σ1 e1 => zpc_bv (fun v e => ih _ _))))))
theorem p_growC {σ : zSt} {x1 : Int32} : zpc (fX11_grow σ x1) (fun r => (¬ ((zgi σ 1 2).toInt ≤ x1.toInt ∧ x1.toInt ≤ 262656) ∧ r = Sum.inr (σ, 1)) ∨ (((zgi σ 1 2).toInt ≤ x1.toInt ∧ x1.toInt ≤ 262656) ∧ (zgi σ 1 2).toInt = 0 ∧ r = Sum.inr (σ, 2)) ∨ (((zgi σ 1 2).toInt ≤ x1.toInt ∧ x1.toInt ≤ 262656) ∧ ¬ (zgi σ 1 2).toInt = 0 ∧ ∃ s1 v, r = Sum.inl (s1, v) ∧ v = zgi σ 1 2 ∧ (zgi s1 1 2).toInt = x1.toInt)) := by
  unfold fX11_grow fX11_grow_19
  have c0 : (0 : Int32).toInt = 0 := rfl
  have c2 : (262656 : Int32).toInt = 262656 := rfl
  refine zpc_bv (fun v1 e1 => ?_)
  subst e1
  refine zpc_if (fun q => zpc_some (Or.inl ⟨fun h => ?_, rfl⟩)) (fun q => zpc_if (fun q1 => ?_) (fun q1 => zpc_some (Or.inl ⟨fun h => ?_, rfl⟩)))
  · have r := Int32.lt_iff_toInt_lt.mp q; omega
  · have r := Int32.le_iff_toInt_le.mp (z_nlt q)
    have r1 := Int32.le_iff_toInt_le.mp q1
    rw [c2] at r1
    refine zpc_if (fun q2 => ?_) (fun q2 => ?_)
    · exact zpc_some (Or.inr (Or.inl ⟨⟨r, r1⟩, by rw [q2]; exact c0, rfl⟩))
    · unfold fX2_repeatTape
      refine zpc_bu (P := fun r => zgi r 1 2 = x1) ?_ (fun σ2 h2 => ?_)
      · refine zpc_bv (fun v4 e4 => zpc_bv (fun v5 e5 => ?_))
        refine zpc_mono (p_repeat_15 _ _ _) (fun r' p => ?_)
        rw [p, e4, e5]
        have m1 : zmin x1 262656 = x1 := by
          unfold zmin
          rw [if_neg (fun h => by have := Int32.lt_iff_toInt_lt.mp h; omega)]
        rw [m1]
        unfold zmax
        split
        · rfl
        · next h => exact Int32.toInt_inj.mp (by have := Int32.le_iff_toInt_le.mp (z_nlt h); omega)
      · exact zpc_some (Or.inr (Or.inr ⟨⟨r, r1⟩, fun h => q2 (Int32.toInt_inj.mp (h.trans c0.symm)), σ2, _, rfl, rfl, by rw [h2]⟩))
  · have r := Int32.lt_iff_toInt_lt.mp (z_nle q1); omega
section ZEXACT
variable {K n k s : Int} {μ σ : zSt} {o : Nat → Int64}
theorem m_feedx (h : zRM K n k s μ) {x1 : Int32} {x2 x4 x6 : Int64} : zok (fX12_feed μ x1 x2 x4 x6) (fun r => zBr (zr 1 24 x1) (n + x1.toInt ≤ 262656) n (n + x1.toInt) (n + x1.toInt) (zgi r.1 0 0) (fun y => r.2.toInt = y) (fun n1 => zRM K n1 k s r.1)) := by
  obtain ⟨c, G, i, a, b, e0, e1, e2⟩ := h
  have hr : zr 0 262656 (zgi μ 0 2) := rM_0 i.sg 2 (by decide)
  have hn : (zgi μ 0 2).toInt = n := (i.at 0 (by decide)).trans e0
  refine zok_mono (zok_zpc (s_X12_feed i.E) (p_feed hr)) (fun r q => ?_)
  obtain ⟨⟨⟨G1, i1, g⟩, _⟩, p⟩ := q
  have g1 : ∀ i, ¬ i = 0 → G1 i = G i := fun i hi => g i (fun r => hi (List.mem_singleton.mp r))
  have f : zRM K (zgi r.1 0 2).toInt k s r.1 := ⟨c, G1, i1, a.keep (fun i hi => g1 i (fun r => by subst r; revert hi; decide)), b.keep (Int.le_refl _) (fun i hi => g1 i (fun r => by subst r; revert hi; decide)), (i1.at 0 (by decide)).symm, (g1 1 (by decide)).trans e1, (g1 2 (by decide)).trans e2⟩
  rcases p with ⟨p1, p2, p3⟩ | ⟨p1, p2, p3, p4⟩ | ⟨p1, p2, p3, p4, p5⟩
  · rw [p3, hn] at f
    exact Or.inl ⟨p1, p2, f⟩
  · rw [p4, hn] at f
    rw [hn] at p2
    exact Or.inr (Or.inl ⟨p1, p2, p3, f⟩)
  · rw [hn] at p2 p4
    rw [p4] at f
    exact Or.inr (Or.inr ⟨p1, p2, p3, by rw [p5]; exact p4, f⟩)
theorem m_growx (h : zRM K n k s μ) {x1 : Int32} : zok (fX12_grow μ x1) (fun r => zBr (n ≤ x1.toInt ∧ x1.toInt ≤ 262656) (¬ n = 0) n x1.toInt n (zgi r.1 0 0) (fun y => r.2.toInt = y) (fun n1 => zRM K n1 k s r.1)) := by
  obtain ⟨c, G, i, a, b, e0, e1, e2⟩ := h
  have hr : zr 0 262656 (zgi μ 0 2) := rM_0 i.sg 2 (by decide)
  have hn : (zgi μ 0 2).toInt = n := (i.at 0 (by decide)).trans e0
  refine zok_mono (zok_zpc (s_X12_grow i.E) (p_grow hr)) (fun r q => ?_)
  obtain ⟨⟨⟨G1, i1, g⟩, _⟩, p⟩ := q
  have g1 : ∀ i, ¬ i = 0 → G1 i = G i := fun i hi => g i (fun r => hi (List.mem_singleton.mp r))
  have f : zRM K (zgi r.1 0 2).toInt k s r.1 := ⟨c, G1, i1, a.keep (fun i hi => g1 i (fun r => by subst r; revert hi; decide)), b.keep (Int.le_refl _) (fun i hi => g1 i (fun r => by subst r; revert hi; decide)), (i1.at 0 (by decide)).symm, (g1 1 (by decide)).trans e1, (g1 2 (by decide)).trans e2⟩
  rcases p with ⟨p1, p2, p3⟩ | ⟨p1, p2, p3, p4⟩ | ⟨p1, p2, p3, p4, p5⟩
  · rw [p3, hn] at f
    rw [hn] at p1
    exact Or.inl ⟨p1, p2, f⟩
  · rw [p4, hn] at f
    rw [hn] at p1 p2
    exact Or.inr (Or.inl ⟨p1, fun h => h p2, p3, f⟩)
  · rw [hn] at p1 p2
    rw [p4] at f
    exact Or.inr (Or.inr ⟨p1, p2, p3, by rw [p5]; exact hn, f⟩)
theorem m_patchx (h : zRM K n k s μ) {x1 : Int32} {x2 : Int64} : zok (fX12_patch μ x1 x2) (fun r => zRM K n k s r ∧ (((0 ≤ x1.toInt ∧ x1.toInt ≤ n - 8) ∧ zgi r 0 0 = 0) ∨ (¬ (0 ≤ x1.toInt ∧ x1.toInt ≤ n - 8) ∧ zgi r 0 0 = 1))) := by
  have h0 := h
  obtain ⟨c, G, i, a, b, e0, e1, e2⟩ := h
  have hr : zr 0 262656 (zgi μ 0 2) := rM_0 i.sg 2 (by decide)
  have hn : (zgi μ 0 2).toInt = n := (i.at 0 (by decide)).trans e0
  have p := p_patch (x1 := x1) (x2 := x2) hr
  rw [hn] at p
  exact zok_zpc (m_patch h0) p
theorem l_feedx (h : zRC n k s σ) {x1 : Int32} {x2 x4 x6 : Int64} : zok (fL_feed o σ x1 x2 x4 x6) (fun r => zBr (zr 1 24 x1) (n + x1.toInt ≤ 262656) n (n + x1.toInt) (n + x1.toInt) r.2 (fun y => (r.1.1 0).toInt = y) (fun n1 => zRC n1 k s r.1.2)) := by
  have h0 := h
  obtain ⟨H, i, e0, e1, e2⟩ := h
  have hr : zr 0 262656 (zgi σ 1 2) := rC_0 i.sg 2 (by decide)
  have hn : (zgi σ 1 2).toInt = n := Eq.trans (i.fz 0 (1, 2) rfl) e0
  unfold fL_feed
  refine zok_zbr (zok_zpc (s_X11_feed i.E) (p_feedC hr)) (fun r q => ?_)
  obtain ⟨⟨q1, _⟩, p⟩ := q
  rcases p with ⟨p1, p2⟩ | ⟨p1, p2, p3⟩ | ⟨p1, p2, s1, v, p3, p4, p5⟩
  · subst p2
    show zok (some ((o, σ), (1 : Int32))) _
    exact zok_some (Or.inl ⟨p1, rfl, h0⟩)
  · subst p3
    rw [hn] at p2
    show zok (some ((o, σ), (2 : Int32))) _
    exact zok_some (Or.inr (Or.inl ⟨p1, p2, rfl, h0⟩))
  · subst p3
    rw [hn] at p2 p5
    obtain ⟨H1, i1, g⟩ := q1
    have i1 : zIC H1 s1 := i1
    have f : (zgi s1 1 2).toInt = H1 0 := i1.fz 0 (1, 2) rfl
    show zok (some ((vp_updL o 0 v.toInt64, s1), (0 : Int32))) _
    refine zok_some (Or.inr (Or.inr ⟨p1, p2, rfl, ?_, H1, i1, by rw [← f]; exact p5, (g 2 (by decide)).trans e1, (g 1 (by decide)).trans e2⟩))
    show (if (0 : Nat) = 0 then v.toInt64 else o 0).toInt = _
    rw [if_pos rfl, Int32.toInt_toInt64, p4]
    exact p5
theorem l_growx (h : zRC n k s σ) {x1 : Int32} : zok (fL_grow o σ x1) (fun r => zBr (n ≤ x1.toInt ∧ x1.toInt ≤ 262656) (¬ n = 0) n x1.toInt n r.2 (fun y => (r.1.1 0).toInt = y) (fun n1 => zRC n1 k s r.1.2)) := by
  have h0 := h
  obtain ⟨H, i, e0, e1, e2⟩ := h
  have hn : (zgi σ 1 2).toInt = n := Eq.trans (i.fz 0 (1, 2) rfl) e0
  unfold fL_grow
  refine zok_zbr (zok_zpc (s_X11_grow i.E) p_growC) (fun r q => ?_)
  obtain ⟨⟨q1, _⟩, p⟩ := q
  rcases p with ⟨p1, p2⟩ | ⟨p1, p2, p3⟩ | ⟨p1, p2, s1, v, p3, p4, p5⟩
  · subst p2
    rw [hn] at p1
    show zok (some ((o, σ), (1 : Int32))) _
    exact zok_some (Or.inl ⟨p1, rfl, h0⟩)
  · subst p3
    rw [hn] at p1 p2
    show zok (some ((o, σ), (2 : Int32))) _
    exact zok_some (Or.inr (Or.inl ⟨p1, fun h => h p2, rfl, h0⟩))
  · subst p3
    rw [hn] at p1 p2
    obtain ⟨H1, i1, g⟩ := q1
    have i1 : zIC H1 s1 := i1
    have f : (zgi s1 1 2).toInt = H1 0 := i1.fz 0 (1, 2) rfl
    show zok (some ((vp_updL o 0 v.toInt64, s1), (0 : Int32))) _
    refine zok_some (Or.inr (Or.inr ⟨p1, p2, rfl, ?_, H1, i1, by rw [← f]; exact p5, (g 2 (by decide)).trans e1, (g 1 (by decide)).trans e2⟩))
    show (if (0 : Nat) = 0 then v.toInt64 else o 0).toInt = _
    rw [if_pos rfl, Int32.toInt_toInt64, p4]
    exact hn
theorem l_patchx (h : zRC n k s σ) {x1 : Int32} {x2 : Int64} : zok (fL_patch σ x1 x2) (fun r => zRC n k s r.1 ∧ (((0 ≤ x1.toInt ∧ x1.toInt ≤ n - 8) ∧ r.2 = 0) ∨ (¬ (0 ≤ x1.toInt ∧ x1.toInt ≤ n - 8) ∧ r.2 = 1))) := by
  have h0 := h
  obtain ⟨H, i, e0, e1, e2⟩ := h
  have hr : zr 0 262656 (zgi σ 1 2) := rC_0 i.sg 2 (by decide)
  have hn : (zgi σ 1 2).toInt = n := Eq.trans (i.fz 0 (1, 2) rfl) e0
  have hr2 := hr.2
  unfold fL_patch
  refine zTh_hu ?_
  unfold fX11_patch fX11_patch_18
  have c0 : (0 : Int32).toInt = 0 := rfl
  have c8 : (8 : Int32).toInt = 8 := rfl
  have t : (zgi σ 1 2 - 8).toInt = (zgi σ 1 2).toInt - (8 : Int32).toInt := z_tsub hr (zr_c (lo := 8) (hi := 8) (by decide)) (by decide)
  refine zok_if (fun q => zok_some (Or.inr ⟨fun h => ?_, σ, rfl, h0⟩)) (fun q => zok_if (fun q1 => ?_) (fun q1 => zok_some (Or.inr ⟨fun h => ?_, σ, rfl, h0⟩)))
  · have r := Int32.lt_iff_toInt_lt.mp q; omega
  · have r := Int32.le_iff_toInt_le.mp (z_nlt q)
    have r1 := Int32.le_iff_toInt_le.mp q1
    rw [t, c8] at r1
    have ha : zr 0 262648 x1 := ⟨by omega, by omega⟩
    exact zok_bu (s_X2_changeTape i ha) (fun σ3 i3 => zok_some (Or.inl ⟨⟨by omega, by omega⟩, σ3, rfl, H, i3, e0, e1, e2⟩))
  · have r := Int32.lt_iff_toInt_lt.mp (z_nle q1); rw [t, c8] at r; omega
/-! load -/
def zTk (l : Int) (v : Int32) : Prop := (l < 8192 ∧ v = 1) ∨ (8192 ≤ l ∧ ¬ l % 8192 = 0 ∧ v = 2) ∨ (8192 ≤ l ∧ l % 8192 = 0 ∧ v = 0)
theorem zTk.both {l : Int} {v w : Int32} (h : zTk l v) (h' : zTk l w) : v = w := by
  rcases h with ⟨a, b⟩ | ⟨a, c, b⟩ | ⟨a, c, b⟩ <;> rcases h' with ⟨a', b'⟩ | ⟨a', c', b'⟩ | ⟨a', c', b'⟩ <;> first | exact b.trans b'.symm | (exfalso; omega)
def zLf (n : Int) : Int := if n % 16384 = 512 then n - 512 else n
/-- behind load: the length 0, what is saved forgotten if it answers 0 -/
def zLo (n s : Int) (v : Int32) (R : Int → Int → Prop) : Prop := zTk (zLf n) v ∧ ((v = 0 ∧ R 0 0) ∨ (¬ v = 0 ∧ R 0 s))
theorem zLo.both {n s : Int} {v w : Int32} {R R' : Int → Int → Prop} (h : zLo n s v R) (h' : zLo n s w R') : v = w ∧ ∃ s1, R 0 s1 ∧ R' 0 s1 := by
  obtain ⟨t, h⟩ := h
  obtain ⟨t', h'⟩ := h'
  have e := t.both t'
  refine ⟨e, ?_⟩
  rcases h with ⟨a, b⟩ | ⟨a, b⟩ <;> rcases h' with ⟨a', b'⟩ | ⟨a', b'⟩
  · exact ⟨0, b, b'⟩
  · exact absurd (e.symm.trans a) a'
  · exact absurd (e.trans a') a
  · exact ⟨s, b, b'⟩
theorem z_rem8 {v : Int32} {l : Int} (tl : v.toInt = l) (h : zr 8192 262656 v) (q : zrem v 8192 = 0) : l % 8192 = 0 := by
  have e := z_trem (y := (8192 : Int32)) 8192 rfl h (by decide)
  rw [q, tl] at e
  exact e.symm
theorem z_rem8n {v : Int32} {l : Int} (tl : v.toInt = l) (h : zr 8192 262656 v) (q : ¬ zrem v 8192 = 0) : ¬ l % 8192 = 0 := fun r => by
  have e := z_trem (y := (8192 : Int32)) 8192 rfl h (by decide)
  rw [tl, r] at e
  exact q (Int32.toInt_inj.mp e)
theorem q_take21 {G : Nat → Int} {σ : zSt} (hσ : zEC [0] G σ) {s0 : Int32} (h_s0 : zr (0) (512) s0) : zok (fX2_takeTape_21 σ s0) (fun r => zEC [0] G r.1 ∧ zr 0 0 (zgi r.1 1 2) ∧ zTk ((zgi σ 1 2).toInt - s0.toInt) r.2) := by
  unfold fX2_takeTape_21
  refine zok_br (zr_sub (lo := -512) (hi := 262656) (rC_0 hσ.sg _ (by decide)) h_s0 (by decide)) (fun v1 e2 h1 => ?_)
  have tl : v1.toInt = (zgi σ 1 2).toInt - s0.toInt := by
    rw [e2]
    exact z_tsub (rC_0 hσ.sg 2 (by decide)) h_s0 (by decide)
  refine zok_bs (hσ.wi 2 2 (by decide) (zr_c (lo := 0) (hi := 0) (by decide)) (by decide +kernel)) (fun σ2 e4 i3 => ?_)
  have w2 : zr 0 0 (zgi σ2 1 2) := z_own e4 (zr_c (lo := 0) (hi := 0) (by decide))
  have c8 : (8192 : Int32).toInt = 8192 := rfl
  refine zok_if (fun q5 => ?_) (fun q5 => ?_)
  · have q6 := Int32.le_iff_toInt_le.mp q5
    have h6 := zc_ler (8192) q5 (zr_c (lo := 8192) (hi := 8192) (by decide)) h1 (by decide)
    refine zok_ck (by decide) ?_
    refine zok_if (fun q7 => ?_) (fun q7 => ?_)
    · have h8 := zc_eql (0) (0) q7 (zr_rem (lo := 0) (hi := 8191) 8192 (by decide) h6 (by decide)) (zr_c (lo := 0) (hi := 0) (by decide)) (by decide)
      have h9 := z_m8 h6 h8
      refine zok_bs (i3.wi 1 1 (by decide) zr_any (by decide +kernel)) (fun σ3 e11 i10 => ?_)
      refine zok_bs (i10.wi 0 0 (by decide) zr_any (by decide +kernel)) (fun σ4 e13 i12 => ?_)
      refine zok_bs (i12.wi 3 3 (by decide) h_s0 (by decide +kernel)) (fun σ5 e15 i14 => ?_)
      refine zok_bs (i14.wi 4 4 (by decide) h9 (by decide +kernel)) (fun σ6 e17 i16 => ?_)
      refine zok_ck (by decide) ?_
      refine zok_bs (i16.wi 5 5 (by decide) (zr_div (lo := 1) (hi := 16) 16384 (by decide) (zr_sub (lo := 24575) (hi := 278527) (zr_add (lo := 24576) (hi := 278528) h9 (zr_c (lo := 16384) (hi := 16384) (by decide)) (by decide)) (zr_c (lo := 1) (hi := 1) (by decide)) (by decide)) (by decide)) (by decide +kernel)) (fun σ7 e19 i18 => ?_)
      refine zok_pi (s_X2_findHeader i18.P) (fun v9 h20 => ?_)
      refine zok_bs (i18.wi 7 7 (by decide) h20 (by decide +kernel)) (fun σ10 e22 i21 => ?_)
      refine zok_pi (s_X2_findPaging i21.P) (fun v12 h23 => ?_)
      refine zok_bs (i21.wi 6 6 (by decide) h23 (by decide +kernel)) (fun σ13 e25 i24 => ?_)
      have w13 : zr 0 0 (zgi σ13 1 2) := z_trj (j1 := 2) e25 (by decide) (z_trj (j1 := 2) e22 (by decide) (z_trj (j1 := 2) e19 (by decide) (z_trj (j1 := 2) e17 (by decide) (z_trj (j1 := 2) e15 (by decide) (z_trj (j1 := 2) e13 (by decide) (z_trj (j1 := 2) e11 (by decide) w2))))))
      exact zok_some ⟨i24, w13, Or.inr (Or.inr ⟨by omega, z_rem8 tl h6 q7, rfl⟩)⟩
    exact zok_some ⟨i3, w2, Or.inr (Or.inl ⟨by omega, z_rem8n tl h6 q7, rfl⟩)⟩
  have q6 := Int32.lt_iff_toInt_lt.mp (z_nle q5)
  exact zok_some ⟨i3, w2, Or.inl ⟨by omega, rfl⟩⟩
theorem z_rem16 {v : Int32} {n : Int} (tn : v.toInt = n) (h : zr 0 262656 v) : (zrem v 16384).toInt = n % 16384 := by
  rw [z_trem (y := (16384 : Int32)) 16384 rfl h (by decide), tn]
theorem c_loadx (h : zRC n k s σ) : zok (fX11_load σ ) (fun r => zLo n s r.2 (fun n1 s1 => zRC n1 k s1 r.1)) := by
  obtain ⟨H, i, e0, e1, e2⟩ := h
  have hr : zr 0 262656 (zgi σ 1 2) := rC_0 i.sg 2 (by decide)
  have hn : (zgi σ 1 2).toInt = n := Eq.trans (i.fz 0 (1, 2) rfl) e0
  have tk : zok (fX2_takeTape σ ) (fun r => zEC [0] H r.1 ∧ zr 0 0 (zgi r.1 1 2) ∧ zTk (zLf n) r.2) := by
    unfold fX2_takeTape
    refine zok_ck (by decide) ?_
    have m := z_rem16 hn hr
    have c5 : (512 : Int32).toInt = 512 := rfl
    have c0 : (0 : Int32).toInt = 0 := rfl
    refine zok_if (fun q1 => ?_) (fun q1 => ?_)
    · rw [q1, c5] at m
      have e : zLf n = (zgi σ 1 2).toInt - (512 : Int32).toInt := by unfold zLf; rw [if_pos m.symm, hn, c5]
      rw [e]
      exact q_take21 i.E (zr_c (by decide))
    · have e : zLf n = (zgi σ 1 2).toInt - (0 : Int32).toInt := by
        unfold zLf
        rw [if_neg (fun r => q1 (Int32.toInt_inj.mp (by rw [m, r]; rfl))), hn, c0]; omega
      rw [e]
      exact q_take21 i.E (zr_c (by decide))
  unfold fX11_load fX11_load_28
  refine zok_bi tk (fun σ1 v2 q => ?_)
  obtain ⟨q1, q2, q3⟩ := q
  obtain ⟨H1, i1, g⟩ := q1
  have z0 : H1 0 = 0 := by
    have f : (zgi σ1 1 2).toInt = H1 0 := i1.fz 0 (1, 2) rfl
    have := q2.1
    have := q2.2
    have f2 : (zgi (σ1, v2).1 1 2).toInt = (zgi σ1 1 2).toInt := rfl
    omega
  refine zok_if (fun q4 => ?_) (fun q4 => ?_)
  · refine zok_bu (s_X2_clearRam i1) (fun σ3 i5 => ?_)
    refine zok_bu (s_X11_clearAll i5) (fun σ4 i6 => ?_)
    refine zok_ck rfl ?_
    refine zok_bs (I := zEC [1] H1) (zEC.wi i6.E 11 11 (by decide) (zr_c (lo := 0) (hi := 0) (by decide)) (by decide +kernel)) (fun σ5 e8 i7 => ?_)
    obtain ⟨H2, i8, g2⟩ := i7
    have f : (zgi σ5 0 11).toInt = H2 1 := i8.fz 1 (0, 11) rfl
    have f0 : (zgi σ5 0 11).toInt = 0 := by
      rw [e8]
      show ((zsi σ4 0 11 0).1 0 11).toInt = 0
      rw [zsi_ej]
      rfl
    exact zok_some ⟨q3, Or.inl ⟨q4, H2, i8, (g2 0 (by decide)).trans z0, ((g2 2 (by decide)).trans (g 2 (by decide))).trans e1, f.symm.trans f0⟩⟩
  · exact zok_some ⟨q3, Or.inr ⟨q4, H1, i1, z0, (g 2 (by decide)).trans e1, (g 1 (by decide)).trans e2⟩⟩
theorem q_load26x {G : Nat → Int} (hσ : zIM G σ) {s0 : Int32} (h_s0 : zr (0) (512) s0) : zok (fX12_load_26 σ s0) (fun r => zTk (G 0 - s0.toInt) r.2 ∧ ((r.2 = 0 ∧ zLE [2, 4] (zset G 0 0) r.1 ∧ zgi r.1 0 19 = 0) ∨ (¬ r.2 = 0 ∧ zIM (zset G 0 0) r.1))) := by
  unfold fX12_load_26
  refine zok_br (zr_sub (lo := -512) (hi := 262656) (rM_0 hσ.sg _ (by decide)) h_s0 (by decide)) (fun v23 e2 h1 => ?_)
  have hg : (zgi σ 0 2).toInt = G 0 := hσ.at 0 (by decide)
  have tl : v23.toInt = G 0 - s0.toInt := by
    rw [e2, ← hg]
    exact z_tsub (rM_0 hσ.sg 2 (by decide)) h_s0 (by decide)
  refine zok_bs (I := zIM (zset G 0 0)) (zIM.wg (v := 0) 0 hσ (by decide) (by decide) (zr_c (lo := 0) (hi := 0) (by decide)) (by decide +kernel)) (fun σ24 e4 i3 => ?_)
  have c8 : (8192 : Int32).toInt = 8192 := rfl
  have c9 : (262144 : Int32).toInt = 262144 := rfl
  have b1 := h1.2
  refine zok_if (fun q5 => ?_) (fun q5 => ?_)
  · have q6 := Int32.le_iff_toInt_le.mp q5
    have h6 := zc_ler (8192) q5 (zr_c (lo := 8192) (hi := 8192) (by decide)) h1 (by decide)
    refine zok_ck (by decide) ?_
    refine zok_if (fun q7 => ?_) (fun q7 => ?_)
    · have m8 := z_rem8 tl h6 q7
      refine zok_if (fun q9 => ?_) (fun q9 => ?_)
      · have h10 := zc_lel (262144) q9 h6 (zr_c (lo := 262144) (hi := 262144) (by decide)) (by decide)
        refine zok_bs (I := zIM (zset G 0 0)) (i3.wi 5 5 (by decide) h10 (by decide +kernel)) (fun σ25 e12 i11 => ?_)
        refine zok_ck (by decide) ?_
        refine zok_bs (I := zIM (zset G 0 0)) (i11.wb (zr_div (lo := 1) (hi := 16) 16384 (by decide) (zr_add (lo := 24575) (hi := 278527) (z_own e12 h10) (zr_c (lo := 16383) (hi := 16383) (by decide)) (by decide)) (by decide)) (by decide)) (fun σ26 e14 i13 => ?_)
        refine zok_mono (zok_zpc (q_load_89 zfuel (zLE_of i13) h_s0 (zr_w (zr_c (lo := 0) (hi := 0) (by decide)) (by decide)) (z_own e14 (zr_div (lo := 1) (hi := 16) 16384 (by decide) (zr_add (lo := 24575) (hi := 278527) (z_own e12 h10) (zr_c (lo := 16383) (hi := 16383) (by decide)) (by decide)) (by decide))) (by decide)) (t_load_89 zfuel σ26 s0 0)) (fun r q => ?_)
        obtain ⟨⟨r1, _⟩, r2, r3⟩ := q
        exact ⟨Or.inr (Or.inr ⟨by omega, m8, r2⟩), Or.inl ⟨r2, r1, r3⟩⟩
      · have q10 := Int32.lt_iff_toInt_lt.mp (z_nle q9)
        exfalso
        omega
    · exact zok_some ⟨Or.inr (Or.inl ⟨by omega, z_rem8n tl h6 q7, rfl⟩), Or.inr ⟨(by decide : ¬ (2 : Int32) = 0), i3⟩⟩
  · have q6 := Int32.lt_iff_toInt_lt.mp (z_nle q5)
    exact zok_some ⟨Or.inl ⟨by omega, rfl⟩, Or.inr ⟨(by decide : ¬ (1 : Int32) = 0), i3⟩⟩
theorem m_loadx (h : zRM K n k s μ) : zok (fX12_load μ ) (fun r => zLo n s r.2 (fun n1 s1 => zRM K n1 k s1 r.1)) := by
  obtain ⟨c, G, i, a, b, e0, e1, e2⟩ := h
  have fin : ∀ (σ1 : zSt) (s0 : Int32) (i1 : zIM G σ1), zr (0) (512) s0 → zLf n = G 0 - s0.toInt → zok (fX12_load_26 σ1 s0) (fun r => zLo n s r.2 (fun n1 s1 => zRM K n1 k s1 r.1)) := fun σ1 s0 i1 h0 el => by
    refine zok_mono (q_load26x i1 h0) (fun r q => ?_)
    obtain ⟨q1, q2⟩ := q
    rw [← el] at q1
    refine ⟨q1, ?_⟩
    have v : ∀ i, ¬ i = 0 → zset G 0 0 i = G i := fun i hi => zset_ne hi
    rcases q2 with ⟨p1, ⟨d, hd, G1, j1, g⟩, p3⟩ | ⟨p1, p2⟩
    · rw [v 3 (by decide)] at hd
      have g1 : ∀ i, ¬ i ∈ [0, 2, 3, 4] → G1 i = G i := fun i hi => (g i (fun r => hi (by simp only [List.mem_cons, List.not_mem_nil, or_false] at r ⊢; omega))).trans ((zset_ne (fun e => hi (by subst e; decide))).trans (v i (fun e => hi (by subst e; decide))))
      have g3 : G1 3 = d := (g 3 (by decide)).trans zset_eq
      have g0 : G1 0 = 0 := (g 0 (by decide)).trans ((zset_ne (by decide)).trans zset_eq)
      have g2 : G1 2 = 0 := by
        have f : (zgi r.1 0 19).toInt = G1 2 := j1.at 2 (by decide)
        rw [← f, p3]
        rfl
      exact Or.inl ⟨p1, c, G1, j1, a.line (fun i hi => g1 i (fun r => by revert hi r; simp only [List.mem_cons, List.not_mem_nil, or_false]; omega)) (by rw [g3]; exact hd) j1.beat, b.keep (Int.le_refl _) (fun i hi => g1 i (fun r => by revert hi r; simp only [List.mem_cons, List.not_mem_nil, or_false]; omega)), g0, (g1 1 (by decide)).trans e1, g2⟩
    · exact Or.inr ⟨p1, c, _, p2, a.keep (fun i hi => v i (fun r => by subst r; revert hi; decide)), b.keep (Int.le_refl _) (fun i hi => v i (fun r => by subst r; revert hi; decide)), zset_eq, (v 1 (by decide)).trans e1, (v 2 (by decide)).trans e2⟩
  unfold fX12_load
  refine zok_bs (I := zIM G) (i.wi 0 0 (by decide) (zr_c (lo := 0) (hi := 0) (by decide)) (by decide +kernel)) (fun σ27 e3 i1 => ?_)
  refine zok_ck (by decide) ?_
  have hn : (zgi σ27 0 2).toInt = n := (i1.at 0 (by decide)).trans e0
  have m := z_rem16 hn (rM_0 i1.sg 2 (by decide))
  have c5 : (512 : Int32).toInt = 512 := rfl
  have c0 : (0 : Int32).toInt = 0 := rfl
  refine zok_if (fun q1 => ?_) (fun q1 => ?_)
  · rw [q1, c5] at m
    exact fin σ27 512 i1 (zr_c (by decide)) (by unfold zLf; rw [if_pos m.symm, e0, c5])
  · exact fin σ27 0 i1 (zr_c (by decide)) (by unfold zLf; rw [if_neg (fun r => q1 (Int32.toInt_inj.mp (by rw [m, r]; rfl))), e0, c0]; omega)
/-! save, restore -/
theorem c_savex (h : zRC n k s σ) : zok (fX11_save σ ) (fun r => zRC n k 1 r) := by
  obtain ⟨H, i, e0, e1, e2⟩ := h
  have p : zpc (fX11_save σ ) (fun r => zgi r 0 11 = 1) := by
    unfold fX11_save
    exact zpc_bu (P := fun _ => True) (fun _ _ => trivial) (fun _ _ => zpc_bu (P := fun _ => True) (fun _ _ => trivial) (fun _ _ => zpc_bu (P := fun _ => True) (fun _ _ => trivial) (fun _ _ => zpc_bu (P := fun _ => True) (fun _ _ => trivial) (fun _ _ => zpc_bu (P := fun _ => True) (fun _ _ => trivial) (fun _ _ => zpc_bu (P := fun _ => True) (fun _ _ => trivial) (fun _ _ => zpc_bu (P := fun _ => True) (fun _ _ => trivial) (fun _ _ => zpc_bu (P := fun _ => True) (fun _ _ => trivial) (fun _ _ => zpc_bu (P := fun _ => True) (fun _ _ => trivial) (fun _ _ => zpc_ck (zpc_bv (fun σ1 e1 => zpc_some (by subst e1; exact zsi_ej))))))))))))
  refine zok_mono (zok_zpc (s_X11_save i.E) p) (fun r q => ?_)
  obtain ⟨⟨H1, i1, g⟩, q2⟩ := q
  have f : (zgi r 0 11).toInt = H1 1 := i1.fz 1 (0, 11) rfl
  exact ⟨H1, i1, (g 0 (by decide)).trans e0, (g 2 (by decide)).trans e1, by rw [← f, q2]; rfl⟩
theorem l_restorex (h : zRC n k s σ) : zok (fL_restore σ ) (fun r => zRC n k s r.1 ∧ ((¬ s = 0 ∧ r.2 = 0) ∨ (¬ ¬ s = 0 ∧ r.2 = 1))) := by
  have h0 := h
  obtain ⟨H, i, e0, e1, e2⟩ := h
  have hs : (zgi σ 0 11).toInt = s := Eq.trans (i.fz 1 (0, 11) rfl) e2
  have p : zpc (fX11_restore σ ) (fun r => (s = 0 ∧ r = Sum.inr (σ, 2)) ∨ (¬ s = 0 ∧ ∃ s1, r = Sum.inl s1)) := by
    unfold fX11_restore
    refine zpc_if (fun q => zpc_some (Or.inl ⟨by rw [← hs, q]; rfl, rfl⟩)) (fun q => ?_)
    have n0 : ¬ s = 0 := fun r => q (Int32.toInt_inj.mp (by rw [hs, r]; rfl))
    exact zpc_bu (P := fun _ => True) (fun _ _ => trivial) (fun _ _ => zpc_bu (P := fun _ => True) (fun _ _ => trivial) (fun _ _ => zpc_bu (P := fun _ => True) (fun _ _ => trivial) (fun _ _ => zpc_bu (P := fun _ => True) (fun _ _ => trivial) (fun _ _ => zpc_bu (P := fun _ => True) (fun _ _ => trivial) (fun _ _ => zpc_bu (P := fun _ => True) (fun _ _ => trivial) (fun _ _ => zpc_bu (P := fun _ => True) (fun _ _ => trivial) (fun _ _ => zpc_bu (P := fun _ => True) (fun _ _ => trivial) (fun _ _ => zpc_bu (P := fun _ => True) (fun _ _ => trivial) (fun _ _ => zpc_some (Or.inr ⟨n0, _, rfl⟩))))))))))
  unfold fL_restore
  refine zTh_hu (zok_mono (zok_zpc (s_X11_restore i) p) (fun r q => ?_))
  obtain ⟨⟨q1, _⟩, q2⟩ := q
  rcases q2 with ⟨a, b⟩ | ⟨a, s1, b⟩
  · subst b
    exact Or.inr ⟨fun r => r a, σ, rfl, h0⟩
  · subst b
    exact Or.inl ⟨a, s1, rfl, H, q1, e0, e1, e2⟩
theorem m_restorex (h : zRM K n k s μ) : zok (fX12_restore μ ) (fun r => zRM K n k s r ∧ ((¬ s = 0 ∧ zgi r 0 0 = 0) ∨ (¬ ¬ s = 0 ∧ zgi r 0 0 = 1))) := by
  have h0 := h
  obtain ⟨c, G, i, a, b, e0, e1, e2⟩ := h
  have hs : (zgi μ 0 19).toInt = s := (i.at 2 (by decide)).trans e2
  refine zok_zpc (m_restore h0) ?_
  unfold fX12_restore
  refine zpc_if (fun q => ?_) (fun q => ?_)
  · unfold fX12_restore_13
    have z : s = 0 := by rw [← hs, q]; rfl
    refine zpc_fails1 (fun σ1 e1 => ?_)
    exact zpc_if (fun q => absurd q (by decide)) (fun _ => zpc_some (Or.inr ⟨fun r => r z, by subst e1; exact zTh_own⟩))
  · unfold fX12_restore_13
    have n0 : ¬ s = 0 := fun r => q (Int32.toInt_inj.mp (by rw [hs, r]; rfl))
    refine zpc_fails0 (fun σ1 e1 => ?_)
    refine zpc_if (fun _ => ?_) (fun q => absurd rfl q)
    exact zpc_mono (t_restore_23 (v := 0) _ _ _ (by subst e1; exact zTh_own)) (fun r p => Or.inl ⟨n0, p⟩)
end ZEXACT
/-! pause -/
def zHk (k h : Int) : Prop := (h = 0 ∧ ¬ k = 2) ∨ (¬ h = 0 ∧ k = 2)
theorem zHk.both {k h : Int} {v w : Int32} (d : zHk k h) (a : (h = 0 ∧ v = 1) ∨ (¬ h = 0 ∧ v = 0)) (b : (¬ k = 2 ∧ w = 1) ∨ (k = 2 ∧ w = 0)) : v = w := by
  rcases d with ⟨d1, d2⟩ | ⟨d1, d2⟩ <;> rcases a with ⟨a1, a2⟩ | ⟨a1, a2⟩ <;> rcases b with ⟨b1, b2⟩ | ⟨b1, b2⟩ <;> first | exact a2.trans b2.symm | exact absurd d1 a1 | exact absurd a1 d1 | exact absurd b1 d2 | exact absurd d2 b1
theorem c_pausex {n k s : Int} {σ : zSt} (h : zRC n k s σ) : zok (fX11_pause σ ) (fun r => zRC n k s r.1 ∧ ((k = 0 ∧ r.2 = 1) ∨ (¬ k = 0 ∧ r.2 = 0))) := by
  obtain ⟨H, i, e0, e1, e2⟩ := h
  refine zok_mono (q_pauseC i) (fun r q => ?_)
  obtain ⟨q1, q2⟩ := q
  rw [e1] at q2
  exact ⟨⟨H, q1, e0, e1, e2⟩, q2⟩
theorem m_pausex {K n k s : Int} {μ : zSt} (h : zRM K n k s μ) : zok (fX12_pause μ ) (fun r => zRM K n k s r.1 ∧ ((¬ k = 2 ∧ r.2 = 1) ∨ (k = 2 ∧ r.2 = 0))) := by
  obtain ⟨c, G, i, a, b, e0, e1, e2⟩ := h
  refine zok_mono (q_pauseM i) (fun r q => ?_)
  obtain ⟨q1, q2⟩ := q
  rw [e1] at q2
  exact ⟨⟨c, G, q1, a, b, e0, e1, e2⟩, q2⟩
