/-! LOAD -/
section ZLO
variable {σ μ μ0 s t : zSt} {B : Int × Int × Int} {v : Int32}
theorem zQ_eq (h : zQ [] [] [] [] μ t) : t = μ := Prod.ext (funext fun k => funext fun j => h.1 k j rfl) (funext fun k => funext fun j => h.2 k j rfl)
/-- while the reference loads -/
def zLq (μ0 μ : zSt) : Prop := zQ [2] [(0, 0, 0), (0, 2, 2), (0, 5, 9)] [] [] μ0 μ ∧ zFil μ ∧ zr 1 16 (μ.1 0 6) ∧ zr 0 3 (μ.1 0 7)
theorem zLq.w8 (h : zLq μ0 μ) : zLq μ0 (zsi μ 0 8 v) := ⟨zQ.wi h.1 rfl, h.2.1, h.2.2.1, h.2.2.2⟩
theorem zLq.w9 (h : zLq μ0 μ) : zLq μ0 (zsi μ 0 9 v) := ⟨zQ.wi h.1 rfl, h.2.1, h.2.2.1, h.2.2.2⟩
theorem zLq.w7 (h : zLq μ0 μ) (hv : zr 0 3 v) : zLq μ0 (zsi μ 0 7 v) := ⟨zQ.wi h.1 rfl, h.2.1, h.2.2.1, by rw [zsi_ej]; exact hv⟩
def zLp (μ0 : zSt) (r : zSt × Int32) : Prop := r.2 = 0 ∧ ∃ μb, zLq μ0 μb ∧ zAx μb r.1 ∧ ∀ j : Nat, j < 8192 → r.1.1 5 j &&& 255 = 0
theorem m_l414 : ∀ (n i : Nat) (t : zSt), i ≤ 8192 → zQ [5] [] [] [] μ t → (∀ j : Nat, j < i → t.1 5 j &&& 255 = 0) → zpc (fX12_load_414 n t (Int32.ofNat i)) (fun r => zQ [5] [(0, 19, 19)] [] [] μ r.1 ∧ (∀ j : Nat, j < 8192 → r.1.1 5 j &&& 255 = 0) ∧ r.2 = 0) := by
  intro n
  induction n with
  | zero => intro i t _ _ _; exact zpc_none
  | succ n ih =>
    intro i t hi hd hin
    show zpc (fX12_load_414_body (fX12_load_414 n) t (Int32.ofNat i)) _
    unfold fX12_load_414_body
    refine zpc_if (fun q => zpc_ck (zpc_bv (fun t1 g1 => zpc_some ⟨?_, fun j hj => ?_, rfl⟩))) (fun q => ?_)
    · rw [g1]; exact zQ.wi (hd.mono rfl rfl) rfl
    · have := (z_ofL (k := 8192) (by omega) rfl).mp q
      show t1.1 5 j &&& 255 = 0
      rw [g1, zsi_ne (by decide)]
      exact hin j (by omega)
    have hi2 : i < 8192 := by
      have : ¬ 8192 ≤ i := fun z => q ((z_ofL (c := 8192) (k := 8192) (i := i) (by omega) rfl).mpr z)
      omega
    rw [z_ofC (by omega), z_ofS (by omega)]
    refine zpc_ck (zpc_bv (fun s1 g1 => zpc_bv (fun x ex => ?_)))
    subst ex
    refine ih (i + 1) s1 (by omega) (by rw [g1]; exact zQ.wi hd rfl) (fun j hj => ?_)
    by_cases z : j = i
    · rw [z, g1, zsi_ej]; decide
    · rw [g1, zsi_nj z]; exact hin j (by omega)
theorem l_404 (h : zLq μ0 μ) {s0 : Int32} : zpc (fX12_load_404 μ s0) (zLp μ0) := by
  unfold fX12_load_404
  refine zpc_bv (fun t7 g7 => zpc_bu m_anewx (fun t8 a8 => ?_))
  refine zpc_mono (m_l414 (μ := t8) zfuel 0 t8 (by decide) zQ.rf (fun j hj => absurd hj (by omega))) (fun r q => ?_)
  obtain ⟨q1, q2, q3⟩ := q
  obtain ⟨a0, b41, b86, b165, b7, b8⟩ := a8
  have e3 : r.1.1 3 = t8.1 3 := q1.ro (k := 3) rfl
  refine ⟨q3, t7, by rw [g7]; exact h.w9, ⟨?_, ?_, ?_, ?_, ?_, ?_⟩, q2⟩
  · have m1 := a0.mono (R' := [5, 7, 8]) (A' := [(3, 0, 41), (3, 47, 86), (3, 98, 165), (3, 172, 279), (0, 19, 19)]) (S' := []) (B' := []) rfl rfl
    have m2 := q1.mono (R' := [5, 7, 8]) (A' := [(3, 0, 41), (3, 47, 86), (3, 98, 165), (3, 172, 279), (0, 19, 19)]) (S' := []) (B' := []) rfl rfl
    exact m1.tr m2
  · rw [e3]; exact b41
  · rw [e3]; exact b86
  · rw [e3]; exact b165
  · rw [q1.ro (k := 7) rfl]; exact b7
  · rw [q1.ro (k := 8) rfl]; exact b8
theorem l_385 (h : zLq μ0 μ) : zpc (fX12_load_385 μ ) (zLp μ0) := by
  unfold fX12_load_385
  exact zpc_if (fun _ => l_404 h) (fun _ => l_404 h)
theorem l_337 {x5 : Int32} : ∀ (n : Nat) (μ : zSt) (x6 : Int32), zLq μ0 μ → zpc (fX12_load_337 n μ x5 x6) (zLp μ0) := by
  intro n
  induction n with
  | zero => intro μ x6 _; exact zpc_none
  | succ n ih =>
    intro μ x6 h
    show zpc (fX12_load_337_body (fX12_load_337 n) μ x5 x6) _
    unfold fX12_load_337_body fX12_load_359
    have go : zpc (zck (zin x6 262144) (zbv (zsi μ 0 9 ((zgi μ 0 9) + ((zgi μ 2 x6.toNatClampNeg) &&& 255))) (fun σ9 => zbv (x6 + 1) (fun v10 => fX12_load_337 n σ9 x5 v10)))) (zLp μ0) := zpc_ck (zpc_bs (h.w9) (fun s hs => zpc_bv (fun v _ => ih s v hs)))
    exact zpc_if (fun _ => l_385 h) (fun _ => zpc_if (fun _ => go) (fun _ => zpc_if (fun _ => l_385 h) (fun _ => go)))
theorem l_298 {x5 : Int32} : ∀ (n : Nat) (μ : zSt) (x6 : Int32), zLq μ0 μ → zpc (fX12_load_298 n μ x5 x6) (zLp μ0) := by
  intro n
  induction n with
  | zero => intro μ x6 _; exact zpc_none
  | succ n ih =>
    intro μ x6 h
    show zpc (fX12_load_298_body (fX12_load_298 n) μ x5 x6) _
    unfold fX12_load_298_body
    exact zpc_if (fun _ => l_337 zfuel μ 32768 h) (fun _ => zpc_ck (zpc_bs (h.w9) (fun s hs => zpc_bv (fun v _ => ih s v hs))))
theorem l_259 (h : zLq μ0 μ) {s0 : Int32} (hs : zr 0 3 s0) : zpc (fX12_load_259 μ s0) (zLp μ0) := by
  unfold fX12_load_259 fX12_load_293
  exact zpc_bs (h.w7 hs) (fun s hs => zpc_bs (hs.w9) (fun s2 h2 => zpc_if (fun _ => zpc_ck (l_298 zfuel s2 0 h2)) (fun _ => l_298 zfuel s2 0 h2)))
theorem l_247 (h : zLq μ0 μ) : zpc (fX12_load_247 μ ) (zLp μ0) := by
  unfold fX12_load_247
  exact zpc_if (fun _ => l_259 h (zr_c (by decide))) (fun _ => l_259 h (zr_c (by decide)))
theorem l_214 (h : zLq μ0 μ) {x3 s0 : Int32} : zpc (fX12_load_214 μ x3 s0) (zLp μ0) := by
  unfold fX12_load_214
  exact zpc_if (fun _ => zpc_if (fun _ => l_247 h) (fun _ => zpc_if (fun _ => l_259 h (zr_c (by decide))) (fun _ => l_247 h))) (fun _ => l_259 h (zr_c (by decide)))
theorem l_192 (h : zLq μ0 μ) {s0 : Int32} : zpc (fX12_load_192 μ s0) (zLp μ0) := by
  unfold fX12_load_192
  refine zpc_if (fun _ => l_214 h) (fun _ => zpc_bi (fz_fX12_bytesAt (σ0 := μ) zQ.rf) (fun t1 w q => ?_))
  have e : t1 = μ := zQ_eq q
  rw [e]
  exact l_214 h
theorem l_142 : ∀ (n : Nat) (μ : zSt) (x3 : Int32), zLq μ0 μ → zpc (fX12_load_142 n μ x3) (zLp μ0) := by
  intro n
  induction n with
  | zero => intro μ x3 _; exact zpc_none
  | succ n ih =>
    intro μ x3 h
    show zpc (fX12_load_142_body (fX12_load_142 n) μ x3) _
    unfold fX12_load_142_body fX12_load_161
    refine zpc_if (fun _ => zpc_if (fun _ => l_192 h) (fun _ => zpc_bi (fz_fX12_bytesAt (σ0 := μ) zQ.rf) (fun t1 w q => ?_))) (fun _ => zpc_bi (fz_fX12_isHeader (σ0 := μ) zQ.rf) (fun t1 w q => ?_))
    · have e : t1 = μ := zQ_eq q
      rw [e]
      exact l_192 h
    · have e : t1 = μ := zQ_eq q
      rw [e]
      exact zpc_if (fun _ => zpc_bv (fun v _ => ih μ v h)) (fun _ => zpc_bs h.w8 (fun s hs => zpc_bv (fun v _ => ih s v hs)))
theorem l_89 {x1 z bk : Int32} (hb : zr 1 16 bk) : ∀ (n : Nat) (μ : zSt) (x3 : Int32), zr 0 262144 x3 → zQ [2] [(0, 0, 0), (0, 2, 2), (0, 5, 9)] [] [] μ0 μ → μ.1 0 5 = z → μ.1 0 6 = bk → zr 0 3 (μ.1 0 7) → (∀ j : Nat, z.toInt ≤ (j : Int) → (j : Int) < x3.toInt → μ.1 2 j &&& 255 = 255) → zpc (fX12_load_89 n μ x1 x3) (zLp μ0) := by
  intro n
  induction n with
  | zero => intro μ x3 _ _ _ _ _ _; exact zpc_none
  | succ n ih =>
    intro μ x3 h3 hd e5 e6 e7 hc
    show zpc (fX12_load_89_body (fX12_load_89 n) μ x1 x3) _
    unfold fX12_load_89_body fX12_load_126
    have b0 := h3.1
    have b9 := h3.2
    have k3 := z_clamp b0
    have tk := z_tmul (x := (16384 : Int32)) (y := bk) (zr_c (lo := 16384) (hi := 16384) (by decide)) hb (by decide)
    have kk : (16384 : Int32).toInt = 16384 := rfl
    rw [kk] at tk
    rw [show zgi μ 0 6 = bk from e6, show zgi μ 0 5 = z from e5]
    refine zpc_if (fun q => zpc_bv (fun μ1 m1 => ?_)) (fun q => ?_)
    · have q1 := Int32.le_iff_toInt_le.mp q
      have h : zLq μ0 μ := ⟨hd, fun j j1 j2 => hc j (by rw [e5] at j1; exact j1) (by rw [e6] at j2; omega), by rw [e6]; exact hb, e7⟩
      rw [m1]
      exact l_142 zfuel _ 8176 h.w8
    · have c1 : (1 : Int32).toInt = 1 := rfl
      have go : ∀ (y : Int32) (μ1 : zSt), x3.toInt < 262144 → μ1 = zsi μ 2 x3.toNatClampNeg (vp_nar .byte y) → (z.toInt ≤ x3.toInt → y &&& 255 = 255) → zpc (fX12_load_89 n μ1 x1 (x3 + 1)) (zLp μ0) := fun y μ1 hx m1 hy => by
        have t : (x3 + 1).toInt = x3.toInt + (1 : Int32).toInt := z_tadd h3 (zr_c (lo := 1) (hi := 1) (by decide)) (by decide)
        refine ih μ1 (x3 + 1) ⟨by omega, by omega⟩ ?_ ?_ ?_ ?_ (fun j j1 j2 => ?_)
        · rw [m1]; exact zQ.wi hd rfl
        · rw [m1, zsi_ne (by decide)]; exact e5
        · rw [m1, zsi_ne (by decide)]; exact e6
        · rw [m1, zsi_ne (by decide)]; exact e7
        · rw [m1]
          by_cases qj : j = x3.toNatClampNeg
          · rw [qj, zsi_ej, z_nar]
            exact hy (by omega)
          · rw [zsi_nj qj]
            exact hc j j1 (by omega)
      have inr : ∀ {w : Option (zSt × Int32)} {Q : zSt × Int32 → Prop}, (x3.toInt < 262144 → zpc w Q) → zpc (zck (zin x3 262144) w) Q := fun {w Q} h => by
        by_cases r : x3.toInt < 262144
        · exact zpc_ck (h r)
        · have e : zin x3 262144 = false := by
            have l : 262144 ≤ x3.toNatClampNeg := by omega
            show (!(decide (x3 < 0) || decide (262144 ≤ x3.toNatClampNeg))) = false
            rw [decide_eq_true l, Bool.or_true]
            rfl
          rw [e]
          exact zpc_none
      refine zpc_if (fun r => inr (fun hx => zpc_bv (fun μ1 m1 => zpc_bv (fun v e => ?_)))) (fun r => zpc_ck (inr (fun hx => zpc_bv (fun μ1 m1 => zpc_bv (fun v e => ?_)))))
      · subst e
        exact go (-1) μ1 hx m1 (fun _ => by decide)
      · subst e
        have r1 := Int32.lt_iff_toInt_lt.mp (z_nle r)
        exact go _ μ1 hx m1 (fun h => by exfalso; omega)
/-- the reference's load: refused, or taken -/
def zLr (μ : zSt) (r : zSt × Int32) : Prop := (¬ r.2 = 0 ∧ zQ [] [(0, 0, 0), (0, 2, 2)] [] [] μ r.1) ∨ zLp μ r
theorem l_26 (e7 : zr 0 3 (μ.1 0 7)) (hd : zQ [] [(0, 0, 0)] [] [] μ0 μ) (hr : zr 0 262656 (zgi μ 0 2)) {s0 : Int32} (h0 : zr 0 512 s0) : zpc (fX12_load_26 μ s0) (zLr μ0) := by
  unfold fX12_load_26
  refine zpc_bv (fun v e1 => zpc_bv (fun μ2 e2 => ?_))
  have rv : zr (-512) 262656 v := by rw [e1]; exact zr_sub (lo := -512) (hi := 262656) hr h0 (by decide)
  have d2 : zQ [] [(0, 0, 0), (0, 2, 2)] [] [] μ0 μ2 := by rw [e2]; exact zQ.wi (hd.mono rfl rfl) rfl
  refine zpc_if (fun q5 => zpc_ck (zpc_if (fun q7 => zpc_if (fun q9 => ?_) (fun _ => zpc_some (Or.inl ⟨(by decide : ¬ (3 : Int32) = 0), d2⟩))) (fun _ => zpc_some (Or.inl ⟨(by decide : ¬ (2 : Int32) = 0), d2⟩)))) (fun _ => zpc_some (Or.inl ⟨(by decide : ¬ (1 : Int32) = 0), d2⟩))
  have h6 := zc_ler (8192) q5 (zr_c (lo := 8192) (hi := 8192) (by decide)) rv (by decide)
  have h9 := zc_lel (262144) q9 h6 (zr_c (lo := 262144) (hi := 262144) (by decide)) (by decide)
  refine zpc_bv (fun μ3 e3 => zpc_ck (zpc_bv (fun μ4 e4 => ?_)))
  have t3 : zgi μ3 0 5 = v := by rw [e3]; exact zsi_ej
  rw [t3] at e4
  have rb : zr 1 16 ((v + 16383) / 16384) := zr_div (lo := 1) (hi := 16) 16384 (by decide) (zr_add (lo := 24575) (hi := 278527) h9 (zr_c (lo := 16383) (hi := 16383) (by decide)) (by decide)) (by decide)
  have a5 : μ4.1 0 5 = v := by rw [e4, zsi_nj (by decide)]; exact t3
  have a6 : μ4.1 0 6 = (v + 16383) / 16384 := by rw [e4]; exact zsi_ej
  have a7 : μ4.1 0 7 = μ.1 0 7 := by rw [e4, zsi_nj (by decide), e3, zsi_nj (by decide), e2, zsi_nj (by decide)]
  have d4 : zQ [2] [(0, 0, 0), (0, 2, 2), (0, 5, 9)] [] [] μ0 μ4 := by rw [e4, e3]; exact zQ.wi (zQ.wi (d2.mono rfl rfl) rfl) rfl
  refine zpc_mono (l_89 rb zfuel μ4 0 (zr_c (by decide)) d4 a5 a6 (by rw [a7]; exact e7) (fun j j1 j2 => ?_)) (fun r p => Or.inr p)
  rw [show (0 : Int32).toInt = 0 from rfl] at j2
  exfalso; omega
theorem l_load (e7 : zr 0 3 (μ.1 0 7)) (hr : zr 0 262656 (zgi μ 0 2)) : zpc (fX12_load μ ) (zLr μ) := by
  unfold fX12_load
  refine zpc_bv (fun μ1 e1 => zpc_ck ?_)
  have d1 : zQ [] [(0, 0, 0)] [] [] μ μ1 := by rw [e1]; exact zQ.wi zQ.rf rfl
  have f7 : zr 0 3 (μ1.1 0 7) := by rw [e1]; exact e7
  have fr : zr 0 262656 (zgi μ1 0 2) := by rw [e1]; exact hr
  exact zpc_if (fun _ => l_26 f7 d1 fr (zr_c (by decide))) (fun _ => l_26 f7 d1 fr (zr_c (by decide)))
/-- the class's load: refused, or taken -/
def zLs (σ : zSt) (r : zSt × Int32) : Prop := (¬ r.2 = 0 ∧ zQ [] [(1, 2, 2)] [] [] σ r.1) ∨ (r.2 = 0 ∧ ∃ σa, zQ [] [(1, 0, 7)] [] [] σ σa ∧ zCx σa r.1 ∧ (∀ j : Nat, j < 8192 → r.1.1 15 j = 0) ∧ r.1.1 0 11 = 0)
def zTkk (σ : zSt) (r : zSt × Int32) : Prop := (¬ r.2 = 0 ∧ zQ [] [(1, 2, 2)] [] [] σ r.1) ∨ (r.2 = 0 ∧ zQ [] [(1, 0, 7)] [] [] σ r.1)
theorem c_take21 {s0 : Int32} : zpc (fX2_takeTape_21 σ s0) (zTkk σ) := by
  unfold fX2_takeTape_21
  refine zpc_bv (fun v e1 => zpc_bv (fun σ2 e2 => ?_))
  have d2 : zQ [] [(1, 2, 2)] [] [] σ σ2 := by rw [e2]; exact zQ.wi zQ.rf rfl
  have d3 : zQ [] [(1, 0, 7)] [] [] σ σ2 := by rw [e2]; exact zQ.wi zQ.rf rfl
  refine zpc_if (fun _ => zpc_ck (zpc_if (fun _ => ?_) (fun _ => zpc_some (Or.inl ⟨(by decide : ¬ (2 : Int32) = 0), d2⟩)))) (fun _ => zpc_some (Or.inl ⟨(by decide : ¬ (1 : Int32) = 0), d2⟩))
  refine zpc_bs (zQ.wi d3 rfl) (fun s3 h3 => zpc_bs (zQ.wi h3 rfl) (fun s4 h4 => zpc_bs (zQ.wi h4 rfl) (fun s5 h5 => zpc_bs (zQ.wi h5 rfl) (fun s6 h6 => zpc_ck (zpc_bs (zQ.wi h6 rfl) (fun s7 h7 => zpc_bi (fx_fX2_findHeader (σ0 := s7) zQ.rf) (fun s8 v8 h8 => ?_)))))))
  have e8 : s8 = s7 := zQ_eq h8
  rw [e8]
  refine zpc_bs (zQ.wi h7 rfl) (fun s10 h10 => zpc_bi (fx_fX2_findPaging (σ0 := s10) zQ.rf) (fun s11 v11 h11 => ?_))
  have e11 : s11 = s10 := zQ_eq h11
  rw [e11]
  exact zpc_bs (zQ.wi h10 rfl) (fun s13 h13 => zpc_some (Or.inr ⟨rfl, h13⟩))
theorem k_load : zpc (fX11_load σ ) (zLs σ) := by
  unfold fX11_load fX11_load_28 fX2_takeTape
  refine zpc_bi (P := zTkk σ) (zpc_ck (zpc_if (fun _ => c_take21) (fun _ => c_take21))) (fun σ1 v2 p => zpc_if (fun q => ?_) (fun q => zpc_some ?_))
  · rcases p with ⟨p, _⟩ | ⟨_, p⟩
    · exact absurd q p
    unfold fX2_clearRam fJ7_fill_53178_k15
    refine zpc_bu (zpc_bu (c_f15 (σ := σ1) zfuel 0 σ1 (by decide) zQ.rf (fun j hj => absurd hj (by omega))) (fun r q => zpc_some q)) (fun σ3 q3 => zpc_bu c_clr (fun σ4 q4 => zpc_ck (zpc_bv (fun σ5 e5 => zpc_some ?_))))
    obtain ⟨a0, c19, c21, c23, c30, c32, c3268, c34, c36⟩ := q4
    have k : ∀ k, ¬ k = 0 → σ5.1 k = σ4.1 k := fun k hk => by rw [e5]; exact zsi_ne hk
    refine Or.inr ⟨q, σ1, p, ⟨?_, ?_, ?_, ?_, ?_, ?_, ?_, ?_, ?_⟩, fun j hj => ?_, ?_⟩
    · have m1 := q3.1.mono (R' := [15, 19, 21, 23, 30, 32, 36]) (A' := [(34, 0, 6), (0, 11, 11)]) (S' := []) (B' := []) rfl rfl
      have m2 := a0.mono (R' := [15, 19, 21, 23, 30, 32, 36]) (A' := [(34, 0, 6), (0, 11, 11)]) (S' := []) (B' := []) rfl rfl
      show zQ _ _ _ _ σ1 σ5
      rw [e5]
      exact zQ.wi (m1.tr m2) rfl
    · show σ5.1 19 0 = 0 ∧ σ5.1 19 1 = 1 ∧ σ5.1 19 2 = _ ∧ σ5.1 19 3 = 0
      rw [k 19 (by decide)]
      rw [q3.1.ro (k := 1) rfl] at c19
      exact c19
    · show ∀ j : Nat, j < 16384 → σ5.1 21 j = 0
      rw [k 21 (by decide)]; exact c21
    · show ∀ j : Nat, j < 96 → σ5.1 23 j = 0
      rw [k 23 (by decide)]; exact c23
    · show ∀ j : Nat, j < 19 → σ5.1 30 j = _
      rw [k 30 (by decide)]; exact c30
    · show ∀ j : Nat, j < 65 → σ5.1 32 j = 0
      rw [k 32 (by decide)]; exact c32
    · show σ5.1 32 68 = 0
      rw [k 32 (by decide)]; exact c3268
    · show σ5.1 34 0 = 255 ∧ σ5.1 34 1 = 127 ∧ σ5.1 34 2 = 255 ∧ σ5.1 34 3 = 0 ∧ σ5.1 34 4 = 255 ∧ σ5.1 34 5 = 0 ∧ σ5.1 34 6 = 0
      rw [k 34 (by decide)]; exact c34
    · show ∀ j : Nat, j ≤ 28 → σ5.1 36 j = _
      rw [k 36 (by decide)]; exact c36
    · show σ5.1 15 j = 0
      rw [k 15 (by decide), a0.ro (k := 15) rfl]
      exact q3.2 j hj
    · show σ5.1 0 11 = 0
      rw [e5]
      exact zsi_ej
  · rcases p with ⟨p, p2⟩ | ⟨p, _⟩
    · exact Or.inl ⟨p, p2⟩
    · exact absurd p q
theorem b_load (h : zNow B σ μ) (r6 : zR6 σ μ) (hr : zr 0 262656 (zgi μ 0 2)) : zp2 (fX11_load σ ) (fX12_load μ ) (fun r r' => r.2 = r'.2 → zr 0 512 (r.1.1 1 3) → zr 0 262144 (r.1.1 1 4) → zNow (B.1, B.2.1, 0) r.1 r'.1) := fun a b ea eb e rr3 rr4 => by
  have c := (z2_load r6 hr a b ea eb e).2.2
  have hpr := h.pr
  have r4 : zr 0 3 (μ.1 0 7) := hpr.2.2.2.1.2.2.2.1
  have hC := k_load a ea
  have hM := l_load r4 hr b eb
  rcases hC with ⟨x1, x2⟩ | ⟨x1, σa, x2, x3, x4, x5⟩
  · rcases hM with ⟨y1, y2⟩ | ⟨y1, _⟩
    · have n : zNow B a.1 b.1 := h.tape c (x2.mono rfl rfl) (y2.mono rfl rfl)
      exact n.bd (Int.le_refl _) n.1.2.2.2.2.2.2.1.2.2.2.2 n.mt.1
    · exact absurd (e.trans y1) x1
  · rcases hM with ⟨y1, y2⟩ | ⟨y1, μb, ⟨y2, y3, y4, y5⟩, y6, y7⟩
    · exact absurd (e.symm.trans x1) y1
    obtain ⟨m2, m5, m6, ⟨r1, r2, r3, _, r5⟩, hJ, ⟨p34, p40, p408, p25⟩, ⟨g34, g408⟩, hR, hP, hS, hT⟩ := hpr
    have k1 : a.1.1 1 = σa.1 1 := x3.1.ro (k := 1) rfl
    have cb : zCart σa μb := by
      refine zCart.keep c (fun j _ => by rw [k1]) ?_ (fun j hj => (y6.1.o (k := 0) (a := 0) (b := 18) rfl (Nat.zero_le _) (by revert hj; simp only [List.mem_cons, List.not_mem_nil, or_false]; omega)).symm) (y6.1.ro (k := 2) rfl).symm
      rcases z_tp13 (a.1.1 1 1) with z | z
      · rw [z]; exact (x3.1.ro (k := 13) rfl).symm
      · rw [z]; exact (x3.1.ro (k := 14) rfl).symm
    rw [k1] at rr3 rr4
    have f0 : ∀ k, ¬ k = 1 → σa.1 k = σ.1 k := fun k hk => funext fun j => x2.1 k j (by
      unfold zcv
      show (false || _) = false
      rw [Bool.false_or, List.any_eq_false]
      intro e he q
      rw [List.mem_singleton] at he
      subst he
      rw [Bool.and_eq_true] at q
      exact hk (Nat.eq_of_beq_eq_true q.1).symm)
    have pr : zPr B σa μb := by
      refine ⟨fun j hj => ?_, cb, y3, ⟨rr3, rr4, zr_w y4 (by decide), y5, Or.inr y4.1⟩, ?_, ⟨fun i hi => ?_, fun i hi => ?_, fun i hi => ?_, fun i hi => ?_⟩, ⟨?_, ?_⟩, ?_, ?_, ?_, ?_⟩
      · rw [f0 17 (by decide), y2.ro (k := 6) rfl]; exact m2 j hj
      · unfold zJp
        rw [f0 7 (by decide), y2.o (k := 0) (a := 31) (b := 31) rfl (j := 31) (by decide) (by decide)]
        exact hJ
      · rw [f0 34 (by decide), y2.ro (k := 3) rfl]; exact p34 i hi
      · rw [f0 40 (by decide), y2.ro (k := 3) rfl]; exact p40 i hi
      · rw [f0 40 (by decide), y2.ro (k := 3) rfl]; exact p408 i hi
      · rw [f0 25 (by decide), y2.ro (k := 9) rfl]; exact p25 i hi
      · rw [f0 34 (by decide)]; exact g34
      · rw [f0 40 (by decide)]; exact g408
      · unfold zRk
        rw [f0 0 (by decide), f0 2 (by decide), f0 3 (by decide), f0 6 (by decide), y2.o (k := 0) (a := 3) (b := 3) rfl (j := 3) (by decide) (by decide)]
        exact hR
      · exact hP.kp x2 y2 rfl rfl
      · exact hS.kp x2 y2 rfl rfl rfl rfl
      · unfold zCt
        rw [x2.rlo (k := 38) rfl, y2.rlo (k := 4) rfl]
        exact hT
    exact pr.rst x3 y6 (fun j hj => by rw [x4 j hj, y7 j hj])
end ZLO
