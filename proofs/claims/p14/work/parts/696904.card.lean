/-! the reference's load -/
def zMb (μ : zSt) (j : Nat) : Int32 := μ.1 2 j &&& 255
def zMid (z bk : Int32) (B : Nat → Int32) (μ : zSt) : Prop := μ.1 0 5 = z ∧ μ.1 0 6 = bk ∧ ∀ j : Nat, (j : Int) < z.toInt → μ.1 2 j &&& 255 = B j
def zFin (z bk : Int32) (B : Nat → Int32) (r : zSt × Int32) : Prop := zMid z bk B r.1 ∧ zIsH z B (r.1.1 0 8) ∧ zIsP z B (r.1.1 0 8) (r.1.1 0 7) ∧ (0 ≤ (r.1.1 0 8).toInt → r.1.1 0 9 = zSum z (r.1.1 0 8) B)
theorem zMid.w {z bk : Int32} {B : Nat → Int32} {μ μ1 : zSt} {j : Nat} {v : Int32} (h : zMid z bk B μ) (e : μ1 = zsi μ 0 j v) (c : ¬ 5 = j ∧ ¬ 6 = j) : zMid z bk B μ1 := by
  subst e
  refine ⟨?_, ?_, fun i hi => ?_⟩
  · rw [zsi_nj c.1]; exact h.1
  · rw [zsi_nj c.2]; exact h.2.1
  · rw [zsi_ne (by decide)]; exact h.2.2 i hi
theorem zSm_cong {b b' : Nat → Int32} : ∀ (n i : Nat) (a : Int32), (∀ j, i ≤ j → j < i + n → b j = b' j) → zSm b n i a = zSm b' n i a := by
  intro n
  induction n with
  | zero => intro i a _; rfl
  | succ n ih =>
    intro i a h
    show zSm b n (i + 1) (a + b i) = zSm b' n (i + 1) (a + b' i)
    rw [h i (by omega) (by omega)]
    exact ih (i + 1) _ (fun j h1 h2 => h j (by omega) (by omega))
theorem zSum_cong {z h : Int32} {b b' : Nat → Int32} (e : ∀ j : Nat, (j : Int) < z.toInt → b j = b' j) (h0 : 0 ≤ h.toInt) (h1 : h.toInt + 16 ≤ z.toInt) : zSum z h b = zSum z h b' := by
  have kh := z_clamp h0
  have kz := z_clamp (x := z) (by omega)
  unfold zSum
  rw [zSm_cong (b := b) (b' := b') h.toNatClampNeg 0 0 (fun j _ h2 => e j (by omega)), zSm_cong (b := b) (b' := b') (z.toNatClampNeg - 32768) 32768 _ (fun j h1 h2 => e j (by omega)), e (h.toNatClampNeg + 15) (by omega)]
theorem z_and15 {x : Int32} : x &&& 15 = (x &&& 255) &&& 15 := by
  rw [Int32.and_assoc, show (255 : Int32) &&& 15 = 15 by decide]
section ZLOAD
variable {z bk : Int32} {B : Nat → Int32}
theorem d_404 {μ : zSt} {s0 : Int32} (hm : zMid z bk B μ) (hh : zIsH z B (μ.1 0 8)) (hp : zIsP z B (μ.1 0 8) (μ.1 0 7)) (hs : 0 ≤ (μ.1 0 8).toInt → s0 = zSum z (μ.1 0 8) B) : zpc (fX12_load_404 μ s0) (zFin z bk B) := by
  unfold fX12_load_404
  refine zpc_bv (fun μ1 e1 => ?_)
  have k1 : zKeM μ1 μ1 := ⟨rfl, rfl, fun _ _ => rfl⟩
  refine zpc_bu (w_fX12_anew k1) (fun μ2 k2 => zpc_mono (w_fX12_load_414 (σ0 := μ1) _ _ _ k2) (fun r k => ?_))
  obtain ⟨_, a2, a3⟩ := k
  have m1 : zMid z bk B μ1 := hm.w e1 (by decide)
  have e8 : r.1.1 0 8 = μ.1 0 8 := (a3 8 (by decide)).trans (by rw [e1]; exact zsi_nj (by decide))
  have e7 : r.1.1 0 7 = μ.1 0 7 := (a3 7 (by decide)).trans (by rw [e1]; exact zsi_nj (by decide))
  have e9 : r.1.1 0 9 = s0 := (a3 9 (by decide)).trans (by rw [e1]; exact zsi_ej)
  refine ⟨⟨(a3 5 (by decide)).trans m1.1, (a3 6 (by decide)).trans m1.2.1, fun j hj => by rw [a2]; exact m1.2.2 j hj⟩, ?_, ?_, ?_⟩
  · rw [e8]; exact hh
  · rw [e8, e7]; exact hp
  · rw [e8, e9]; exact hs
theorem d_385 {μ : zSt} (hm : zMid z bk B μ) (hh : zIsH z B (μ.1 0 8)) (hp : zIsP z B (μ.1 0 8) (μ.1 0 7)) (hs : 0 ≤ (μ.1 0 8).toInt → μ.1 0 9 &&& 65535 = zSum z (μ.1 0 8) B) : zpc (fX12_load_385 μ ) (zFin z bk B) := by
  unfold fX12_load_385
  have c0 : (0 : Int32).toInt = 0 := rfl
  refine zpc_if (fun q => d_404 hm hh hp hs) (fun q => d_404 hm hh hp (fun r => absurd (Int32.le_iff_toInt_le.mpr (by rw [c0]; exact r)) q))
/-- the second loop, where the bytes from 32768 on count -/
theorem d_337 {x5 : Int32} {S : Int32} (hl : 13 < x5 ∨ ¬ 3 ≤ x5) (hz : zr 0 262144 z) : ∀ (n : Nat) (μ : zSt) (x6 : Int32), zr 32768 262144 x6 → zMid z bk B μ → zIsH z B (μ.1 0 8) → zIsP z B (μ.1 0 8) (μ.1 0 7) → zSm B (z.toNatClampNeg - x6.toNatClampNeg) x6.toNatClampNeg (μ.1 0 9) = S → (0 ≤ (μ.1 0 8).toInt → S &&& 65535 = zSum z (μ.1 0 8) B) → zpc (fX12_load_337 n μ x5 x6) (zFin z bk B) := by
  intro n
  induction n with
  | zero => intro μ x6 _ _ _ _ _ _; exact zpc_none
  | succ n ih =>
    intro μ x6 h6 hm hh hp hS hs
    show zpc (fX12_load_337_body (fX12_load_337 n) μ x5 x6) _
    unfold fX12_load_337_body
    have b6 := h6.1
    have k6 := z_clamp (x := x6) (by omega)
    have kz := z_clamp hz.1
    have z2 := hz.2
    have g5 : zgi μ 0 5 = z := hm.1
    rw [g5]
    have go : ¬ z ≤ x6 → zpc (fX12_load_359 (fX12_load_337 n) μ x5 x6) (zFin z bk B) := fun q => by
      have q1 := Int32.lt_iff_toInt_lt.mp (z_nle q)
      unfold fX12_load_359
      refine zpc_ck (zpc_bv (fun μ1 e1 => zpc_bv (fun v e => ?_)))
      subst e
      have c1 : (1 : Int32).toInt = 1 := rfl
      have t : (x6 + 1).toInt = x6.toInt + (1 : Int32).toInt := z_tadd h6 (zr_c (lo := 1) (hi := 1) (by decide)) (by decide)
      have k7 := z_clamp (x := x6 + 1) (by omega)
      have e8 : μ1.1 0 8 = μ.1 0 8 := by rw [e1]; exact zsi_nj (by decide)
      have e7 : μ1.1 0 7 = μ.1 0 7 := by rw [e1]; exact zsi_nj (by decide)
      have e9 : μ1.1 0 9 = μ.1 0 9 + B x6.toNatClampNeg := by
        rw [e1, zsi_ej, ← hm.2.2 x6.toNatClampNeg (by omega)]
        rfl
      refine ih μ1 (x6 + 1) ⟨by omega, by omega⟩ (hm.w e1 (by decide)) (by rw [e8]; exact hh) (by rw [e8, e7]; exact hp) ?_ (by rw [e8]; exact hs)
      rw [← hS, e9, show (x6 + 1).toNatClampNeg = x6.toNatClampNeg + 1 by omega, show z.toNatClampNeg - x6.toNatClampNeg = (z.toNatClampNeg - (x6.toNatClampNeg + 1)) + 1 by omega]
      rfl
    have stop : z ≤ x6 → zpc (fX12_load_385 μ ) (zFin z bk B) := fun q => by
      have q1 := Int32.le_iff_toInt_le.mp q
      rw [show z.toNatClampNeg - x6.toNatClampNeg = 0 by omega] at hS
      have hS : μ.1 0 9 = S := hS
      exact d_385 hm hh hp (fun r => by rw [hS]; exact hs r)
    refine zpc_if (fun q => stop q) (fun q => zpc_if (fun _ => go q) (fun q1 => zpc_if (fun q2 => ?_) (fun _ => go q)))
    rcases hl with a | a
    · exact absurd a q1
    · exact absurd q2 a
theorem d_337s {x5 : Int32} (h1 : ¬ 13 < x5) (h2 : 3 ≤ x5) {n : Nat} {μ : zSt} (hm : zMid z bk B μ) (hh : zIsH z B (μ.1 0 8)) (hp : zIsP z B (μ.1 0 8) (μ.1 0 7)) (hs : 0 ≤ (μ.1 0 8).toInt → μ.1 0 9 &&& 65535 = zSum z (μ.1 0 8) B) : zpc (fX12_load_337 n μ x5 32768) (zFin z bk B) := by
  cases n with
  | zero => exact zpc_none
  | succ n =>
    show zpc (fX12_load_337_body (fX12_load_337 n) μ x5 32768) _
    unfold fX12_load_337_body
    exact zpc_if (fun _ => d_385 hm hh hp hs) (fun _ => zpc_if (fun q => absurd q h1) (fun _ => zpc_if (fun _ => d_385 hm hh hp hs) (fun q => absurd h2 q)))
/-- the first loop -/
theorem d_298 {x5 h : Int32} (hz : zr 0 262144 z) (hhz : h.toInt < z.toInt) (hc : 0 ≤ h.toInt → x5 = B (h.toNatClampNeg + 15) &&& 15) : ∀ (n : Nat) (μ : zSt) (x6 : Int32), μ.1 0 8 = h → 0 ≤ x6.toInt → x6.toInt ≤ 262144 → zMid z bk B μ → zIsH z B h → zIsP z B h (μ.1 0 7) → (0 ≤ h.toInt → x6.toInt ≤ h.toInt ∧ zSm B (h.toNatClampNeg - x6.toNatClampNeg) x6.toNatClampNeg (μ.1 0 9) = zSm B h.toNatClampNeg 0 0) → zpc (fX12_load_298 n μ x5 x6) (zFin z bk B) := by
  intro n
  induction n with
  | zero => intro μ x6 _ _ _ _ _ _ _; exact zpc_none
  | succ n ih =>
    intro μ x6 e8 h0 h6 hm hh hp hS
    show zpc (fX12_load_298_body (fX12_load_298 n) μ x5 x6) _
    unfold fX12_load_298_body
    have k6 := z_clamp h0
    have z2 := hz.2
    rw [show zgi μ 0 8 = h from e8]
    refine zpc_if (fun q => ?_) (fun q => ?_)
    · have q1 := Int32.le_iff_toInt_le.mp q
      have hs9 : 0 ≤ h.toInt → μ.1 0 9 = zSm B h.toNatClampNeg 0 0 := fun r => by
        obtain ⟨s1, s2⟩ := hS r
        have kh := z_clamp r
        rw [show h.toNatClampNeg - x6.toNatClampNeg = 0 by omega] at s2
        exact s2
      by_cases q2 : 13 < x5
      · refine d_337 (S := zSm B (z.toNatClampNeg - 32768) 32768 (μ.1 0 9)) (Or.inl q2) hz zfuel μ 32768 (zr_c (by decide)) hm (by rw [e8]; exact hh) (by rw [e8]; exact hp) rfl (fun r => ?_)
        rw [e8] at r ⊢
        unfold zSum
        rw [← hc r, if_pos q2, hs9 r]
      · by_cases q3 : 3 ≤ x5
        · refine d_337s q2 q3 hm (by rw [e8]; exact hh) (by rw [e8]; exact hp) (fun r => ?_)
          rw [e8] at r ⊢
          unfold zSum
          rw [← hc r, if_neg q2, if_pos q3, hs9 r]
        · refine d_337 (S := zSm B (z.toNatClampNeg - 32768) 32768 (μ.1 0 9)) (Or.inr q3) hz zfuel μ 32768 (zr_c (by decide)) hm (by rw [e8]; exact hh) (by rw [e8]; exact hp) rfl (fun r => ?_)
          rw [e8] at r ⊢
          unfold zSum
          rw [← hc r, if_neg q2, if_neg q3, hs9 r]
    · have q1 := Int32.lt_iff_toInt_lt.mp (z_nle q)
      refine zpc_ck (zpc_bv (fun μ1 e1 => zpc_bv (fun v e => ?_)))
      subst e
      have c1 : (1 : Int32).toInt = 1 := rfl
      have t : (x6 + 1).toInt = x6.toInt + (1 : Int32).toInt := z_tadd (a := 0) (b := 262144) ⟨h0, h6⟩ (zr_c (lo := 1) (hi := 1) (by decide)) (by decide)
      have k7 := z_clamp (x := x6 + 1) (by omega)
      have f8 : μ1.1 0 8 = h := by rw [e1, zsi_nj (by decide)]; exact e8
      have f7 : μ1.1 0 7 = μ.1 0 7 := by rw [e1]; exact zsi_nj (by decide)
      have f9 : μ1.1 0 9 = μ.1 0 9 + B x6.toNatClampNeg := by
        rw [e1, zsi_ej, ← hm.2.2 x6.toNatClampNeg (by omega)]
        rfl
      refine ih μ1 (x6 + 1) f8 (by omega) (by omega) (hm.w e1 (by decide)) hh (by rw [f7]; exact hp) (fun r => ⟨by omega, ?_⟩)
      obtain ⟨s1, s2⟩ := hS r
      have kh := z_clamp r
      rw [← s2, f9, show (x6 + 1).toNatClampNeg = x6.toNatClampNeg + 1 by omega, show h.toNatClampNeg - x6.toNatClampNeg = (h.toNatClampNeg - (x6.toNatClampNeg + 1)) + 1 by omega]
      rfl
theorem zIsH.lt {h : Int32} (a : zIsH z B h) (hz : 0 ≤ z.toInt) : h.toInt < z.toInt ∧ (0 ≤ h.toInt → h.toInt + 16 ≤ z.toInt) := by
  rcases a with ⟨a1, e⟩ | ⟨_, a1, e⟩ | ⟨_, _, a1, e⟩ | ⟨_, _, _, e⟩
  · have := a1.1; rw [e, show (32752 : Int32).toInt = 32752 from rfl]; omega
  · have := a1.1; rw [e, show (16368 : Int32).toInt = 16368 from rfl]; omega
  · have := a1.1; rw [e, show (8176 : Int32).toInt = 8176 from rfl]; omega
  · rw [e, show (-1 : Int32).toInt = -1 from rfl]; omega
theorem d_259 {μ : zSt} {s0 : Int32} (hz : zr 0 262144 z) (hm : zMid z bk B μ) (hh : zIsH z B (μ.1 0 8)) (hp : zIsP z B (μ.1 0 8) s0) : zpc (fX12_load_259 μ s0) (zFin z bk B) := by
  unfold fX12_load_259 fX12_load_293
  refine zpc_bv (fun μ1 e1 => zpc_bv (fun μ2 e2 => ?_))
  have m2 := (hm.w e1 (by decide)).w e2 (by decide)
  have f8 : μ2.1 0 8 = μ.1 0 8 := by rw [e2, zsi_nj (by decide), e1]; exact zsi_nj (by decide)
  have f7 : μ2.1 0 7 = s0 := by rw [e2, zsi_nj (by decide), e1]; exact zsi_ej
  have f9 : μ2.1 0 9 = 0 := by rw [e2]; exact zsi_ej
  obtain ⟨l1, l2⟩ := hh.lt hz.1
  have z2 := hz.2
  have c0 : (0 : Int32).toInt = 0 := rfl
  rw [show zgi μ2 0 8 = μ.1 0 8 from f8]
  refine zpc_if (fun q => zpc_ck ?_) (fun q => ?_)
  · have q1 := Int32.le_iff_toInt_le.mp q
    rw [c0] at q1
    have l3 := l2 q1
    have t : (μ.1 0 8 + 15).toInt = (μ.1 0 8).toInt + (15 : Int32).toInt := z_tadd (a := 0) (b := 262144) ⟨q1, by omega⟩ (zr_c (lo := 15) (hi := 15) (by decide)) (by decide)
    have c5 : (15 : Int32).toInt = 15 := rfl
    have k := z_clamp q1
    have k1 := z_clamp (x := μ.1 0 8 + 15) (by omega)
    refine d_298 (h := μ.1 0 8) hz l1 (fun _ => ?_) zfuel μ2 0 f8 (by decide) (by decide) m2 hh (by rw [f7]; exact hp) (fun _ => ⟨q1, ?_⟩)
    · show μ2.1 2 (μ.1 0 8 + 15).toNatClampNeg &&& 15 = _
      rw [z_and15, m2.2.2 _ (by omega), show (μ.1 0 8 + 15).toNatClampNeg = (μ.1 0 8).toNatClampNeg + 15 by omega]
    · rw [f9]
      rfl
  · refine d_298 (h := μ.1 0 8) hz l1 (fun r => absurd (Int32.le_iff_toInt_le.mpr (by rw [c0]; exact r)) q) zfuel μ2 0 f8 (by decide) (by decide) m2 hh (by rw [f7]; exact hp) (fun r => absurd (Int32.le_iff_toInt_le.mpr (by rw [c0]; exact r)) q)
end ZLOAD
