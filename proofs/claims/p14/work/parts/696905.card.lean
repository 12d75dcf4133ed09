/-! words, paging, header in the reference -/
theorem z_word {x y : Int32} (hx : zr 0 255 x) (hy : zr 0 255 y) : (y <<< ((8 : Int32) &&& 31)) ||| x = x + 256 * y := by
  have x0 := hx.1
  have x1 := hx.2
  have y0 := hy.1
  have y1 := hy.2
  have nx := z_tN x0
  have ny := z_tN y0
  have e1 : (y <<< ((8 : Int32) &&& 31)).toBitVec = y.toBitVec <<< (((8 : Int32) &&& 31).toBitVec.smod 32).toNat := rfl
  have e2 : (y <<< ((8 : Int32) &&& 31)).toBitVec.toNat = 2 ^ 8 * y.toBitVec.toNat := by
    rw [e1, show (((8 : Int32) &&& 31).toBitVec.smod 32).toNat = 8 from rfl, BitVec.toNat_shiftLeft, Nat.shiftLeft_eq, Nat.mul_comm, Nat.mod_eq_of_lt (by omega)]
  have e3 : ((y <<< ((8 : Int32) &&& 31)) ||| x).toBitVec.toNat = 2 ^ 8 * y.toBitVec.toNat + x.toBitVec.toNat := by
    rw [Int32.toBitVec_or, BitVec.toNat_or, e2, Nat.two_pow_add_eq_or_of_lt (by omega)]
  have e4 := z_Nt e3 (by omega)
  have t1 := z_tmul (x := (256 : Int32)) (y := y) (zr_c (lo := 256) (hi := 256) (by decide)) hy (by decide)
  have r1 := zr_mul (lo := 0) (hi := 65280) (x := (256 : Int32)) (y := y) (zr_c (lo := 256) (hi := 256) (by decide)) hy (by decide)
  have t2 := z_tadd hx r1 (by decide)
  have c : (256 : Int32).toInt = 256 := rfl
  refine Int32.toInt_inj.mp ?_
  rw [e4, t2, t1, c]
  omega
theorem z_byte (x : Int32) : zr 0 255 (x &&& 255) := zr_andr (lo := 0) (hi := 255) (zr_c (lo := 255) (hi := 255) (by decide)) (by decide)
theorem p_bytesAt {μ : zSt} {x : Int32} (h : zr 0 262142 x) : zpc (fX12_bytesAt μ x 2) (fun r => r.1 = μ ∧ r.2 = zWd (zMb μ) x.toNatClampNeg) := by
  unfold fX12_bytesAt
  obtain ⟨m, hm⟩ : ∃ m, zfuel = m + 1 + 1 + 1 := ⟨1999997, rfl⟩
  refine zpc_bv (fun v3 e3 => ?_)
  subst e3
  rw [hm]
  show zpc (fX12_bytesAt_7_body (fX12_bytesAt_7 (m + 1 + 1)) μ x 0 (2 - 1)) _
  unfold fX12_bytesAt_7_body
  refine zpc_if (fun q => absurd q (by decide)) (fun _ => zpc_ck (zpc_bv (fun v1 e1 => zpc_bv (fun v2 e2 => ?_))))
  subst e2
  show zpc (fX12_bytesAt_7_body (fX12_bytesAt_7 (m + 1)) μ x v1 (2 - 1 + (-1))) _
  unfold fX12_bytesAt_7_body
  refine zpc_if (fun q => absurd q (by decide)) (fun _ => zpc_ck (zpc_bv (fun w1 f1 => zpc_bv (fun w2 f2 => ?_))))
  subst f2
  show zpc (fX12_bytesAt_7_body (fX12_bytesAt_7 m) μ x w1 (2 - 1 + (-1) + (-1))) _
  unfold fX12_bytesAt_7_body
  refine zpc_if (fun _ => zpc_some ⟨rfl, ?_⟩) (fun q => absurd (by decide) q)
  show w1 = zWd (zMb μ) x.toNatClampNeg
  have h0 := h.1
  have k := z_clamp h0
  have c1 : ((2 : Int32) - 1).toInt = 1 := rfl
  have t : (x + (2 - 1)).toInt = x.toInt + ((2 : Int32) - 1).toInt := z_tadd h (zr_c (lo := 1) (hi := 1) (x := 2 - 1) (by decide)) (by decide)
  have k1 := z_clamp (x := x + (2 - 1)) (by omega)
  have z0 : x + (2 - 1 + (-1)) = x := by rw [show ((2 : Int32) - 1 + (-1)) = 0 by decide, Int32.add_zero]
  have v : v1 = zMb μ (x.toNatClampNeg + 1) := by
    rw [e1, show ((0 : Int32) <<< ((8 : Int32) &&& 31)) = 0 by decide, Int32.zero_or]
    show μ.1 2 (x + (2 - 1)).toNatClampNeg &&& 255 = _
    rw [show (x + (2 - 1)).toNatClampNeg = x.toNatClampNeg + 1 by omega]
    rfl
  rw [f1, z0, v]
  exact z_word (z_byte _) (z_byte _)
theorem zWd_r {b : Nat → Int32} {p : Nat} (h0 : zr 0 255 (b p)) (h1 : zr 0 255 (b (p + 1))) : zr 0 65535 (zWd b p) := zr_add (lo := 0) (hi := 65535) h0 (zr_mul (lo := 0) (hi := 65280) (zr_c (lo := 256) (hi := 256) (by decide)) h1 (by decide)) (by decide)
section ZLOAD2
variable {z bk : Int32} {B : Nat → Int32}
theorem zMid.wd {μ : zSt} (hm : zMid z bk B μ) {p : Nat} (h : (p : Int) + 1 < z.toInt) : zWd (zMb μ) p = zWd B p := by
  unfold zWd zMb
  rw [hm.2.2 p (by omega), hm.2.2 (p + 1) (by omega)]
theorem d_247 {μ : zSt} (hz : zr 0 262144 z) (hm : zMid z bk B μ) (hh : zIsH z B (μ.1 0 8)) (q : 49152 < z) (ne : ¬ zWd B 32742 + zWd B 32744 = 65536) : zpc (fX12_load_247 μ ) (zFin z bk B) := by
  unfold fX12_load_247
  exact zpc_if (fun r => d_259 hz hm hh (Or.inr (Or.inr (Or.inl ⟨q, ne, r, rfl⟩)))) (fun r => d_259 hz hm hh (Or.inr (Or.inr (Or.inr ⟨q, ne, r, rfl⟩))))
theorem d_192 {μ : zSt} (hz : zr 0 262144 z) (hB : ∀ j, zr 0 255 (B j)) (hm : zMid z bk B μ) (hh : zIsH z B (μ.1 0 8)) {s0 : Int32} (h0 : 49152 < z → s0 = zWd B 32742) : zpc (fX12_load_192 μ s0) (zFin z bk B) := by
  unfold fX12_load_192
  have g5 : zgi μ 0 5 = z := hm.1
  have c : (49152 : Int32).toInt = 49152 := rfl
  have c0 : (0 : Int32).toInt = 0 := rfl
  have c6 : (65536 : Int32).toInt = 65536 := rfl
  rw [g5]
  refine zpc_if (fun q => ?_) (fun q => ?_)
  · have nq : ¬ 49152 < z := fun r => by have := Int32.lt_iff_toInt_lt.mp r; have := Int32.le_iff_toInt_le.mp q; omega
    unfold fX12_load_214
    rw [g5]
    exact zpc_if (fun r => absurd r nq) (fun _ => d_259 hz hm hh (Or.inl ⟨nq, rfl⟩))
  · have q1 := Int32.lt_iff_toInt_lt.mp (z_nle q)
    have yq : 49152 < z := Int32.lt_iff_toInt_lt.mpr (by omega)
    refine zpc_bi (p_bytesAt (x := 32744) (zr_c (by decide))) (fun μ1 v p => ?_)
    obtain ⟨p1, p2⟩ := p
    have p1 : μ1 = μ := p1
    subst p1
    have p2 : v = zWd (zMb μ1) 32744 := p2
    rw [hm.wd (by omega)] at p2
    unfold fX12_load_214
    rw [g5, h0 yq, p2]
    have r1 := zWd_r (hB 32742) (hB (32742 + 1))
    have r2 := zWd_r (hB 32744) (hB (32744 + 1))
    have t := z_tadd r1 r2 (by decide)
    refine zpc_if (fun _ => zpc_if (fun r => ?_) (fun r => zpc_if (fun s => ?_) (fun s => d_247 hz hm hh yq s))) (fun r => absurd yq r)
    · refine d_247 hz hm hh yq (fun s => ?_)
      have r3 := Int32.le_iff_toInt_le.mp r
      have r4 := r2.2
      rw [s, c6] at t
      omega
    · exact d_259 hz hm hh (Or.inr (Or.inl ⟨yq, s, rfl⟩))
/-- isHeader -/
theorem p_isH_15 {μ : zSt} {x1 : Int32} (hm : zMid z bk B μ) (h1 : 0 ≤ x1.toInt) (h2 : x1.toInt + 16 ≤ z.toInt) (hz : z.toInt ≤ 262144) : ∀ (n : Nat) (x2 : Int32), zr 0 8 x2 → (∀ i : Nat, (i : Int) < x2.toInt → B (x1.toNatClampNeg + i) = zt0 i) → zpc (fX12_isHeader_15 n μ x1 x2) (fun r => r.1 = μ ∧ ((zHm B x1.toNatClampNeg ∧ r.2 = 1) ∨ (¬ zHm B x1.toNatClampNeg ∧ r.2 = 0))) := by
  intro n
  induction n with
  | zero => intro x2 _ _; exact zpc_none
  | succ n ih =>
    intro x2 h3 hI
    show zpc (fX12_isHeader_15_body (fX12_isHeader_15 n) μ x1 x2) _
    unfold fX12_isHeader_15_body
    have c8 : (8 : Int32).toInt = 8 := rfl
    have b0 := h3.1
    have b8 := h3.2
    have k1 := z_clamp h1
    have k2 := z_clamp b0
    refine zpc_if (fun q => ?_) (fun q => zpc_ck ?_)
    · have q1 := Int32.le_iff_toInt_le.mp q
      have e8 : x2 = 8 := Int32.toInt_inj.mp (by omega)
      unfold fX12_isHeader_114 fX12_isHeader_125
      refine zpc_if (fun _ => zpc_ck (zpc_some ⟨rfl, Or.inl ⟨fun i hi => hI i (by omega), rfl⟩⟩)) (fun r => absurd e8 r)
    · have q1 := Int32.lt_iff_toInt_lt.mp (z_nle q)
      have t : (x1 + x2).toInt = x1.toInt + x2.toInt := z_tadd (a := 0) (b := 262144) (c := 0) (d := 8) ⟨h1, by omega⟩ h3 (by decide)
      have ks := z_clamp (x := x1 + x2) (by omega)
      have by1 : (zgi μ 2 (x1 + x2).toNatClampNeg) &&& 255 = B (x1.toNatClampNeg + x2.toNatClampNeg) := by
        rw [← hm.2.2 _ (by omega), show (x1 + x2).toNatClampNeg = x1.toNatClampNeg + x2.toNatClampNeg by omega]
        rfl
      rw [by1]
      have go : ∀ s0, s0 = zt0 x2.toNatClampNeg → zpc (fX12_isHeader_105 (fX12_isHeader_15 n) μ x1 x2 s0 (B (x1.toNatClampNeg + x2.toNatClampNeg))) (fun r => r.1 = μ ∧ ((zHm B x1.toNatClampNeg ∧ r.2 = 1) ∨ (¬ zHm B x1.toNatClampNeg ∧ r.2 = 0))) := fun s0 e0 => by
        unfold fX12_isHeader_105 fX12_isHeader_114 fX12_isHeader_125
        rw [e0]
        refine zpc_if (fun r => zpc_bv (fun v e => ?_)) (fun r => ?_)
        · subst e
          have c1 : (1 : Int32).toInt = 1 := rfl
          have t2 : (x2 + 1).toInt = x2.toInt + (1 : Int32).toInt := z_tadd h3 (zr_c (lo := 1) (hi := 1) (by decide)) (by decide)
          refine ih (x2 + 1) ⟨by omega, by omega⟩ (fun i hi => ?_)
          by_cases qi : i = x2.toNatClampNeg
          · rw [qi]; exact r
          · exact hI i (by omega)
        · refine zpc_if (fun s => ?_) (fun _ => zpc_ck (zpc_some ⟨rfl, Or.inr ⟨fun m => r (m _ (by omega)), rfl⟩⟩))
          rw [s] at q1
          exact absurd q1 (by decide)
      have lit : ∀ m : Nat, x2 = Int32.ofNat m → m < 8 → x2.toNatClampNeg = m := fun m e hm => by
        rw [e]
        have k : ∀ i : Fin 8, (Int32.ofNat i.val).toNatClampNeg = i.val := by decide
        exact k ⟨m, hm⟩
      refine zpc_if (fun r => go _ (by rw [lit 0 r (by decide)]; rfl)) (fun r0 => zpc_if (fun r => go _ (by rw [lit 1 r (by decide)]; rfl)) (fun r1 => zpc_if (fun r => go _ (by rw [lit 2 r (by decide)]; rfl)) (fun r2 => zpc_if (fun r => go _ (by rw [lit 3 r (by decide)]; rfl)) (fun r3 => zpc_if (fun r => go _ (by rw [lit 4 r (by decide)]; rfl)) (fun r4 => zpc_if (fun r => go _ (by rw [lit 5 r (by decide)]; rfl)) (fun r5 => zpc_if (fun r => go _ (by rw [lit 6 r (by decide)]; rfl)) (fun r6 => ?_)))))))
      have e7 : x2 = Int32.ofNat 7 := by
        obtain ⟨i, hi⟩ : ∃ i : Nat, x2.toInt = i := ⟨x2.toInt.toNat, by omega⟩
        have e := z_ofN hi
        have n0 : ∀ m : Nat, ¬ x2 = Int32.ofNat m → ¬ i = m := fun m h r => h (by rw [e, r])
        have a0 := n0 0 r0
        have a1 := n0 1 r1
        have a2 := n0 2 r2
        have a3 := n0 3 r3
        have a4 := n0 4 r4
        have a5 := n0 5 r5
        have a6 := n0 6 r6
        rw [e, show i = 7 by omega]
      exact go _ (by rw [lit 7 e7 (by decide)]; rfl)
theorem p_isH {μ : zSt} {x1 : Int32} (hm : zMid z bk B μ) (h1 : zr 0 32752 x1) (hz : zr 0 262144 z) : zpc (fX12_isHeader μ x1) (fun r => r.1 = μ ∧ ((zHp z B x1.toNatClampNeg ∧ r.2 = 1) ∨ (¬ zHp z B x1.toNatClampNeg ∧ r.2 = 0))) := by
  unfold fX12_isHeader
  have c6 : (16 : Int32).toInt = 16 := rfl
  have t : (x1 + 16).toInt = x1.toInt + (16 : Int32).toInt := z_tadd h1 (zr_c (lo := 16) (hi := 16) (by decide)) (by decide)
  have k1 := z_clamp h1.1
  rw [show zgi μ 0 5 = z from hm.1]
  refine zpc_if (fun q => ?_) (fun q => ?_)
  · have q1 := Int32.le_iff_toInt_le.mp q
    refine zpc_mono (p_isH_15 hm h1.1 (by omega) hz.2 zfuel 0 (zr_c (by decide)) (fun i hi => ?_)) (fun r p => ⟨p.1, ?_⟩)
    · have : (0 : Int32).toInt = 0 := rfl
      exfalso
      omega
    · rcases p.2 with ⟨a, b⟩ | ⟨a, b⟩
      · exact Or.inl ⟨⟨by omega, a⟩, b⟩
      · exact Or.inr ⟨fun m => a m.2, b⟩
  · have q1 := Int32.lt_iff_toInt_lt.mp (z_nle q)
    exact zpc_ck (zpc_some ⟨rfl, Or.inr ⟨fun m => by have := m.1; omega, rfl⟩⟩)
/-- behind the three places -/
theorem d_142e {μ : zSt} (hz : zr 0 262144 z) (hB : ∀ j, zr 0 255 (B j)) (hm : zMid z bk B μ) (hh : zIsH z B (μ.1 0 8)) {n : Nat} : zpc (fX12_load_142 n μ (2 * 32752 + 16)) (zFin z bk B) := by
  cases n with
  | zero => exact zpc_none
  | succ n =>
    show zpc (fX12_load_142_body (fX12_load_142 n) μ (2 * 32752 + 16)) _
    unfold fX12_load_142_body
    have g5 : zgi μ 0 5 = z := hm.1
    have c : (49152 : Int32).toInt = 49152 := rfl
    rw [g5]
    refine zpc_if (fun _ => zpc_if (fun q => ?_) (fun q => ?_)) (fun q => absurd (by decide) q)
    · refine d_192 hz hB hm hh (fun r => ?_)
      have := Int32.lt_iff_toInt_lt.mp r
      have := Int32.le_iff_toInt_le.mp q
      exfalso
      omega
    · have q1 := Int32.lt_iff_toInt_lt.mp (z_nle q)
      refine zpc_bi (p_bytesAt (x := 32742) (zr_c (by decide))) (fun μ1 v p => ?_)
      obtain ⟨p1, p2⟩ := p
      have p1 : μ1 = μ := p1
      subst p1
      have p2 : v = zWd (zMb μ1) 32742 := p2
      rw [hm.wd (by omega)] at p2
      exact d_192 hz hB hm hh (fun _ => p2)
/-- one place -/
theorem d_142s {μ : zSt} {x3 : Int32} (hm : zMid z bk B μ) (h3 : zr 0 32752 x3) (hz : zr 0 262144 z) (nl : ¬ 32768 ≤ x3) {n : Nat} {Q : zSt × Int32 → Prop} (k : ∀ μ1, zMid z bk B μ1 → ((zHp z B x3.toNatClampNeg ∧ μ1.1 0 8 = x3) ∨ (¬ zHp z B x3.toNatClampNeg ∧ μ1.1 0 8 = μ.1 0 8)) → zpc (fX12_load_142 n μ1 (2 * x3 + 16)) Q) : zpc (fX12_load_142 (n + 1) μ x3) Q := by
  show zpc (fX12_load_142_body (fX12_load_142 n) μ x3) _
  unfold fX12_load_142_body fX12_load_161
  refine zpc_if (fun q => absurd q nl) (fun _ => zpc_bi (p_isH hm h3 hz) (fun μ1 v p => ?_))
  obtain ⟨p1, p2⟩ := p
  have p1 : μ1 = μ := p1
  subst p1
  refine zpc_if (fun q => zpc_bv (fun w e => ?_)) (fun q => zpc_bv (fun μ2 e2 => zpc_bv (fun w e => ?_)))
  · subst e
    rcases p2 with ⟨_, b⟩ | ⟨a, b⟩
    · have b : v = 1 := b
      rw [b] at q
      exact absurd q (by decide)
    · exact k _ hm (Or.inr ⟨a, rfl⟩)
  · subst e
    rcases p2 with ⟨a, b⟩ | ⟨a, b⟩
    · exact k _ (hm.w e2 (by decide)) (Or.inl ⟨a, by rw [e2]; exact zsi_ej⟩)
    · exact absurd b q
theorem d_142 {μ : zSt} (hz : zr 0 262144 z) (hB : ∀ j, zr 0 255 (B j)) (hm : zMid z bk B μ) (h8 : μ.1 0 8 = -1) : zpc (fX12_load_142 zfuel μ 8176) (zFin z bk B) := by
  obtain ⟨m, hf⟩ : ∃ m, zfuel = m + 1 + 1 + 1 := ⟨1999997, rfl⟩
  rw [hf]
  refine d_142s hm (zr_c (by decide)) hz (by decide) (fun μ1 m1 a1 => ?_)
  rw [show (2 : Int32) * 8176 + 16 = 16368 by decide]
  refine d_142s m1 (zr_c (by decide)) hz (by decide) (fun μ2 m2 a2 => ?_)
  rw [show (2 : Int32) * 16368 + 16 = 32752 by decide]
  refine d_142s m2 (zr_c (by decide)) hz (by decide) (fun μ3 m3 a3 => ?_)
  refine d_142e hz hB m3 ?_
  rcases a3 with ⟨b3, e3⟩ | ⟨b3, e3⟩
  · exact Or.inl ⟨b3, e3⟩
  · rcases a2 with ⟨b2, e2⟩ | ⟨b2, e2⟩
    · exact Or.inr (Or.inl ⟨b3, b2, e3.trans e2⟩)
    · rcases a1 with ⟨b1, e1⟩ | ⟨b1, e1⟩
      · exact Or.inr (Or.inr (Or.inl ⟨b3, b2, b1, (e3.trans e2).trans e1⟩))
      · exact Or.inr (Or.inr (Or.inr ⟨b3, b2, b1, ((e3.trans e2).trans e1).trans h8⟩))
/-- the copy -/
theorem d_89 {T : Nat → Int32} {x1 : Int32} (hz : zr 0 262144 z) (hB : ∀ j, zr 0 255 (B j)) (h1 : zr 0 512 x1) (hT : ∀ j : Nat, (j : Int) < z.toInt → T (x1.toNatClampNeg + j) &&& 255 = B j) (hk : z.toInt ≤ (16384 * bk).toInt) : ∀ (n : Nat) (μ : zSt) (x3 : Int32), zr 0 262144 x3 → μ.1 1 = T → μ.1 0 5 = z → μ.1 0 6 = bk → (∀ j : Nat, (j : Int) < x3.toInt → (j : Int) < z.toInt → μ.1 2 j &&& 255 = B j) → zpc (fX12_load_89 n μ x1 x3) (zFin z bk B) := by
  intro n
  induction n with
  | zero => intro μ x3 _ _ _ _ _; exact zpc_none
  | succ n ih =>
    intro μ x3 h3 e1 e5 e6 hc
    show zpc (fX12_load_89_body (fX12_load_89 n) μ x1 x3) _
    unfold fX12_load_89_body fX12_load_126
    have b0 := h3.1
    have b9 := h3.2
    have z2 := hz.2
    have k3 := z_clamp b0
    rw [show zgi μ 0 6 = bk from e6, show zgi μ 0 5 = z from e5]
    refine zpc_if (fun q => zpc_bv (fun μ1 m1 => ?_)) (fun q => ?_)
    · have q1 := Int32.le_iff_toInt_le.mp q
      refine d_142 hz hB ⟨?_, ?_, fun j hj => ?_⟩ ?_
      · rw [m1, zsi_nj (by decide)]; exact e5
      · rw [m1, zsi_nj (by decide)]; exact e6
      · rw [m1, zsi_ne (by decide)]; exact hc j (by omega) hj
      · rw [m1]; exact zsi_ej
    · have c1 : (1 : Int32).toInt = 1 := rfl
      have go : ∀ (y : Int32) (μ1 : zSt), x3.toInt < 262144 → μ1 = zsi μ 2 x3.toNatClampNeg (vp_nar .byte y) → (x3.toInt < z.toInt → y &&& 255 = B x3.toNatClampNeg) → zpc (fX12_load_89 n μ1 x1 (x3 + 1)) (zFin z bk B) := fun y μ1 hx m1 hy => by
        have t : (x3 + 1).toInt = x3.toInt + (1 : Int32).toInt := z_tadd h3 (zr_c (lo := 1) (hi := 1) (by decide)) (by decide)
        refine ih μ1 (x3 + 1) ⟨by omega, by omega⟩ ?_ ?_ ?_ (fun j hj hjz => ?_)
        · rw [m1, zsi_ne (by decide)]; exact e1
        · rw [m1, zsi_ne (by decide)]; exact e5
        · rw [m1, zsi_ne (by decide)]; exact e6
        · rw [m1]
          by_cases qj : j = x3.toNatClampNeg
          · rw [qj, zsi_ej, z_nar]
            exact hy (by omega)
          · rw [zsi_nj qj]
            exact hc j (by omega) hjz
      have inr : ∀ {w : Option (zSt × Int32)} {Q : zSt × Int32 → Prop}, (x3.toInt < 262144 → zpc w Q) → zpc (zck (zin x3 262144) w) Q := fun {w Q} h => by
        by_cases r : x3.toInt < 262144
        · exact zpc_ck (h r)
        · have e : zin x3 262144 = false := by
            have l : 262144 ≤ x3.toNatClampNeg := by omega
            show (!(decide (x3 < 0) || decide (262144 ≤ x3.toNatClampNeg))) = false
            rw [decide_eq_true l, Bool.or_true]
            rfl
          rw [e]
          exact zpc_none
      refine zpc_if (fun r => inr (fun hx => zpc_bv (fun μ1 m1 => zpc_bv (fun v e => ?_)))) (fun r => zpc_ck (inr (fun hx => zpc_bv (fun μ1 m1 => zpc_bv (fun v e => ?_)))))
      · subst e
        have r1 := Int32.le_iff_toInt_le.mp r
        exact go _ μ1 hx m1 (fun h => by exfalso; omega)
      · subst e
        have r1 := Int32.lt_iff_toInt_lt.mp (z_nle r)
        have t : (x1 + x3).toInt = x1.toInt + x3.toInt := z_tadd h1 h3 (by decide)
        have b1 := h1.1
        have k1 := z_clamp b1
        have ks := z_clamp (x := x1 + x3) (by omega)
        refine go _ μ1 hx m1 (fun h => ?_)
        show μ.1 1 (x1 + x3).toNatClampNeg &&& 255 = _
        rw [e1, show (x1 + x3).toNatClampNeg = x1.toNatClampNeg + x3.toNatClampNeg by omega]
        exact hT _ (by omega)
end ZLOAD2
