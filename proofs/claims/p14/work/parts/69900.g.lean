theorem zok_biE {α : Type} {o : Option (zSt × Int32)} {f : zSt → Int32 → Option α} {Q : zSt × Int32 → Prop} {P : α → Prop} (h : zok o Q) (k : ∀ σ v, o = some (σ, v) → Q (σ, v) → zok (f σ v) P) : zok (zbi o f) P := by
  obtain ⟨a, e, q⟩ := h
  subst e
  exact k a.1 a.2 rfl q
theorem zok_bllE {α : Type} {o : Option (zSt × Int64)} {f : zSt → Int64 → Option α} {Q : zSt × Int64 → Prop} {P : α → Prop} (h : zok o Q) (k : ∀ σ v, o = some (σ, v) → Q (σ, v) → zok (f σ v) P) : zok (zbl o f) P := by
  obtain ⟨a, e, q⟩ := h
  subst e
  exact k a.1 a.2 rfl q
theorem zok_buE {α : Type} {o : Option zSt} {f : zSt → Option α} {Q : zSt → Prop} {P : α → Prop} (h : zok o Q) (k : ∀ σ, o = some σ → Q σ → zok (f σ) P) : zok (zbu o f) P := by
  obtain ⟨a, e, q⟩ := h
  subst e
  exact k a rfl q
theorem zok_bhE {α : Type} {q : Option (zHs × Int32)} {f : (Nat → Int64) → zSt → Int32 → Option α} {Q : zHs × Int32 → Prop} {P : α → Prop} (h : zok q Q) (k : ∀ o σ v, q = some ((o, σ), v) → Q ((o, σ), v) → zok (f o σ v) P) : zok (zbh q f) P := by
  obtain ⟨a, e, r⟩ := h
  subst e
  exact k a.1.1 a.1.2 a.2 rfl r
theorem zh2_st {S : Type} {x : S} {k : Nat} {r : S × Int32} (h : zh2 x k = some r) : r.1 = x := by
  unfold zh2 at h
  split at h
  · cases h; rfl
  · split at h
    · cases h; rfl
    · cases h
theorem zh1_st {S : Type} {n : Nat} {x : S} {k : Nat} {r : S × Int32} (h : zh1 n x k = some r) : r.1 = x := by
  unfold zh1 at h
  split at h
  · cases h; rfl
  · cases h
theorem zp2_hi {β : Type} {o : Nat → Int64} {t : zHs → Nat → Option (zHs × Int32)} {q : Option zRi} {p : Option β} {I : zSt → β → Prop} (ht : ∀ (x : zHs) (k : Nat) (r : zHs × Int32), t x k = some r → r.1 = x) (h : zp2 q p (fun r r' => I (zRis r) r')) : zp2 (zbr q (zhi o t)) p (fun r r' => I r.1.2 r') := by
  intro a b ea eb
  cases q with
  | none => cases ea
  | some r =>
    have i := h r b rfl eb
    have ea : zhi o t r = some a := ea
    rcases r with x | x
    · have ea : some ((vp_updL o 0 x.2.toInt64, x.1), (0 : Int32)) = some a := ea
      cases ea
      exact i
    · have ea : t (o, x.1) x.2 = some a := ea
      have e := ht _ _ _ ea
      rw [e]
      exact i
theorem zp2_hl {β : Type} {o : Nat → Int64} {t : zHs → Nat → Option (zHs × Int32)} {q : Option zRl} {p : Option β} {I : zSt → β → Prop} (ht : ∀ (x : zHs) (k : Nat) (r : zHs × Int32), t x k = some r → r.1 = x) (h : zp2 q p (fun r r' => I (zRls r) r')) : zp2 (zbr q (zhl o t)) p (fun r r' => I r.1.2 r') := by
  intro a b ea eb
  cases q with
  | none => cases ea
  | some r =>
    have i := h r b rfl eb
    have ea : zhl o t r = some a := ea
    rcases r with x | x
    · have ea : some ((vp_updL o 0 x.2, x.1), (0 : Int32)) = some a := ea
      cases ea
      exact i
    · have ea : t (o, x.1) x.2 = some a := ea
      have e := ht _ _ _ ea
      rw [e]
      exact i
theorem zp2_hu {β : Type} {t : zSt → Nat → Option (zSt × Int32)} {q : Option zRu} {p : Option β} {I : zSt → β → Prop} (ht : ∀ (x : zSt) (k : Nat) (r : zSt × Int32), t x k = some r → r.1 = x) (h : zp2 q p (fun r r' => I (zRus r) r')) : zp2 (zbr q (zhu t)) p (fun r r' => I r.1 r') := by
  intro a b ea eb
  cases q with
  | none => cases ea
  | some r =>
    have i := h r b rfl eb
    have ea : zhu t r = some a := ea
    rcases r with x | x
    · have ea : some (x, (0 : Int32)) = some a := ea
      cases ea
      exact i
    · have ea : t x.1 x.2 = some a := ea
      have e := ht _ _ _ ea
      rw [e]
      exact i
theorem zKeC_rfl {σ : zSt} : zKeC σ σ := ⟨rfl, rfl, rfl⟩
theorem zKeM_rfl {μ : zSt} : zKeM μ μ := ⟨rfl, rfl, fun _ _ => rfl⟩
section ZR6
variable {K n k s k' n' s' : Int} {σ μ : zSt} {o : Nat → Int64}
theorem zRM.len (h : zRM K n k s μ) : zr 0 262656 (zgi μ 0 2) ∧ (zgi μ 0 2).toInt = n := by
  obtain ⟨c, G, i, a, b, e0, e1, e2⟩ := h
  exact ⟨rM_0 i.sg 2 (by decide), (i.at 0 (by decide)).trans e0⟩
theorem zRC.len (h : zRC n k s σ) : (zgi σ 1 2).toInt = n ∧ zr 0 512 (σ.1 1 3) ∧ zr 0 262144 (σ.1 1 4) := by
  obtain ⟨H, i, e0, e1, e2⟩ := h
  exact ⟨Eq.trans (i.fz 0 (1, 2) rfl) e0, rC_1 i.sg 3 (by decide), rC_2 i.sg 4 (by decide)⟩
theorem zR6.ofL (a : zRM K n k s μ) (b : zRC n k' s' σ) (h : zR6L n σ μ) : zR6 σ μ := by
  have e : σ.1 1 2 = μ.1 0 2 := Int32.toInt_inj.mp (Eq.trans b.len.1 a.len.2.symm)
  refine ⟨e, ?_⟩
  rw [show (μ.1 0 2).toInt = n from a.len.2]
  exact h
end ZR6
theorem z_fresh6 {k : Int32} {σN4 σN5 σN9 σ1 : zSt} {σN6 : Int32 → zSt} {c : Int32} (e : fX12_anew (zsi (zsi (zsi (zsi (zsi zS0 0 8 (-1)) 0 3 c) 3 44 0) 3 45 1) 3 46 1) = some σ1) : zR6 (zC1 k σN4 σN5 σN6 σN9) σ1 := by
  have w := w_fX12_anew zKeM_rfl σ1 e
  obtain ⟨w1, w2, w3⟩ := w
  have m1 : ∀ j, σ1.1 1 j = 0 := fun j => by rw [w1]; rfl
  have a2 : σ1.1 0 2 = 0 := (w3 2 (by decide)).trans rfl
  have a5 : σ1.1 0 5 = 0 := (w3 5 (by decide)).trans rfl
  have a6 : σ1.1 0 6 = 0 := (w3 6 (by decide)).trans rfl
  have a7 : σ1.1 0 7 = 0 := (w3 7 (by decide)).trans rfl
  have a8 : σ1.1 0 8 = -1 := (w3 8 (by decide)).trans rfl
  have c0 : (0 : Int32).toInt = 0 := rfl
  have c1 : (-1 : Int32).toInt = -1 := rfl
  refine ⟨by rw [a2]; rfl, fun j hj => ?_, ?_, ?_⟩
  · rw [a2, c0] at hj
    exfalso
    omega
  · show ¬ ztp (0 : Int32) = ztp (1 : Int32)
    decide
  · refine ⟨by rw [a5]; rfl, by rw [a6]; rfl, by rw [a7]; rfl, by rw [a8]; rfl, fun j hj => ?_, fun hj => ?_⟩
    · rw [a5, c0] at hj
      exfalso
      omega
    · rw [a8, c1] at hj
      exfalso
      omega
/-! masks and shifts as remainders and quotients -/
theorem z_mask {x m : Int32} {k : Nat} (hx : 0 ≤ x.toInt) (hm : m.toBitVec.toNat = 2 ^ k - 1) (hk : k < 31) : (x &&& m).toInt = x.toInt % ((2 ^ k : Nat) : Int) := by
  have nx := z_tN hx
  have p : 2 ^ k < 2147483648 := by
    have : (2 : Nat) ^ k ≤ 2 ^ 30 := Nat.pow_le_pow_right (by decide) (by omega)
    omega
  have p0 : 0 < 2 ^ k := Nat.pow_pos (by decide)
  have e : (x &&& m).toBitVec.toNat = x.toBitVec.toNat % 2 ^ k := by rw [Int32.toBitVec_and, BitVec.toNat_and, hm, Nat.and_two_pow_sub_one_eq_mod]
  have l := Nat.mod_lt x.toBitVec.toNat p0
  rw [z_Nt e (by omega), ← nx]
  exact Int.natCast_emod _ _
theorem z_quo {x s : Int32} {k : Nat} (hx : 0 ≤ x.toInt) (hs : (s.toBitVec.smod 32).toNat = k) : (x >>> s).toInt = x.toInt / ((2 ^ k : Nat) : Int) := by
  have e : (x >>> s).toBitVec = x.toBitVec.sshiftRight (s.toBitVec.smod 32).toNat := rfl
  have e2 : (x >>> s).toInt = ((x >>> s).toBitVec).toInt := rfl
  rw [e2, e, hs, BitVec.toInt_sshiftRight, Int.shiftRight_eq_div_pow]
  rfl
/-! memory of both sides -/
def zFil (μ : zSt) : Prop := ∀ j : Nat, (μ.1 0 5).toInt ≤ (j : Int) → (j : Int) < 16384 * (μ.1 0 6).toInt → μ.1 2 j &&& 255 = 255
def zMe (σ μ : zSt) : Prop := (∀ j : Nat, j < 8192 → σ.1 15 j = μ.1 5 j &&& 255) ∧ (∀ j : Nat, j < 32768 → σ.1 17 j = μ.1 6 j &&& 255) ∧ (∀ j : Nat, j < 3 → σ.1 19 j = μ.1 3 (29 + j)) ∧ σ.1 19 3 = μ.1 3 32 ∧ zCart σ μ ∧ zFil μ
/-- ranges that reading wants -/
def zMr (σ μ : zSt) : Prop := zr 0 512 (σ.1 1 3) ∧ zr 0 262144 (σ.1 1 4) ∧ zr 0 16 (μ.1 0 6) ∧ zr 0 3 (μ.1 0 7) ∧ ((μ.1 0 7).toInt = 0 ∨ 1 ≤ (μ.1 0 6).toInt) ∧ (∀ j : Nat, 29 ≤ j → j ≤ 32 → zr 0 255 (μ.1 3 j))
theorem z_16 {v : Int32} (h : 0 ≤ v.toInt) : (v &&& 16383).toInt = v.toInt % 16384 := z_mask (k := 14) h rfl (by decide)
theorem z_8 {v : Int32} (h : 0 ≤ v.toInt) : (v &&& 8191).toInt = v.toInt % 8192 := z_mask (k := 13) h rfl (by decide)
theorem z2_bank {σ μ : zSt} {v b : Int32} (h : zMe σ μ) (hr : zMr σ μ) (hv : zr 0 49151 v) (hb : zr 0 255 b) (hp : 1 ≤ (μ.1 0 6).toInt) : zp2 (fX2_read_126 σ v b) (fX12_ofBank μ b v) (fun r r' => r.1 = σ ∧ r'.1 = μ ∧ r.2 = r'.2) := by
  obtain ⟨_, _, _, _, hc, hf⟩ := h
  obtain ⟨r3, r4, r6, r7, _, _⟩ := hr
  obtain ⟨c4, c5, c6, c7, cb, _⟩ := hc
  unfold fX2_read_126 fX12_ofBank fX2_read_144 fX2_read_169
  have v0 := hv.1
  have v1 := hv.2
  have g5 : zgi σ 1 5 = μ.1 0 6 := c5
  have b6 := r6.2
  have tr := z_trem (y := μ.1 0 6) (μ.1 0 6).toInt rfl hb ⟨by decide, by omega⟩
  have m0 := Int.emod_nonneg b.toInt (b := (μ.1 0 6).toInt) (by omega)
  have m1 := Int.emod_lt_of_pos b.toInt (b := (μ.1 0 6).toInt) (by omega)
  have rr : zr 0 15 (zrem b (μ.1 0 6)) := ⟨by omega, by omega⟩
  have k4 : (16384 : Int32).toInt = 16384 := rfl
  have q4 : zr 16384 16384 (16384 : Int32) := zr_c (by decide)
  have t1 := z_tmul rr q4 (by decide)
  have t2 := z_tmul q4 rr (by decide)
  have s1 := zr_mul (lo := 0) (hi := 245760) rr q4 (by decide)
  have s2 := zr_mul (lo := 0) (hi := 245760) q4 rr (by decide)
  have e16 := z_16 v0
  have n0 := Int.emod_nonneg v.toInt (b := 16384) (by decide)
  have n1 := Int.emod_lt_of_pos v.toInt (b := 16384) (by decide)
  have ra : zr 0 16383 (v &&& 16383) := ⟨by omega, by omega⟩
  have t3 := z_tadd s1 ra (by decide)
  have tv := z_trem (y := (16384 : Int32)) 16384 rfl hv (by decide)
  have rb : zr 0 16383 (zrem v 16384) := ⟨by omega, by omega⟩
  have t4 := z_tadd s2 rb (by decide)
  have same : ((zrem b (μ.1 0 6)) * 16384) + (v &&& 16383) = (16384 * (zrem b (μ.1 0 6))) + (zrem v 16384) := Int32.toInt_inj.mp (by rw [t3, t4, t1, t2, e16, tv, k4]; omega)
  have pb : ((16384 * (zrem b (μ.1 0 6))) + (zrem v 16384)).toInt < 16384 * (μ.1 0 6).toInt := by
    rw [t4, t2, tv, tr, k4]
    have : 16384 * (b.toInt % (μ.1 0 6).toInt) ≤ 16384 * ((μ.1 0 6).toInt - 1) := Int.mul_le_mul_of_nonneg_left (by omega) (by decide)
    omega
  have p0 : 0 ≤ ((16384 * (zrem b (μ.1 0 6))) + (zrem v 16384)).toInt := by
    rw [t4, t2, tv, tr, k4]
    have : 0 ≤ 16384 * (b.toInt % (μ.1 0 6).toInt) := Int.mul_nonneg (by decide) m0
    omega
  rw [g5]
  refine zp2_ckl (zp2_bvl (fun p ep => zp2_ckr (zp2_ckr (zp2_ckr ?_))))
  rw [same] at ep
  subst ep
  have kp := z_clamp p0
  have g4 : zgi σ 1 4 = μ.1 0 5 := c4
  rw [g4]
  refine zp2_ifl (fun q => zp2_some ⟨rfl, rfl, ?_⟩) (fun q => zp2_ckl (zp2_some ⟨rfl, rfl, ?_⟩))
  · have q1 := Int32.le_iff_toInt_le.mp q
    exact (hf ((16384 * (zrem b (μ.1 0 6))) + (zrem v 16384)).toNatClampNeg (by omega) (by omega)).symm
  · have q1 := Int32.lt_iff_toInt_lt.mp (z_nle q)
    have b0 := r3.1
    have z4 := r4.2
    rw [c4] at z4
    have t5 : (σ.1 1 3 + ((16384 * (zrem b (μ.1 0 6))) + (zrem v 16384))).toInt = (σ.1 1 3).toInt + ((16384 * (zrem b (μ.1 0 6))) + (zrem v 16384)).toInt := z_tadd (c := 0) (d := 262144) r3 ⟨p0, by omega⟩ (by decide)
    have k5 := z_clamp (x := σ.1 1 3 + ((16384 * (zrem b (μ.1 0 6))) + (zrem v 16384))) (by omega)
    have k6 := z_clamp b0
    have e := cb ((16384 * (zrem b (μ.1 0 6))) + (zrem v 16384)).toNatClampNeg (by omega)
    show σ.1 (ztp (σ.1 1 1)) (σ.1 1 3 + ((16384 * (zrem b (μ.1 0 6))) + (zrem v 16384))).toNatClampNeg = μ.1 2 ((16384 * (zrem b (μ.1 0 6))) + (zrem v 16384)).toNatClampNeg &&& 255
    rw [show (σ.1 1 3 + ((16384 * (zrem b (μ.1 0 6))) + (zrem v 16384))).toNatClampNeg = (σ.1 1 3).toNatClampNeg + ((16384 * (zrem b (μ.1 0 6))) + (zrem v 16384)).toNatClampNeg by omega]
    exact e
