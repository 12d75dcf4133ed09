section ZJN0
theorem zok_biE {α : Type} {o : Option (zSt × Int32)} {f : zSt → Int32 → Option α} {Q : zSt × Int32 → Prop} {P : α → Prop} (h : zok o Q) (k : ∀ σ v, o = some (σ, v) → Q (σ, v) → zok (f σ v) P) : zok (zbi o f) P := by
  obtain ⟨a, e, q⟩ := h
  subst e
  exact k a.1 a.2 rfl q
theorem zok_bllE {α : Type} {o : Option (zSt × Int64)} {f : zSt → Int64 → Option α} {Q : zSt × Int64 → Prop} {P : α → Prop} (h : zok o Q) (k : ∀ σ v, o = some (σ, v) → Q (σ, v) → zok (f σ v) P) : zok (zbl o f) P := by
  obtain ⟨a, e, q⟩ := h
  subst e
  exact k a.1 a.2 rfl q
theorem zok_buE {α : Type} {o : Option zSt} {f : zSt → Option α} {Q : zSt → Prop} {P : α → Prop} (h : zok o Q) (k : ∀ σ, o = some σ → Q σ → zok (f σ) P) : zok (zbu o f) P := by
  obtain ⟨a, e, q⟩ := h
  subst e
  exact k a rfl q
theorem zok_bhE {α : Type} {q : Option (zHs × Int32)} {f : (Nat → Int64) → zSt → Int32 → Option α} {Q : zHs × Int32 → Prop} {P : α → Prop} (h : zok q Q) (k : ∀ o σ v, q = some ((o, σ), v) → Q ((o, σ), v) → zok (f o σ v) P) : zok (zbh q f) P := by
  obtain ⟨a, e, r⟩ := h
  subst e
  exact k a.1.1 a.1.2 a.2 rfl r
theorem zh2_st {S : Type} {x : S} {k : Nat} {r : S × Int32} (h : zh2 x k = some r) : r.1 = x := by
  unfold zh2 at h
  split at h
  · cases h; rfl
  · split at h
    · cases h; rfl
    · cases h
theorem zh1_st {S : Type} {n : Nat} {x : S} {k : Nat} {r : S × Int32} (h : zh1 n x k = some r) : r.1 = x := by
  unfold zh1 at h
  split at h
  · cases h; rfl
  · cases h
theorem zp2_hi {β : Type} {o : Nat → Int64} {t : zHs → Nat → Option (zHs × Int32)} {q : Option zRi} {p : Option β} {I : zSt → β → Prop} (ht : ∀ (x : zHs) (k : Nat) (r : zHs × Int32), t x k = some r → r.1 = x) (h : zp2 q p (fun r r' => I (zRis r) r')) : zp2 (zbr q (zhi o t)) p (fun r r' => I r.1.2 r') := by
  intro a b ea eb
  cases q with
  | none => cases ea
  | some r =>
    have i := h r b rfl eb
    have ea : zhi o t r = some a := ea
    rcases r with x | x
    · have ea : some ((vp_updL o 0 x.2.toInt64, x.1), (0 : Int32)) = some a := ea
      cases ea
      exact i
    · have ea : t (o, x.1) x.2 = some a := ea
      have e := ht _ _ _ ea
      rw [e]
      exact i
theorem zp2_hl {β : Type} {o : Nat → Int64} {t : zHs → Nat → Option (zHs × Int32)} {q : Option zRl} {p : Option β} {I : zSt → β → Prop} (ht : ∀ (x : zHs) (k : Nat) (r : zHs × Int32), t x k = some r → r.1 = x) (h : zp2 q p (fun r r' => I (zRls r) r')) : zp2 (zbr q (zhl o t)) p (fun r r' => I r.1.2 r') := by
  intro a b ea eb
  cases q with
  | none => cases ea
  | some r =>
    have i := h r b rfl eb
    have ea : zhl o t r = some a := ea
    rcases r with x | x
    · have ea : some ((vp_updL o 0 x.2, x.1), (0 : Int32)) = some a := ea
      cases ea
      exact i
    · have ea : t (o, x.1) x.2 = some a := ea
      have e := ht _ _ _ ea
      rw [e]
      exact i
theorem zp2_hu {β : Type} {t : zSt → Nat → Option (zSt × Int32)} {q : Option zRu} {p : Option β} {I : zSt → β → Prop} (ht : ∀ (x : zSt) (k : Nat) (r : zSt × Int32), t x k = some r → r.1 = x) (h : zp2 q p (fun r r' => I (zRus r) r')) : zp2 (zbr q (zhu t)) p (fun r r' => I r.1 r') := by
  intro a b ea eb
  cases q with
  | none => cases ea
  | some r =>
    have i := h r b rfl eb
    have ea : zhu t r = some a := ea
    rcases r with x | x
    · have ea : some (x, (0 : Int32)) = some a := ea
      cases ea
      exact i
    · have ea : t x.1 x.2 = some a := ea
      have e := ht _ _ _ ea
      rw [e]
      exact i
theorem zKeC_rfl {σ : zSt} : zKeC σ σ := ⟨rfl, rfl, rfl⟩
theorem zKeM_rfl {μ : zSt} : zKeM μ μ := ⟨rfl, rfl, fun _ _ => rfl⟩
section ZR6
variable {K n k s k' n' s' : Int} {σ μ : zSt} {o : Nat → Int64}
theorem zRM.len (h : zRM K n k s μ) : zr 0 262656 (zgi μ 0 2) ∧ (zgi μ 0 2).toInt = n := by
  obtain ⟨c, G, i, a, b, e0, e1, e2⟩ := h
  exact ⟨rM_0 i.sg 2 (by decide), (i.at 0 (by decide)).trans e0⟩
theorem zRC.len (h : zRC n k s σ) : (zgi σ 1 2).toInt = n ∧ zr 0 512 (σ.1 1 3) ∧ zr 0 262144 (σ.1 1 4) := by
  obtain ⟨H, i, e0, e1, e2⟩ := h
  exact ⟨Eq.trans (i.fz 0 (1, 2) rfl) e0, rC_1 i.sg 3 (by decide), rC_2 i.sg 4 (by decide)⟩
theorem zR6.ofL (a : zRM K n k s μ) (b : zRC n k' s' σ) (h : zR6L n σ μ) : zR6 σ μ := by
  have e : σ.1 1 2 = μ.1 0 2 := Int32.toInt_inj.mp (Eq.trans b.len.1 a.len.2.symm)
  refine ⟨e, ?_⟩
  rw [show (μ.1 0 2).toInt = n from a.len.2]
  exact h
end ZR6
theorem z_fresh6 {k : Int32} {σN4 σN5 σN9 σ1 : zSt} {σN6 : Int32 → zSt} {c : Int32} (e : fX12_anew (zsi (zsi (zsi (zsi (zsi zS0 0 8 (-1)) 0 3 c) 3 44 0) 3 45 1) 3 46 1) = some σ1) : zR6 (zC1 k σN4 σN5 σN6 σN9) σ1 := by
  have w := w_fX12_anew zKeM_rfl σ1 e
  obtain ⟨w1, w2, w3⟩ := w
  have m1 : ∀ j, σ1.1 1 j = 0 := fun j => by rw [w1]; rfl
  have a2 : σ1.1 0 2 = 0 := (w3 2 (by decide)).trans rfl
  have a5 : σ1.1 0 5 = 0 := (w3 5 (by decide)).trans rfl
  have a6 : σ1.1 0 6 = 0 := (w3 6 (by decide)).trans rfl
  have a7 : σ1.1 0 7 = 0 := (w3 7 (by decide)).trans rfl
  have a8 : σ1.1 0 8 = -1 := (w3 8 (by decide)).trans rfl
  have c0 : (0 : Int32).toInt = 0 := rfl
  have c1 : (-1 : Int32).toInt = -1 := rfl
  refine ⟨by rw [a2]; rfl, fun j hj => ?_, ?_, ?_⟩
  · rw [a2, c0] at hj
    exfalso
    omega
  · show ¬ ztp (0 : Int32) = ztp (1 : Int32)
    decide
  · refine ⟨by rw [a5]; rfl, by rw [a6]; rfl, by rw [a7]; rfl, by rw [a8]; rfl, fun j hj => ?_, fun hj => ?_⟩
    · rw [a5, c0] at hj
      exfalso
      omega
    · rw [a8, c1] at hj
      exfalso
      omega
/-! masks and shifts as remainders and quotients -/
theorem z_mask {x m : Int32} {k : Nat} (hx : 0 ≤ x.toInt) (hm : m.toBitVec.toNat = 2 ^ k - 1) (hk : k < 31) : (x &&& m).toInt = x.toInt % ((2 ^ k : Nat) : Int) := by
  have nx := z_tN hx
  have p : 2 ^ k < 2147483648 := by
    have : (2 : Nat) ^ k ≤ 2 ^ 30 := Nat.pow_le_pow_right (by decide) (by omega)
    omega
  have p0 : 0 < 2 ^ k := Nat.pow_pos (by decide)
  have e : (x &&& m).toBitVec.toNat = x.toBitVec.toNat % 2 ^ k := by rw [Int32.toBitVec_and, BitVec.toNat_and, hm, Nat.and_two_pow_sub_one_eq_mod]
  have l := Nat.mod_lt x.toBitVec.toNat p0
  rw [z_Nt e (by omega), ← nx]
  exact Int.natCast_emod _ _
theorem z_quo {x s : Int32} {k : Nat} (hx : 0 ≤ x.toInt) (hs : (s.toBitVec.smod 32).toNat = k) : (x >>> s).toInt = x.toInt / ((2 ^ k : Nat) : Int) := by
  have e : (x >>> s).toBitVec = x.toBitVec.sshiftRight (s.toBitVec.smod 32).toNat := rfl
  have e2 : (x >>> s).toInt = ((x >>> s).toBitVec).toInt := rfl
  rw [e2, e, hs, BitVec.toInt_sshiftRight, Int.shiftRight_eq_div_pow]
  rfl
/-! memory of both sides -/
def zFil (μ : zSt) : Prop := ∀ j : Nat, (μ.1 0 5).toInt ≤ (j : Int) → (j : Int) < 16384 * (μ.1 0 6).toInt → μ.1 2 j &&& 255 = 255
def zMe (σ μ : zSt) : Prop := (∀ j : Nat, j < 8192 → σ.1 15 j = μ.1 5 j &&& 255) ∧ (∀ j : Nat, j < 32768 → σ.1 17 j = μ.1 6 j &&& 255) ∧ (∀ j : Nat, j < 3 → σ.1 19 j = μ.1 3 (29 + j)) ∧ σ.1 19 3 = μ.1 3 32 ∧ zCart σ μ ∧ zFil μ
/-- ranges that reading wants -/
def zMr (σ μ : zSt) : Prop := zr 0 512 (σ.1 1 3) ∧ zr 0 262144 (σ.1 1 4) ∧ zr 0 16 (μ.1 0 6) ∧ zr 0 3 (μ.1 0 7) ∧ ((μ.1 0 7).toInt = 0 ∨ 1 ≤ (μ.1 0 6).toInt) ∧ (∀ j : Nat, 29 ≤ j → j ≤ 32 → zr 0 255 (μ.1 3 j))
theorem z_16 {v : Int32} (h : 0 ≤ v.toInt) : (v &&& 16383).toInt = v.toInt % 16384 := z_mask (k := 14) h rfl (by decide)
theorem z_8 {v : Int32} (h : 0 ≤ v.toInt) : (v &&& 8191).toInt = v.toInt % 8192 := z_mask (k := 13) h rfl (by decide)
theorem z2_bank {σ μ : zSt} {v b : Int32} (h : zMe σ μ) (hr : zMr σ μ) (hv : zr 0 49151 v) (hb : zr 0 255 b) (hp : 1 ≤ (μ.1 0 6).toInt) : zp2 (fX2_read_126 σ v b) (fX12_ofBank μ b v) (fun r r' => r.1 = σ ∧ r'.1 = μ ∧ r.2 = r'.2) := by
  obtain ⟨_, _, _, _, hc, hf⟩ := h
  obtain ⟨r3, r4, r6, r7, _, _⟩ := hr
  obtain ⟨c4, c5, c6, c7, cb, _⟩ := hc
  unfold fX2_read_126 fX12_ofBank fX2_read_144 fX2_read_169
  have v0 := hv.1
  have v1 := hv.2
  have g5 : zgi σ 1 5 = μ.1 0 6 := c5
  have b6 := r6.2
  have tr := z_trem (y := μ.1 0 6) (μ.1 0 6).toInt rfl hb ⟨by decide, by omega⟩
  have m0 := Int.emod_nonneg b.toInt (b := (μ.1 0 6).toInt) (by omega)
  have m1 := Int.emod_lt_of_pos b.toInt (b := (μ.1 0 6).toInt) (by omega)
  have rr : zr 0 15 (zrem b (μ.1 0 6)) := ⟨by omega, by omega⟩
  have k4 : (16384 : Int32).toInt = 16384 := rfl
  have q4 : zr 16384 16384 (16384 : Int32) := zr_c (by decide)
  have t1 := z_tmul rr q4 (by decide)
  have t2 := z_tmul q4 rr (by decide)
  have s1 := zr_mul (lo := 0) (hi := 245760) rr q4 (by decide)
  have s2 := zr_mul (lo := 0) (hi := 245760) q4 rr (by decide)
  have e16 := z_16 v0
  have n0 := Int.emod_nonneg v.toInt (b := 16384) (by decide)
  have n1 := Int.emod_lt_of_pos v.toInt (b := 16384) (by decide)
  have ra : zr 0 16383 (v &&& 16383) := ⟨by omega, by omega⟩
  have t3 := z_tadd s1 ra (by decide)
  have tv := z_trem (y := (16384 : Int32)) 16384 rfl hv (by decide)
  have rb : zr 0 16383 (zrem v 16384) := ⟨by omega, by omega⟩
  have t4 := z_tadd s2 rb (by decide)
  have same : ((zrem b (μ.1 0 6)) * 16384) + (v &&& 16383) = (16384 * (zrem b (μ.1 0 6))) + (zrem v 16384) := Int32.toInt_inj.mp (by rw [t3, t4, t1, t2, e16, tv, k4]; omega)
  have pb : ((16384 * (zrem b (μ.1 0 6))) + (zrem v 16384)).toInt < 16384 * (μ.1 0 6).toInt := by
    rw [t4, t2, tv, tr, k4]
    have : 16384 * (b.toInt % (μ.1 0 6).toInt) ≤ 16384 * ((μ.1 0 6).toInt - 1) := Int.mul_le_mul_of_nonneg_left (by omega) (by decide)
    omega
  have p0 : 0 ≤ ((16384 * (zrem b (μ.1 0 6))) + (zrem v 16384)).toInt := by
    rw [t4, t2, tv, tr, k4]
    have : 0 ≤ 16384 * (b.toInt % (μ.1 0 6).toInt) := Int.mul_nonneg (by decide) m0
    omega
  rw [g5]
  refine zp2_ckl (zp2_bvl (fun p ep => zp2_ckr (zp2_ckr (zp2_ckr ?_))))
  rw [same] at ep
  subst ep
  have kp := z_clamp p0
  have g4 : zgi σ 1 4 = μ.1 0 5 := c4
  rw [g4]
  refine zp2_ifl (fun q => zp2_some ⟨rfl, rfl, ?_⟩) (fun q => zp2_ckl (zp2_some ⟨rfl, rfl, ?_⟩))
  · have q1 := Int32.le_iff_toInt_le.mp q
    exact (hf ((16384 * (zrem b (μ.1 0 6))) + (zrem v 16384)).toNatClampNeg (by omega) (by omega)).symm
  · have q1 := Int32.lt_iff_toInt_lt.mp (z_nle q)
    have b0 := r3.1
    have z4 := r4.2
    rw [c4] at z4
    have t5 : (σ.1 1 3 + ((16384 * (zrem b (μ.1 0 6))) + (zrem v 16384))).toInt = (σ.1 1 3).toInt + ((16384 * (zrem b (μ.1 0 6))) + (zrem v 16384)).toInt := z_tadd (c := 0) (d := 262144) r3 ⟨p0, by omega⟩ (by decide)
    have k5 := z_clamp (x := σ.1 1 3 + ((16384 * (zrem b (μ.1 0 6))) + (zrem v 16384))) (by omega)
    have k6 := z_clamp b0
    have e := cb ((16384 * (zrem b (μ.1 0 6))) + (zrem v 16384)).toNatClampNeg (by omega)
    show σ.1 (ztp (σ.1 1 1)) (σ.1 1 3 + ((16384 * (zrem b (μ.1 0 6))) + (zrem v 16384))).toNatClampNeg = μ.1 2 ((16384 * (zrem b (μ.1 0 6))) + (zrem v 16384)).toNatClampNeg &&& 255
    rw [show (σ.1 1 3 + ((16384 * (zrem b (μ.1 0 6))) + (zrem v 16384))).toNatClampNeg = (σ.1 1 3).toNatClampNeg + ((16384 * (zrem b (μ.1 0 6))) + (zrem v 16384)).toNatClampNeg by omega]
    exact e
end ZJN0
section ZJN1
theorem zp2_bir {α β : Type} {o : Option α} {p : Option (zSt × Int32)} {f : zSt → Int32 → Option β} {P : zSt × Int32 → Prop} {Q : α → β → Prop} (h : zpc p P) (k : ∀ σ v, P (σ, v) → zp2 o (f σ v) Q) : zp2 o (zbi p f) Q := by
  cases p with
  | none => exact zp2_nr
  | some a => exact k a.1 a.2 (h a rfl)
theorem zp2_bil {α β : Type} {o : Option (zSt × Int32)} {p : Option β} {f : zSt → Int32 → Option α} {P : zSt × Int32 → Prop} {Q : α → β → Prop} (h : zpc o P) (k : ∀ σ v, P (σ, v) → zp2 (f σ v) p Q) : zp2 (zbi o f) p Q := by
  cases o with
  | none => exact zp2_nl
  | some a => exact k a.1 a.2 (h a rfl)
/-- both call, and go on -/
theorem zp2_bii {α β : Type} {o p : Option (zSt × Int32)} {f : zSt → Int32 → Option α} {g : zSt → Int32 → Option β} {P : zSt × Int32 → zSt × Int32 → Prop} {Q : α → β → Prop} (h : zp2 o p P) (k : ∀ σ v μ w, P (σ, v) (μ, w) → zp2 (f σ v) (g μ w) Q) : zp2 (zbi o f) (zbi p g) Q := by
  cases o with
  | none => exact zp2_nl
  | some a =>
    cases p with
    | none => exact zp2_nr
    | some b => exact k a.1 a.2 b.1 b.2 (h a b rfl rfl)
theorem zp2_buu {α β : Type} {o p : Option zSt} {f : zSt → Option α} {g : zSt → Option β} {P : zSt → zSt → Prop} {Q : α → β → Prop} (h : zp2 o p P) (k : ∀ σ μ, P σ μ → zp2 (f σ) (g μ) Q) : zp2 (zbu o f) (zbu p g) Q := by
  cases o with
  | none => exact zp2_nl
  | some a =>
    cases p with
    | none => exact zp2_nr
    | some b => exact k a b (h a b rfl rfl)
theorem zp2_mono {α β : Type} {o : Option α} {p : Option β} {P Q : α → β → Prop} (h : zp2 o p P) (k : ∀ a b, P a b → Q a b) : zp2 o p Q := fun a b e f => k a b (h a b e f)
/-! the battery -/
def zBt (μ : zSt) (v : Int32) : Prop := μ.1 0 7 = 1 ∧ ¬ (μ.1 3 32 &&& 8) = 0 ∧ 32768 ≤ v.toInt ∧ v.toInt < 49152
theorem p_isBat {μ : zSt} {v : Int32} : zpc (fX12_isBattery μ v) (fun r => r.1 = μ ∧ ((zBt μ v ∧ r.2 = 1) ∨ (¬ zBt μ v ∧ r.2 = 0))) := by
  unfold fX12_isBattery fX12_isBattery_37 fX12_isBattery_38
  have c3 : (32768 : Int32).toInt = 32768 := rfl
  have c4 : (49152 : Int32).toInt = 49152 := rfl
  have no : ¬ zBt μ v → zpc (zck (zbo 0) (some (μ, (0 : Int32)))) (fun r => r.1 = μ ∧ ((zBt μ v ∧ r.2 = 1) ∨ (¬ zBt μ v ∧ r.2 = 0))) := fun h => zpc_ck (zpc_some ⟨rfl, Or.inr ⟨h, rfl⟩⟩)
  refine zpc_if (fun q => zpc_ck (zpc_if (fun a => no (fun h => h.2.1 a)) (fun a => zpc_if (fun b => no (fun h => ?_)) (fun b => zpc_if (fun c => no (fun h => ?_)) (fun c => zpc_ck (zpc_some ⟨rfl, Or.inl ⟨⟨q, a, ?_, ?_⟩, rfl⟩⟩)))))) (fun q => no (fun h => q h.1))
  · have := Int32.lt_iff_toInt_lt.mp b; have := h.2.2.1; omega
  · have := Int32.le_iff_toInt_le.mp c; have := h.2.2.2; omega
  · have := Int32.le_iff_toInt_le.mp (z_nlt b); omega
  · have := Int32.lt_iff_toInt_lt.mp (z_nle c); omega
theorem p_batIn {σ : zSt} : zpc (fX2_batteryIsIn σ ) (fun r => r.1 = σ ∧ (((σ.1 1 6 = 1 ∧ ¬ (σ.1 19 3 &&& 8) = 0) ∧ r.2 = 1) ∨ (¬ (σ.1 1 6 = 1 ∧ ¬ (σ.1 19 3 &&& 8) = 0) ∧ r.2 = 0))) := by
  unfold fX2_batteryIsIn fX2_batteryIsIn_24 fX2_batteryIsIn_25
  exact zpc_if (fun q => zpc_ck (zpc_if (fun a => zpc_ck (zpc_some ⟨rfl, Or.inr ⟨fun h => h.2 a, rfl⟩⟩)) (fun a => zpc_ck (zpc_some ⟨rfl, Or.inl ⟨⟨q, a⟩, rfl⟩⟩)))) (fun q => zpc_ck (zpc_some ⟨rfl, Or.inr ⟨fun h => q h.1, rfl⟩⟩))
theorem z_k4 : ∀ i : Fin 256, ((Int32.ofNat i.val &&& 4 = 0 → ((Int32.ofNat i.val) >>> ((2 : Int32) &&& 31)) &&& 1 = 0) ∧ (¬ Int32.ofNat i.val &&& 4 = 0 → ((Int32.ofNat i.val) >>> ((2 : Int32) &&& 31)) &&& 1 = 1)) := by decide +kernel
theorem z_k4' {k : Int32} (h : zr 0 255 k) : (k &&& 4 = 0 → (k >>> ((2 : Int32) &&& 31)) &&& 1 = 0) ∧ (¬ k &&& 4 = 0 → (k >>> ((2 : Int32) &&& 31)) &&& 1 = 1) := by
  obtain ⟨h0, h1⟩ := h
  obtain ⟨i, hi⟩ : ∃ i : Nat, k.toInt = i := ⟨k.toInt.toNat, by omega⟩
  rw [z_ofN hi]
  exact z_k4 ⟨i, by omega⟩
/-- the place of a byte in the battery, on both sides -/
theorem z2_batAt {σ μ : zSt} {v : Int32} (h : zMe σ μ) (hr : zMr σ μ) (h0 : 32768 ≤ v.toInt) (h1 : v.toInt < 49152) : zp2 (fX2_batteryPlace σ v) (fX12_batteryAt μ v) (fun r r' => r.1 = σ ∧ r'.1 = μ ∧ r.2 = r'.2 ∧ zr 0 32767 r.2) := by
  obtain ⟨_, _, _, hk, _, _⟩ := h
  have rk := hr.2.2.2.2.2 32 (by decide) (by decide)
  have kk := z_k4' rk
  unfold fX2_batteryPlace fX12_batteryAt fX12_batteryAt_23
  have e16 := z_16 (v := v) (by omega)
  have g : zgi σ 19 (3 : Int32).toNatClampNeg = μ.1 3 32 := hk
  rw [g]
  have c8 : (32768 : Int32).toInt = 32768 := rfl
  have c6 : (16384 : Int32).toInt = 16384 := rfl
  have ts : (v - 32768).toInt = v.toInt - (32768 : Int32).toInt := z_tsub (a := 32768) (b := 49151) ⟨h0, by omega⟩ (zr_c (lo := 32768) (hi := 32768) (by decide)) (by decide)
  have same : v &&& 16383 = v - 32768 := Int32.toInt_inj.mp (by rw [e16, ts, c8]; omega)
  have rv : zr 0 16383 (v - 32768) := ⟨by omega, by omega⟩
  refine zp2_ckl (zp2_ckr (zp2_ifr (fun q => zp2_some ⟨rfl, rfl, ?_, ?_⟩) (fun q => zp2_some ⟨rfl, rfl, ?_, ?_⟩)))
  · show (v &&& 16383) + (16384 * ((μ.1 3 32 >>> ((2 : Int32) &&& 31)) &&& 1)) = v - 32768 + 0
    rw [kk.1 q, same, show (16384 : Int32) * 0 = 0 by decide]
  · show zr 0 32767 ((v &&& 16383) + (16384 * ((μ.1 3 32 >>> ((2 : Int32) &&& 31)) &&& 1)))
    rw [kk.1 q, same, show (16384 : Int32) * 0 = 0 by decide, Int32.add_zero]
    exact zr_w rv (by decide)
  · show (v &&& 16383) + (16384 * ((μ.1 3 32 >>> ((2 : Int32) &&& 31)) &&& 1)) = v - 32768 + 16384
    rw [kk.2 q, same, show (16384 : Int32) * 1 = 16384 by decide]
  · show zr 0 32767 ((v &&& 16383) + (16384 * ((μ.1 3 32 >>> ((2 : Int32) &&& 31)) &&& 1)))
    rw [kk.2 q, same, show (16384 : Int32) * 1 = 16384 by decide]
    exact zr_add (lo := 0) (hi := 32767) rv (zr_c (lo := 16384) (hi := 16384) (by decide)) (by decide)
theorem z_third {v : Int32} (hv : zr 0 49151 v) : v >>> ((14 : Int32) &&& 31) = v / 16384 ∧ zr 0 2 (v / 16384) ∧ (v / 16384).toInt = v.toInt / 16384 := by
  have v0 := hv.1
  have v1 := hv.2
  have q := z_quo (k := 14) (s := (14 : Int32) &&& 31) v0 rfl
  have d := z_tdiv (y := (16384 : Int32)) 16384 rfl hv (by decide)
  exact ⟨Int32.toInt_inj.mp (by rw [q, d]; rfl), ⟨by omega, by omega⟩, d⟩
/-- a read of both memories -/
theorem z2_read {σ μ : zSt} {x : Int32} (h : zMe σ μ) (hr : zMr σ μ) : zp2 (fX2_read σ x) (fX12_read μ x) (fun r r' => r.1 = σ ∧ r'.1 = μ ∧ r.2 = r'.2) := by
  unfold fX2_read fX12_read
  refine zp2_bvl (fun v ev => zp2_bvr (fun w ew => ?_))
  have e : w = v := by rw [ev, ew]
  subst e
  have hv : zr 0 65535 w := by rw [ew]; exact zr_andr (lo := 0) (hi := 65535) (zr_c (lo := 65535) (hi := 65535) (by decide)) (by decide)
  have v0 := hv.1
  have v1 := hv.2
  have c9 : (49152 : Int32).toInt = 49152 := rfl
  have c8 : (32768 : Int32).toInt = 32768 := rfl
  have c0 : (0 : Int32).toInt = 0 := rfl
  have h' := h
  obtain ⟨hram, hbat, hpg, hk, hc, hf⟩ := h
  have hr' := hr
  obtain ⟨r3, r4, r6, r7, ryp, rpg⟩ := hr
  obtain ⟨d4, d5, d6, d7, db, _⟩ := hc
  refine zp2_if (fun q => ?_) (fun q => ?_)
  · have q1 := Int32.lt_iff_toInt_lt.mp q
    have hw : zr 0 49151 w := ⟨v0, by omega⟩
    obtain ⟨th, tr, td⟩ := z_third hw
    rw [show zgi σ 1 6 = μ.1 0 7 from d6, show zgi σ 1 5 = μ.1 0 6 from d5]
    -- behind the battery
    have bank : 1 ≤ (μ.1 0 6).toInt → ¬ μ.1 0 7 = 0 → zp2 (fX2_read_62 σ w) (if (zgi μ 0 7) = 3 then if 32768 ≤ w then zck (zin 31 1048) (fX12_read_111 μ w (zgi μ 3 (31 : Int32).toNatClampNeg)) else zck (decide (¬ 16384 = 0)) (fX12_read_111 μ w (w / 16384)) else if (zgi μ 0 7) = 1 then if 1024 ≤ w then fX12_read_138 μ w else zbi (fX12_ofBank μ 0 w) (fun σ8 v9 => some (σ8, v9)) else fX12_read_138 μ w) (fun r r' => r.1 = σ ∧ r'.1 = μ ∧ r.2 = r'.2) := fun hb np => by
      have fin : ∀ b : Int32, zr 0 255 b → zp2 (fX2_read_126 σ w b) (zbi (fX12_ofBank μ b w) (fun σ1 v2 => some (σ1, v2))) (fun r r' => r.1 = σ ∧ r'.1 = μ ∧ r.2 = r'.2) := fun b hb2 => by
        intro a c ea ec
        cases q9 : fX12_ofBank μ b w with
        | none => rw [q9] at ec; cases ec
        | some d =>
          rw [q9] at ec
          have ec : some (d.1, d.2) = some c := ec
          cases ec
          exact z2_bank h' hr' hw hb2 hb a d ea q9
      unfold fX2_read_62 fX2_read_86 fX2_read_87 fX2_read_106 fX12_read_111 fX12_read_138
      refine zp2_bvl (fun t et => ?_)
      rw [th] at et
      subst et
      rw [show zgi σ 1 6 = μ.1 0 7 from d6, show zgi μ 0 7 = μ.1 0 7 from rfl]
      have two : (2 : Int32) ≤ w / 16384 ↔ (32768 : Int32) ≤ w := by
        have c2 : (2 : Int32).toInt = 2 := rfl
        constructor
        · intro r; exact Int32.le_iff_toInt_le.mpr (by have := Int32.le_iff_toInt_le.mp r; omega)
        · intro r; exact Int32.le_iff_toInt_le.mpr (by have := Int32.le_iff_toInt_le.mp r; omega)
      have t0 := tr.1
      have t2 := tr.2
      have kt := z_clamp t0
      have pg : zgi σ 19 (w / 16384).toNatClampNeg = zgi μ 3 (29 + w / 16384).toNatClampNeg := by
        have ta : (29 + w / 16384).toInt = (29 : Int32).toInt + (w / 16384).toInt := z_tadd (zr_c (lo := 29) (hi := 29) (by decide)) tr (by decide)
        have c29 : (29 : Int32).toInt = 29 := rfl
        have ka := z_clamp (x := 29 + w / 16384) (by omega)
        show σ.1 19 (w / 16384).toNatClampNeg = μ.1 3 (29 + w / 16384).toNatClampNeg
        rw [hpg _ (by omega), show (29 + w / 16384).toNatClampNeg = 29 + (w / 16384).toNatClampNeg by omega]
      have rpgb : zr 0 255 (zgi μ 3 (29 + w / 16384).toNatClampNeg) := by
        have ta : (29 + w / 16384).toInt = (29 : Int32).toInt + (w / 16384).toInt := z_tadd (zr_c (lo := 29) (hi := 29) (by decide)) tr (by decide)
        have c29 : (29 : Int32).toInt = 29 := rfl
        have ka := z_clamp (x := 29 + w / 16384) (by omega)
        exact rpg _ (by omega) (by omega)
      by_cases p3 : μ.1 0 7 = 3
      · have p1 : ¬ μ.1 0 7 = 1 := fun r => by rw [r] at p3; exact absurd p3 (by decide)
        refine zp2_ifl (fun _ => ?_) (fun r => absurd p3 r)
        refine zp2_ifr (fun _ => ?_) (fun r => absurd p3 r)
        refine zp2_ifl (fun r => zp2_ifr (fun r' => ?_) (fun r' => absurd (two.mp r) r')) (fun r => zp2_ifr (fun r' => absurd (two.mpr r') r) (fun r' => ?_))
        · have e2 : w / 16384 = 2 := Int32.toInt_inj.mp (by have := Int32.le_iff_toInt_le.mp r; have c2 : (2 : Int32).toInt = 2 := rfl; omega)
          refine zp2_ifl (fun _ => zp2_ckl (zp2_ckr (zp2_ifl (fun s => absurd s p1) (fun _ => ?_)))) (fun s => absurd rfl s)
          rw [pg, e2]
          exact fin _ (rpg 31 (by decide) (by decide))
        · refine zp2_ifl (fun s => absurd s (by decide)) (fun _ => zp2_ckr (zp2_ifl (fun s => absurd s p1) (fun _ => ?_)))
          exact fin _ (zr_w tr (by decide))
      · refine zp2_ifl (fun r => absurd r p3) (fun _ => zp2_ifr (fun r => absurd r p3) (fun _ => ?_))
        refine zp2_ifl (fun _ => zp2_ckl ?_) (fun s => absurd rfl s)
        refine zp2_if (fun p1 => ?_) (fun p1 => ?_)
        · refine zp2_if (fun _ => ?_) (fun _ => fin _ (zr_c (by decide)))
          refine zp2_ckr (zp2_ckr ?_)
          rw [pg]
          exact fin _ rpgb
        · refine zp2_ckr (zp2_ckr ?_)
          rw [pg]
          exact fin _ rpgb
    refine zp2_bir p_isBat (fun μ6 v7 p => ?_)
    obtain ⟨p1, p2⟩ := p
    have p1 : μ6 = μ := p1
    subst p1
    by_cases z0 : μ6.1 0 7 = 0
    · -- no paging
      refine zp2_ifl (fun _ => ?_) (fun r => absurd z0 r)
      have nb : v7 = 0 := by
        rcases p2 with ⟨a, _⟩ | ⟨_, b⟩
        · have := a.1; rw [z0] at this; exact absurd this (by decide)
        · exact b
      refine zp2_ifr (fun _ => zp2_ifr (fun _ => ?_) (fun r => absurd z0 r)) (fun r => absurd nb r)
      unfold fX2_read_144 fX2_read_169 fX12_read_80
      rw [show zgi σ 1 4 = zgi μ6 0 5 from d4]
      refine zp2_if (fun _ => zp2_some ⟨rfl, rfl, rfl⟩) (fun r => zp2_ckl (zp2_ckr (zp2_some ⟨rfl, rfl, ?_⟩)))
      have r1 := Int32.lt_iff_toInt_lt.mp (z_nle r)
      have g5 : (zgi μ6 0 5).toInt = (μ6.1 0 5).toInt := rfl
      have b0 := r3.1
      have kw := z_clamp v0
      have t5 : (σ.1 1 3 + w).toInt = (σ.1 1 3).toInt + w.toInt := z_tadd r3 hw (by decide)
      have k5 := z_clamp (x := σ.1 1 3 + w) (by omega)
      have k6 := z_clamp b0
      show σ.1 (ztp (σ.1 1 1)) (σ.1 1 3 + w).toNatClampNeg = μ6.1 2 w.toNatClampNeg &&& 255
      rw [show (σ.1 1 3 + w).toNatClampNeg = (σ.1 1 3).toNatClampNeg + w.toNatClampNeg by omega]
      exact db _ (by omega)
    · have hb1 : 1 ≤ (μ6.1 0 6).toInt := by
        rcases ryp with a | a
        · exact absurd (Int32.toInt_inj.mp (a.trans c0.symm)) z0
        · exact a
      refine zp2_ifl (fun r => absurd r z0) (fun _ => zp2_ifl (fun r => ?_) (fun _ => ?_))
      · have := Int32.le_iff_toInt_le.mp r; exfalso; omega
      · refine zp2_ifl (fun lo => ?_) (fun hi => ?_)
        · have lo1 := Int32.lt_iff_toInt_lt.mp lo
          have nb : v7 = 0 := by
            rcases p2 with ⟨a, _⟩ | ⟨_, b⟩
            · have := a.2.2.1; exfalso; omega
            · exact b
          exact zp2_ifr (fun _ => zp2_ifr (fun r => absurd r z0) (fun _ => bank hb1 z0)) (fun r => absurd nb r)
        · have hi1 := Int32.le_iff_toInt_le.mp (z_nlt hi)
          refine zp2_bil p_batIn (fun σ4 v5 b => ?_)
          obtain ⟨b1, b2⟩ := b
          have b1 : σ4 = σ := b1
          subst b1
          rw [d6, hk] at b2
          rcases p2 with ⟨a, a2⟩ | ⟨a, a2⟩
          · have a2 : v7 = 1 := a2
            have v5e : v5 = 1 := by
              rcases b2 with ⟨_, e⟩ | ⟨n, _⟩
              · exact e
              · exact absurd ⟨a.1, a.2.1⟩ n
            refine zp2_ifl (fun r => absurd (v5e.symm.trans r) (by decide)) (fun _ => zp2_ifr (fun r => absurd (a2.symm.trans r) (by decide)) (fun _ => ?_))
            refine zp2_bii (z2_batAt h' hr' a.2.2.1 a.2.2.2) (fun σ6 v7' μ10 v11 s => ?_)
            obtain ⟨s1, s2, s3, s4⟩ := s
            have s1 : σ6 = σ4 := s1
            have s2 : μ10 = μ6 := s2
            have s3 : v7' = v11 := s3
            subst s1
            subst s2
            subst s3
            refine zp2_ckl (zp2_ckr (zp2_some ⟨rfl, rfl, ?_⟩))
            have k7 := z_clamp (x := v7') s4.1
            have s42 : v7'.toInt ≤ 32767 := s4.2
            exact hbat _ (by omega)
          · have a2 : v7 = 0 := a2
            have v5e : v5 = 0 := by
              rcases b2 with ⟨y, _⟩ | ⟨_, e⟩
              · exact absurd ⟨y.1, y.2, by omega, by omega⟩ a
              · exact e
            exact zp2_ifl (fun _ => zp2_ifr (fun _ => zp2_ifr (fun r => absurd r z0) (fun _ => bank hb1 z0)) (fun r => absurd a2 r)) (fun r => absurd v5e r)
  · have q1 := Int32.le_iff_toInt_le.mp (z_nlt q)
    have e8 := z_8 v0
    have tr := z_trem (y := (8192 : Int32)) 8192 rfl hv (by decide)
    have same : w &&& 8191 = zrem w 8192 := Int32.toInt_inj.mp (by rw [e8, tr])
    have m0 := Int.emod_nonneg w.toInt (b := 8192) (by decide)
    have m1 := Int.emod_lt_of_pos w.toInt (b := 8192) (by decide)
    have kr := z_clamp (x := zrem w 8192) (by omega)
    rw [same]
    refine zp2_ckl (zp2_ckr (zp2_ckr (zp2_some ⟨rfl, rfl, ?_⟩)))
    exact hram _ (by omega)
theorem z_mm {a : Int32} : (a &&& 65535) &&& 65535 = a &&& 65535 := by rw [Int32.and_assoc, show (65535 : Int32) &&& 65535 = 65535 by decide]
theorem z_rdm {μ : zSt} {a : Int32} : fX12_read μ (a &&& 65535) = fX12_read μ a := by
  unfold fX12_read
  rw [z_mm]
theorem z_rdc {σ : zSt} {a : Int32} : fX2_read σ (a &&& 65535) = fX2_read σ a := by
  unfold fX2_read
  rw [z_mm]
theorem z_wrm {μ : zSt} {a v : Int32} : fX12_write μ (a &&& 65535) v = fX12_write μ a v := by
  unfold fX12_write
  rw [z_mm]
theorem z_wrb {μ : zSt} {a v : Int32} : fX12_write μ a (v &&& 255) = fX12_write μ a v := by
  unfold fX12_write
  rw [Int32.and_assoc, show (255 : Int32) &&& 255 = 255 by decide]
theorem z_p1 (a : Int32) : (((a + 1) &&& 65535) + 1) &&& 65535 = (a + 2) &&& 65535 := by
  refine Int32.toBitVec_inj.1 ?_
  rw [Int32.toBitVec_and, Int32.toBitVec_and, Int32.toBitVec_add, Int32.toBitVec_and, Int32.toBitVec_add, Int32.toBitVec_add]
  refine BitVec.eq_of_toNat_eq ?_
  rw [BitVec.toNat_and, BitVec.toNat_and, BitVec.toNat_add, BitVec.toNat_and, BitVec.toNat_add, BitVec.toNat_add]
  rw [show (65535 : Int32).toBitVec.toNat = 2 ^ 16 - 1 from rfl, show (1 : Int32).toBitVec.toNat = 1 from rfl, show (2 : Int32).toBitVec.toNat = 2 from rfl, Nat.and_two_pow_sub_one_eq_mod, Nat.and_two_pow_sub_one_eq_mod, Nat.and_two_pow_sub_one_eq_mod]
  omega
end ZJN1
section ZJN2
/-! a write into both memories -/
def zFw (σ σ' : zSt) : Prop := (∀ k, ¬ k = 15 → ¬ k = 17 → ¬ k = 19 → σ'.1 k = σ.1 k) ∧ σ'.2 = σ.2
def zFv (μ μ' : zSt) : Prop := (∀ k, ¬ k = 3 → ¬ k = 5 → ¬ k = 6 → μ'.1 k = μ.1 k) ∧ (∀ j, j < 29 ∨ 32 < j → μ'.1 3 j = μ.1 3 j) ∧ μ'.2 = μ.2
theorem zFw.rf {σ : zSt} : zFw σ σ := ⟨fun _ _ _ _ => rfl, rfl⟩
theorem zFv.rf {μ : zSt} : zFv μ μ := ⟨fun _ _ _ _ => rfl, fun _ _ => rfl, rfl⟩
theorem zFw.tr {a b c : zSt} (h : zFw a b) (k : zFw b c) : zFw a c := ⟨fun i x y z => (k.1 i x y z).trans (h.1 i x y z), k.2.trans h.2⟩
theorem zFv.tr {a b c : zSt} (h : zFv a b) (k : zFv b c) : zFv a c := ⟨fun i x y z => (k.1 i x y z).trans (h.1 i x y z), fun j hj => (k.2.1 j hj).trans (h.2.1 j hj), k.2.2.trans h.2.2⟩
theorem zFw.w {σ : zSt} {k j : Nat} {v : Int32} (c : k = 15 ∨ k = 17 ∨ k = 19) : zFw σ (zsi σ k j v) := ⟨fun i x y z => zsi_ne (by omega), rfl⟩
theorem zFv.w5 {μ : zSt} {k j : Nat} {v : Int32} (c : k = 5 ∨ k = 6) : zFv μ (zsi μ k j v) := ⟨fun i x y z => zsi_ne (by omega), fun j hj => by rw [zsi_ne (by omega)], rfl⟩
theorem zFv.w3 {μ : zSt} {j : Nat} {v : Int32} (c : 29 ≤ j ∧ j ≤ 32) : zFv μ (zsi μ 3 j v) := ⟨fun i x y z => zsi_ne x, fun i hi => zsi_nj (by omega), rfl⟩
/-- cartridge: kept by such writes -/
theorem zMe.cart {σ σ' μ μ' : zSt} (h : zCart σ μ ∧ zFil μ) (a : zFw σ σ') (b : zFv μ μ') : zCart σ' μ' ∧ zFil μ' := by
  have r1 : σ'.1 1 = σ.1 1 := a.1 1 (by decide) (by decide) (by decide)
  have m0 : μ'.1 0 = μ.1 0 := b.1 0 (by decide) (by decide) (by decide)
  have m2 : μ'.1 2 = μ.1 2 := b.1 2 (by decide) (by decide) (by decide)
  refine ⟨h.1.keep (fun j _ => by rw [r1]) (a.1 _ ?_ ?_ ?_) (fun j _ => by rw [m0]) m2, ?_⟩
  · rcases z_tp13 (σ.1 1 1) with e | e <;> rw [e] <;> decide
  · rcases z_tp13 (σ.1 1 1) with e | e <;> rw [e] <;> decide
  · rcases z_tp13 (σ.1 1 1) with e | e <;> rw [e] <;> decide
  · unfold zFil
    rw [m0, m2]
    exact h.2
theorem zMe.ram {σ μ : zSt} (h : zMe σ μ) {i : Nat} {x y : Int32} (e : x = y &&& 255) : zMe (zsi σ 15 i x) (zsi μ 5 i y) := by
  obtain ⟨h1, h2, h3, h4, h5⟩ := h
  refine ⟨fun j hj => ?_, fun j hj => ?_, fun j hj => ?_, ?_, zMe.cart h5 (zFw.w (Or.inl rfl)) (zFv.w5 (Or.inl rfl))⟩
  · by_cases q : j = i
    · rw [q, zsi_ej, zsi_ej]; exact e
    · rw [zsi_nj q, zsi_nj q]; exact h1 j hj
  · rw [zsi_ne (by decide), zsi_ne (by decide)]; exact h2 j hj
  · rw [zsi_ne (by decide), zsi_ne (by decide)]; exact h3 j hj
  · rw [zsi_ne (by decide), zsi_ne (by decide)]; exact h4
theorem zMe.bat {σ μ : zSt} (h : zMe σ μ) {i : Nat} {x y : Int32} (e : x = y &&& 255) : zMe (zsi σ 17 i x) (zsi μ 6 i y) := by
  obtain ⟨h1, h2, h3, h4, h5⟩ := h
  refine ⟨fun j hj => ?_, fun j hj => ?_, fun j hj => ?_, ?_, zMe.cart h5 (zFw.w (Or.inr (Or.inl rfl))) (zFv.w5 (Or.inr rfl))⟩
  · rw [zsi_ne (by decide), zsi_ne (by decide)]; exact h1 j hj
  · by_cases q : j = i
    · rw [q, zsi_ej, zsi_ej]; exact e
    · rw [zsi_nj q, zsi_nj q]; exact h2 j hj
  · rw [zsi_ne (by decide), zsi_ne (by decide)]; exact h3 j hj
  · rw [zsi_ne (by decide), zsi_ne (by decide)]; exact h4
theorem zMe.page {σ μ : zSt} (h : zMe σ μ) {i : Nat} {x : Int32} (hi : i ≤ 3) : zMe (zsi σ 19 i x) (zsi μ 3 (29 + i) x) := by
  obtain ⟨h1, h2, h3, h4, h5⟩ := h
  refine ⟨fun j hj => ?_, fun j hj => ?_, fun j hj => ?_, ?_, zMe.cart h5 (zFw.w (Or.inr (Or.inr rfl))) (zFv.w3 (by omega))⟩
  · rw [zsi_ne (by decide), zsi_ne (by decide)]; exact h1 j hj
  · rw [zsi_ne (by decide), zsi_ne (by decide)]; exact h2 j hj
  · by_cases q : j = i
    · rw [q, zsi_ej, zsi_ej]
    · rw [zsi_nj q, zsi_nj (by omega)]; exact h3 j hj
  · by_cases q : (3 : Nat) = i
    · rw [← q, zsi_ej]
      exact zsi_ej.symm
    · rw [zsi_nj q, zsi_nj (by omega)]; exact h4
def zWq (σ μ : zSt) (r r' : zSt) : Prop := zMe r r' ∧ zFw σ r ∧ zFv μ r'
theorem z2_w22 {σ μ : zSt} {v x : Int32} (h : zMe σ μ) (hr : zMr σ μ) (hv : zr 0 65535 v) (hx : zr 0 255 x) : zp2 (fX2_write_22 σ x v) (fX12_write_31 μ v x) (zWq σ μ) := by
  have h' := h
  obtain ⟨hram, hbat, hpg, hk, hc, hf⟩ := h
  have hr' := hr
  obtain ⟨r3, r4, r6, r7, ryp, rpg⟩ := hr
  obtain ⟨d4, d5, d6, d7, db, _⟩ := hc
  have v0 := hv.1
  have v1 := hv.2
  have c2 : (65532 : Int32).toInt = 65532 := rfl
  have c3 : (65533 : Int32).toInt = 65533 := rfl
  have c8 : (32768 : Int32).toInt = 32768 := rfl
  have c9 : (49152 : Int32).toInt = 49152 := rfl
  have c0 : (0 : Int32).toInt = 0 := rfl
  have c6 : (16384 : Int32).toInt = 16384 := rfl
  have stay : zWq σ μ σ μ := ⟨h', zFw.rf, zFv.rf⟩
  have hxx : x = vp_nar .byte (x.toInt8.toInt32) &&& 255 := by
    rw [z_nar, z_i8]
    exact Int32.toInt_inj.mp (by rw [z_mask (k := 8) hx.1 rfl (by decide)]; have := hx.1; have := hx.2; show x.toInt = x.toInt % 256; omega)
  unfold fX2_write_22 fX12_write_31
  rw [show zgi σ 1 6 = μ.1 0 7 from d6]
  refine zp2_bir p_isBat (fun μ5 v6 p => ?_)
  obtain ⟨p1, p2⟩ := p
  have p1 : μ5 = μ := p1
  subst p1
  by_cases z1 : μ5.1 0 7 = 1
  · have n2 : ¬ μ5.1 0 7 = 2 := fun r => by rw [r] at z1; exact absurd z1 (by decide)
    have n3 : ¬ μ5.1 0 7 = 3 := fun r => by rw [r] at z1; exact absurd z1 (by decide)
    have done : ∀ (σ1 μ1 : zSt), zWq σ μ5 σ1 μ1 → zp2 (fX2_write_151 σ1 ) (fX12_write_103 μ1 v x) (zWq σ μ5) := fun σ1 μ1 hq => by
      unfold fX2_write_151 fX12_write_103 fX12_write_140 fX12_write_163
      have m : zgi μ1 0 7 = μ5.1 0 7 := congrFun (hq.2.2.1 0 (by decide) (by decide) (by decide)) 7
      rw [m]
      exact zp2_ifr (fun r => absurd r n2) (fun _ => zp2_ifr (fun r => absurd r n3) (fun _ => zp2_some hq))
    have low : v.toInt < 65532 → ∀ (σ1 μ1 : zSt), zWq σ μ5 σ1 μ1 → zp2 (fX2_write_151 σ1 ) (fX12_write_52 μ1 v x) (zWq σ μ5) := fun hl σ1 μ1 hq => by
      unfold fX12_write_52 fX12_write_75
      have m : zgi μ1 0 7 = μ5.1 0 7 := congrFun (hq.2.2.1 0 (by decide) (by decide) (by decide)) 7
      rw [m]
      refine zp2_ifr (fun _ => zp2_ifr (fun r => ?_) (fun _ => zp2_ifr (fun _ => zp2_ifr (fun _ => done σ1 μ1 hq) (fun r => ?_)) (fun r => absurd z1 r))) (fun r => absurd z1 r)
      · rw [r] at hl; exfalso; omega
      · have := Int32.lt_iff_toInt_lt.mp (z_nle r); exfalso; omega
    refine zp2_ifl (fun _ => zp2_ifl (fun q => ?_) (fun q => ?_)) (fun r => absurd z1 r)
    · have q1 := Int32.lt_iff_toInt_lt.mp q
      refine zp2_ifl (fun a => ?_) (fun a => zp2_ifl (fun b => ?_) (fun b => ?_))
      · have a1 := Int32.lt_iff_toInt_lt.mp a
        have nb : v6 = 0 := by
          rcases p2 with ⟨y, _⟩ | ⟨_, e⟩
          · have := y.2.2.1; exfalso; omega
          · exact e
        exact zp2_ifr (fun _ => low (by omega) σ μ5 stay) (fun r => absurd nb r)
      · have b1 := Int32.le_iff_toInt_le.mp b
        have nb : v6 = 0 := by
          rcases p2 with ⟨y, _⟩ | ⟨_, e⟩
          · have := y.2.2.2; exfalso; omega
          · exact e
        exact zp2_ifr (fun _ => low (by omega) σ μ5 stay) (fun r => absurd nb r)
      · have a1 := Int32.le_iff_toInt_le.mp (z_nlt a)
        have b1 := Int32.lt_iff_toInt_lt.mp (z_nle b)
        refine zp2_bil p_batIn (fun σ4 v5 bb => ?_)
        obtain ⟨s1, s2⟩ := bb
        have s1 : σ4 = σ := s1
        subst s1
        rw [d6, hk] at s2
        rcases p2 with ⟨y, y2⟩ | ⟨y, y2⟩
        · have y2 : v6 = 1 := y2
          have v5e : v5 = 1 := by
            rcases s2 with ⟨_, e⟩ | ⟨n, _⟩
            · exact e
            · exact absurd ⟨y.1, y.2.1⟩ n
          refine zp2_ifl (fun r => absurd (v5e.symm.trans r) (by decide)) (fun _ => zp2_ifr (fun r => absurd (y2.symm.trans r) (by decide)) (fun _ => ?_))
          refine zp2_bii (z2_batAt h' hr' y.2.2.1 y.2.2.2) (fun σ6 w7 μ7 w8 s => ?_)
          obtain ⟨t1, t2, t3, t4⟩ := s
          have t1 : σ6 = σ4 := t1
          have t2 : μ7 = μ5 := t2
          have t3 : w7 = w8 := t3
          subst t1
          subst t2
          subst t3
          refine zp2_ckl (zp2_bvl (fun σ8 e8 => zp2_ckr (zp2_bvr (fun μ9 e9 => ?_))))
          exact low (by omega) σ8 μ9 ⟨by rw [e8, e9]; exact h'.bat hxx, by rw [e8]; exact zFw.w (Or.inr (Or.inl rfl)), by rw [e9]; exact zFv.w5 (Or.inr rfl)⟩
        · have y2 : v6 = 0 := y2
          have v5e : v5 = 0 := by
            rcases s2 with ⟨z, _⟩ | ⟨_, e⟩
            · exact absurd ⟨z.1, z.2, by omega, by omega⟩ y
            · exact e
          exact zp2_ifl (fun _ => zp2_ifr (fun _ => low (by omega) σ4 μ5 stay) (fun r => absurd y2 r)) (fun r => absurd v5e r)
    · have q1 := Int32.le_iff_toInt_le.mp (z_nlt q)
      have nb : v6 = 0 := by
        rcases p2 with ⟨y, _⟩ | ⟨_, e⟩
        · have := y.2.2.2; exfalso; omega
        · exact e
      refine zp2_ifr (fun _ => ?_) (fun r => absurd nb r)
      unfold fX2_write_54 fX12_write_52 fX12_write_75
      rw [show zgi μ5 0 7 = μ5.1 0 7 from rfl]
      refine zp2_ifr (fun _ => ?_) (fun r => absurd z1 r)
      refine zp2_if (fun a => ?_) (fun a => ?_)
      · refine zp2_ckl (zp2_bvl (fun σ1 e1 => zp2_ckr (zp2_bvr (fun μ4 e4 => ?_))))
        have hq : zWq σ μ5 σ1 μ4 := ⟨by rw [e1, e4]; exact h'.page (i := 3) (by decide), by rw [e1]; exact zFw.w (Or.inr (Or.inr rfl)), by rw [e4]; exact zFv.w3 (by decide)⟩
        have m : zgi μ4 0 7 = μ5.1 0 7 := congrFun (hq.2.2.1 0 (by decide) (by decide) (by decide)) 7
        rw [m]
        exact zp2_ifr (fun _ => zp2_ifr (fun _ => done σ1 μ4 hq) (fun r => absurd (by rw [a]; decide) r)) (fun r => absurd z1 r)
      · refine zp2_ifr (fun _ => zp2_ifr (fun r => ?_) (fun _ => ?_)) (fun r => absurd z1 r)
        · have := Int32.le_iff_toInt_le.mp r
          exact absurd (Int32.toInt_inj.mp (by omega)) a
        · have a1 : ¬ v.toInt = 65532 := fun r => a (Int32.toInt_inj.mp (r.trans c2.symm))
          have t1 : (v - 65533).toInt = v.toInt - (65533 : Int32).toInt := z_tsub hv (zr_c (lo := 65533) (hi := 65533) (by decide)) (by decide)
          have t2 : (29 + v).toInt = (29 : Int32).toInt + v.toInt := z_tadd (zr_c (lo := 29) (hi := 29) (by decide)) hv (by decide)
          have t3 : ((29 + v) - 65533).toInt = (29 + v).toInt - (65533 : Int32).toInt := z_tsub (zr_add (lo := 29) (hi := 65564) (zr_c (lo := 29) (hi := 29) (by decide)) hv (by decide)) (zr_c (lo := 65533) (hi := 65533) (by decide)) (by decide)
          have c29 : (29 : Int32).toInt = 29 := rfl
          have k1 := z_clamp (x := v - 65533) (by omega)
          have k3 := z_clamp (x := (29 + v) - 65533) (by omega)
          refine zp2_ckl (zp2_bvl (fun σ1 e1 => zp2_ckr (zp2_bvr (fun μ3 e3 => ?_))))
          rw [show ((29 + v) - 65533).toNatClampNeg = 29 + (v - 65533).toNatClampNeg by omega] at e3
          exact done σ1 μ3 ⟨by rw [e1, e3]; exact h'.page (by omega), by rw [e1]; exact zFw.w (Or.inr (Or.inr rfl)), by rw [e3]; exact zFv.w3 (by omega)⟩
  · have nb : v6 = 0 := by
      rcases p2 with ⟨y, _⟩ | ⟨_, e⟩
      · exact absurd y.1 z1
      · exact e
    refine zp2_ifl (fun r => absurd r z1) (fun _ => zp2_ifr (fun _ => ?_) (fun r => absurd nb r))
    unfold fX12_write_52 fX12_write_75
    rw [show zgi μ5 0 7 = μ5.1 0 7 from rfl]
    refine zp2_ifr (fun r => absurd r z1) (fun _ => zp2_ifr (fun r => absurd r z1) (fun _ => ?_))
    -- paging 3 or none
    have last : ∀ (σ1 μ1 : zSt), ¬ μ5.1 0 7 = 3 → zWq σ μ5 σ1 μ1 → zp2 (fX2_write_151 σ1 ) (fX12_write_140 μ1 v x) (zWq σ μ5) := fun σ1 μ1 n3 hq => by
      unfold fX2_write_151 fX12_write_140 fX12_write_163
      have m : zgi μ1 0 7 = μ5.1 0 7 := congrFun (hq.2.2.1 0 (by decide) (by decide) (by decide)) 7
      rw [m]
      exact zp2_ifr (fun r => absurd r n3) (fun _ => zp2_some hq)
    have both : zp2 (fX2_write_130 σ x v) (fX12_write_140 μ5 v x) (zWq σ μ5) := by
      unfold fX2_write_130 fX2_write_151 fX12_write_140 fX12_write_163
      rw [show zgi σ 1 6 = zgi μ5 0 7 from d6]
      refine zp2_if (fun _ => zp2_if (fun _ => zp2_ckl (zp2_bvl (fun σ1 e1 => zp2_ckr (zp2_bvr (fun μ3 e3 => zp2_some ?_))))) (fun _ => zp2_some stay)) (fun _ => zp2_some stay)
      exact ⟨by rw [e1, e3]; exact h'.page (i := 2) (by decide), by rw [e1]; exact zFw.w (Or.inr (Or.inr rfl)), by rw [e3]; exact zFv.w3 (by decide)⟩
    unfold fX12_write_103
    rw [show zgi μ5 0 7 = μ5.1 0 7 from rfl]
    refine zp2_if (fun z2 => ?_) (fun z2 => both)
    have n3 : ¬ μ5.1 0 7 = 3 := fun r => by rw [r] at z2; exact absurd z2 (by decide)
    -- paging 2: one of three places, or none
    have hit : v.toInt < 49152 → v.toInt % 16384 = 0 → zp2 (fX2_write_117 σ x v) (if 49152 ≤ v then fX12_write_140 μ5 v x else zck (decide (¬ 16384 = 0)) (if (zrem v 16384) = 0 then zck (decide (¬ 16384 = 0)) (zck (zin (29 + (v / 16384)) 1048) (zbv (zsi μ5 3 ((29 + (v / 16384)).toNatClampNeg) x) (fun σ2 => fX12_write_140 σ2 v x))) else fX12_write_140 μ5 v x)) (zWq σ μ5) := fun hl hm => by
      obtain ⟨th, tr, td⟩ := z_third (v := v) ⟨v0, by omega⟩
      have rem := z_trem (y := (16384 : Int32)) 16384 rfl hv (by decide)
      have tr0 := tr.1
      have tr2 := tr.2
      have kt := z_clamp tr0
      have ta : (29 + v / 16384).toInt = (29 : Int32).toInt + (v / 16384).toInt := z_tadd (zr_c (lo := 29) (hi := 29) (by decide)) tr (by decide)
      have c29 : (29 : Int32).toInt = 29 := rfl
      have ka := z_clamp (x := 29 + v / 16384) (by omega)
      unfold fX2_write_117
      rw [th]
      refine zp2_ifr (fun r => ?_) (fun _ => zp2_ckr (zp2_ifr (fun _ => ?_) (fun r => ?_)))
      · have := Int32.le_iff_toInt_le.mp r; exfalso; omega
      · refine zp2_ckl (zp2_bvl (fun σ3 e3 => zp2_ckr (zp2_ckr (zp2_bvr (fun μ2 e2 => ?_)))))
        rw [show (29 + v / 16384).toNatClampNeg = 29 + (v / 16384).toNatClampNeg by omega] at e2
        exact last σ3 μ2 n3 ⟨by rw [e3, e2]; exact h'.page (by omega), by rw [e3]; exact zFw.w (Or.inr (Or.inr rfl)), by rw [e2]; exact zFv.w3 (by omega)⟩
      · exact absurd (Int32.toInt_inj.mp (by rw [rem, hm]; rfl)) r
    have miss : (49152 ≤ v.toInt ∨ ¬ v.toInt % 16384 = 0) → zp2 (fX2_write_130 σ x v) (if 49152 ≤ v then fX12_write_140 μ5 v x else zck (decide (¬ 16384 = 0)) (if (zrem v 16384) = 0 then zck (decide (¬ 16384 = 0)) (zck (zin (29 + (v / 16384)) 1048) (zbv (zsi μ5 3 ((29 + (v / 16384)).toNatClampNeg) x) (fun σ2 => fX12_write_140 σ2 v x))) else fX12_write_140 μ5 v x)) (zWq σ μ5) := fun hm => by
      have rem := z_trem (y := (16384 : Int32)) 16384 rfl hv (by decide)
      refine zp2_ifr (fun _ => both) (fun r => zp2_ckr (zp2_ifr (fun s => ?_) (fun _ => both)))
      have r1 := Int32.lt_iff_toInt_lt.mp (z_nle r)
      rw [s, c0] at rem
      exfalso
      omega
    refine zp2_ifl (fun a => ?_) (fun a => zp2_ifl (fun b => ?_) (fun b => zp2_ifl (fun c => ?_) (fun c => ?_)))
    · exact hit (by rw [a, c0]; decide) (by rw [a, c0]; decide)
    · exact hit (by rw [b, c6]; decide) (by rw [b, c6]; decide)
    · exact hit (by rw [c, c8]; decide) (by rw [c, c8]; decide)
    · refine miss ?_
      have a1 : ¬ v.toInt = 0 := fun r => a (Int32.toInt_inj.mp (r.trans c0.symm))
      have b1 : ¬ v.toInt = 16384 := fun r => b (Int32.toInt_inj.mp (r.trans c6.symm))
      have d1 : ¬ v.toInt = 32768 := fun r => c (Int32.toInt_inj.mp (r.trans c8.symm))
      omega
theorem z2_write {σ μ : zSt} {x y : Int32} (h : zMe σ μ) (hr : zMr σ μ) (hy : zr 0 255 y) : zp2 (fX2_write σ x y) (fX12_write μ x y) (zWq σ μ) := by
  unfold fX2_write fX12_write
  refine zp2_bvl (fun v ev => zp2_bvr (fun w ew => zp2_bvr (fun u eu => ?_)))
  have e : w = v := by rw [ev, ew]
  subst e
  have hv : zr 0 65535 w := by rw [ew]; exact zr_andr (lo := 0) (hi := 65535) (zr_c (lo := 65535) (hi := 65535) (by decide)) (by decide)
  have y0 := hy.1
  have y1 := hy.2
  have eu2 : u = y := by
    rw [eu]
    exact Int32.toInt_inj.mp (by rw [z_mask (k := 8) y0 rfl (by decide)]; show y.toInt % 256 = y.toInt; omega)
  subst eu2
  have v0 := hv.1
  refine zp2_if (fun _ => z2_w22 h hr hv hy) (fun _ => ?_)
  have e8 := z_8 v0
  have tr := z_trem (y := (8192 : Int32)) 8192 rfl hv (by decide)
  have same : w &&& 8191 = zrem w 8192 := Int32.toInt_inj.mp (by rw [e8, tr])
  rw [same]
  refine zp2_ckl (zp2_bvl (fun σ1 e1 => zp2_ckr (zp2_ckr (zp2_bvr (fun μ1 f1 => ?_)))))
  have hxx : u = vp_nar .byte (u.toInt8.toInt32) &&& 255 := by
    rw [z_nar, z_i8]
    exact Int32.toInt_inj.mp (by rw [z_mask (k := 8) y0 rfl (by decide)]; show u.toInt = u.toInt % 256; omega)
  have h1 : zMe σ1 μ1 := by rw [e1, f1]; exact h.ram hxx
  have a1 : zFw σ σ1 := by rw [e1]; exact zFw.w (Or.inl rfl)
  have b1 : zFv μ μ1 := by rw [f1]; exact zFv.w5 (Or.inl rfl)
  have r1 : zMr σ1 μ1 := by
    obtain ⟨r3, r4, r6, r7, ryp, rpg⟩ := hr
    have s1 : σ1.1 1 = σ.1 1 := a1.1 1 (by decide) (by decide) (by decide)
    have m0 : μ1.1 0 = μ.1 0 := b1.1 0 (by decide) (by decide) (by decide)
    have m3 : μ1.1 3 = μ.1 3 := by rw [f1]; exact zsi_ne (by decide)
    unfold zMr
    rw [s1, m0, m3]
    exact ⟨r3, r4, r6, r7, ryp, rpg⟩
  exact zp2_mono (z2_w22 h1 r1 hv hy) (fun _ _ q => ⟨q.1, a1.tr q.2.1, b1.tr q.2.2⟩)
end ZJN2
section ZJN3
/-! the processor of both sides -/
def zCp (σ μ : zSt) : Prop := (∀ j : Nat, j ≤ 26 → σ.1 36 j = μ.1 3 j) ∧ σ.1 36 27 = μ.1 3 28 ∧ σ.1 36 28 = μ.1 3 27 ∧ (∀ j : Nat, j < 16 → zr 0 255 (σ.1 36 j)) ∧ (∀ j : Nat, 16 ≤ j → j ≤ 20 → zr 0 65535 (σ.1 36 j)) ∧ (∀ j : Nat, 21 ≤ j → j ≤ 22 → zr 0 255 (σ.1 36 j))
/-- what an instruction leaves as it is -/
def zFc (σ σ' : zSt) : Prop := (∀ k, ¬ k = 7 → ¬ k = 15 → ¬ k = 17 → ¬ k = 19 → ¬ k = 36 → σ'.1 k = σ.1 k) ∧ σ'.2 = σ.2
def zFm (μ μ' : zSt) : Prop := (∀ k, ¬ k = 0 → ¬ k = 3 → ¬ k = 5 → ¬ k = 6 → μ'.1 k = μ.1 k) ∧ (∀ j, 32 < j → μ'.1 3 j = μ.1 3 j) ∧ (∀ j, j < 31 ∨ 33 < j → μ'.1 0 j = μ.1 0 j) ∧ μ'.2 = μ.2
theorem zFc.rf {σ : zSt} : zFc σ σ := ⟨fun _ _ _ _ _ _ => rfl, rfl⟩
theorem zFm.rf {μ : zSt} : zFm μ μ := ⟨fun _ _ _ _ _ => rfl, fun _ _ => rfl, fun _ _ => rfl, rfl⟩
theorem zFc.tr {a b c : zSt} (h : zFc a b) (k : zFc b c) : zFc a c := ⟨fun i x y z w v => (k.1 i x y z w v).trans (h.1 i x y z w v), k.2.trans h.2⟩
theorem zFm.tr {a b c : zSt} (h : zFm a b) (k : zFm b c) : zFm a c := ⟨fun i x y z w => (k.1 i x y z w).trans (h.1 i x y z w), fun j hj => (k.2.1 j hj).trans (h.2.1 j hj), fun j hj => (k.2.2.1 j hj).trans (h.2.2.1 j hj), k.2.2.2.trans h.2.2.2⟩
theorem zFw.c {a b : zSt} (h : zFw a b) : zFc a b := ⟨fun k x y z w v => h.1 k y z w, h.2⟩
theorem zFv.m {a b : zSt} (h : zFv a b) : zFm a b := ⟨fun k x y z w => h.1 k y z w, fun j hj => h.2.1 j (Or.inr hj), fun j _ => by rw [h.1 0 (by decide) (by decide) (by decide)], h.2.2⟩
/-- both sides within an instruction that began at σ0, μ0 -/
def zS (σ0 μ0 σ μ : zSt) : Prop := zMe σ μ ∧ zCp σ μ ∧ zMr σ μ ∧ zFc σ0 σ ∧ zFm μ0 μ
section ZS
variable {σ0 μ0 σ μ : zSt}
theorem zS.eq (h : zS σ0 μ0 σ μ) {j : Nat} (hj : j ≤ 26) : σ.1 36 j = μ.1 3 j := h.2.1.1 j hj
theorem zS.b (h : zS σ0 μ0 σ μ) {j : Nat} (hj : j < 16) : zr 0 255 (σ.1 36 j) := h.2.1.2.2.2.1 j hj
theorem zS.w (h : zS σ0 μ0 σ μ) {j : Nat} (h1 : 16 ≤ j) (h2 : j ≤ 20) : zr 0 65535 (σ.1 36 j) := h.2.1.2.2.2.2.1 j h1 h2
theorem zMe.cpu {v w : Int32} {j i : Nat} (h : zMe σ μ) (hi : i ≤ 28) : zMe (zsi σ 36 j v) (zsi μ 3 i w) := by
  obtain ⟨h1, h2, h3, h4, h5, h6⟩ := h
  refine ⟨fun a ha => ?_, fun a ha => ?_, fun a ha => ?_, ?_, ?_, ?_⟩
  · rw [zsi_ne (by decide), zsi_ne (by decide)]; exact h1 a ha
  · rw [zsi_ne (by decide), zsi_ne (by decide)]; exact h2 a ha
  · rw [zsi_ne (by decide), zsi_nj (by omega)]; exact h3 a ha
  · rw [zsi_ne (by decide), zsi_nj (by omega)]; exact h4
  · exact h5.keep (fun a _ => by rw [zsi_ne (by decide)]) (zsi_ne (fun e => by rcases z_tp13 (σ.1 1 1) with q | q <;> rw [q] at e <;> exact absurd e (by decide))) (fun a _ => by rw [zsi_ne (by decide)]) (zsi_ne (by decide))
  · unfold zFil
    rw [zsi_ne (by decide), zsi_ne (by decide)]
    exact h6
theorem zMr.cpu {v w : Int32} {j i : Nat} (h : zMr σ μ) (hi : i ≤ 28) : zMr (zsi σ 36 j v) (zsi μ 3 i w) := by
  obtain ⟨h1, h2, h3, h4, h5, h6⟩ := h
  refine ⟨by rw [zsi_ne (by decide)]; exact h1, by rw [zsi_ne (by decide)]; exact h2, by rw [zsi_ne (by decide)]; exact h3, by rw [zsi_ne (by decide)]; exact h4, by rw [zsi_ne (by decide)]; exact h5, fun a x y => by rw [zsi_nj (by omega)]; exact h6 a x y⟩
/-- a register on both sides -/
theorem zS.set (h : zS σ0 μ0 σ μ) {j : Nat} {v : Int32} (hj : j ≤ 26) (hb : j < 16 → zr 0 255 v) (hw : 16 ≤ j → j ≤ 20 → zr 0 65535 v) (hr : 21 ≤ j → j ≤ 22 → zr 0 255 v) : zS σ0 μ0 (zsi σ 36 j v) (zsi μ 3 j v) := by
  obtain ⟨h1, ⟨c1, c2, c3, c4, c5, c6⟩, h3, h4, h5⟩ := h
  refine ⟨h1.cpu (by omega), ⟨fun a ha => ?_, ?_, ?_, fun a ha => ?_, fun a x y => ?_, fun a x y => ?_⟩, h3.cpu (by omega), h4.tr ⟨fun k _ _ _ _ n => zsi_ne n, rfl⟩, h5.tr ⟨fun k _ n _ _ => zsi_ne n, fun a ha => zsi_nj (by omega), fun a _ => by rw [zsi_ne (by decide)], rfl⟩⟩
  · by_cases q : a = j
    · rw [q, zsi_ej, zsi_ej]
    · rw [zsi_nj q, zsi_nj q]; exact c1 a ha
  · rw [zsi_nj (by omega), zsi_nj (by omega)]; exact c2
  · rw [zsi_nj (by omega), zsi_nj (by omega)]; exact c3
  · by_cases q : a = j
    · rw [q, zsi_ej]; exact hb (by omega)
    · rw [zsi_nj q]; exact c4 a ha
  · by_cases q : a = j
    · rw [q, zsi_ej]; exact hw (by omega) (by omega)
    · rw [zsi_nj q]; exact c5 a x y
  · by_cases q : a = j
    · rw [q, zsi_ej]; exact hr (by omega) (by omega)
    · rw [zsi_nj q]; exact c6 a x y
theorem zS.setb (h : zS σ0 μ0 σ μ) {j : Nat} {v w : Int32} (e : w = v) (hj : j < 16 ∨ j = 21 ∨ j = 22) (hv : zr 0 255 v) : zS σ0 μ0 (zsi σ 36 j v) (zsi μ 3 j w) := by
  subst e
  exact h.set (by omega) (fun _ => hv) (fun _ _ => zr_w hv (by decide)) (fun _ _ => hv)
theorem zS.setw (h : zS σ0 μ0 σ μ) {j : Nat} {v w : Int32} (e : w = v) (h1 : 16 ≤ j) (h2 : j ≤ 20) (hv : zr 0 65535 v) : zS σ0 μ0 (zsi σ 36 j v) (zsi μ 3 j w) := by
  subst e
  exact h.set (by omega) (fun x => by omega) (fun _ _ => hv) (fun x _ => by omega)
theorem zp2_andr {α β : Type} {o : Option α} {p : Option β} {Q : α → β → Prop} {P : β → Prop} (h : zp2 o p Q) (k : zpc p P) : zp2 o p (fun a b => Q a b ∧ P b) := fun a b e f => ⟨h a b e f, k b f⟩
theorem p_readr {μ : zSt} {x : Int32} : zpc (fX12_read μ x) (fun r => zr 0 255 r.2) := by
  unfold fX12_read fX12_read_80 fX12_read_111 fX12_read_138
  have ofB : ∀ (ν : zSt) (b v : Int32), zpc (zbi (fX12_ofBank ν b v) (fun σ1 v2 => some (σ1, v2))) (fun r => zr 0 255 r.2) := fun ν b v => zpc_bi (P := fun r => zr 0 255 r.2) (by unfold fX12_ofBank; exact zpc_ck (zpc_ck (zpc_ck (zpc_some (z_byte _))))) (fun σ1 v2 h => zpc_some h)
  exact zpc_bv (fun v _ => zpc_if (fun _ => zpc_bi (P := fun _ => True) (fun _ _ => trivial) (fun μ6 v7 _ => zpc_if (fun _ => zpc_if (fun _ => zpc_if (fun _ => zpc_some (show zr 0 255 (255 : Int32) from zr_c (by decide))) (fun _ => zpc_ck (zpc_some (z_byte _)))) (fun _ => zpc_if (fun _ => zpc_if (fun _ => zpc_ck (ofB _ _ _)) (fun _ => zpc_ck (ofB _ _ _))) (fun _ => zpc_if (fun _ => zpc_if (fun _ => zpc_ck (zpc_ck (ofB _ _ _))) (fun _ => ofB _ _ _)) (fun _ => zpc_ck (zpc_ck (ofB _ _ _)))))) (fun _ => zpc_bi (P := fun _ => True) (fun _ _ => trivial) (fun _ _ _ => zpc_ck (zpc_some (z_byte _)))))) (fun _ => zpc_ck (zpc_ck (zpc_some (z_byte _)))))
theorem zS.read (h : zS σ0 μ0 σ μ) {x y : Int32} (e : y = x) : zp2 (fX2_read σ x) (fX12_read μ y) (fun r r' => r.1 = σ ∧ r'.1 = μ ∧ r'.2 = r.2 ∧ zr 0 255 r.2) := by
  subst e
  exact zp2_mono (zp2_andr (z2_read h.1 h.2.2.1) p_readr) (fun a b q => ⟨q.1.1, q.1.2.1, q.1.2.2.symm, by rw [q.1.2.2]; exact q.2⟩)
theorem zMr.of (h : zMr σ μ) {σ' μ' : zSt} (a : zFw σ σ') (b : zFv μ μ') (pg : ∀ j : Nat, 29 ≤ j → j ≤ 32 → zr 0 255 (μ'.1 3 j)) : zMr σ' μ' := by
  obtain ⟨h1, h2, h3, h4, h5, h6⟩ := h
  have s1 : σ'.1 1 = σ.1 1 := a.1 1 (by decide) (by decide) (by decide)
  have m0 : μ'.1 0 = μ.1 0 := b.1 0 (by decide) (by decide) (by decide)
  unfold zMr
  rw [s1, m0]
  exact ⟨h1, h2, h3, h4, h5, pg⟩
/-- pages keep their range behind a write -/
theorem p_writer {μ : zSt} {x y : Int32} (h : ∀ j : Nat, 29 ≤ j → j ≤ 32 → zr 0 255 (μ.1 3 j)) : zpc (fX12_write μ x y) (fun r => ∀ j : Nat, 29 ≤ j → j ≤ 32 → zr 0 255 (r.1 3 j)) := by
  have w3 : ∀ (ν : zSt) (i : Nat) (v : Int32), (∀ j : Nat, 29 ≤ j → j ≤ 32 → zr 0 255 (ν.1 3 j)) → zr 0 255 v → ∀ j : Nat, 29 ≤ j → j ≤ 32 → zr 0 255 ((zsi ν 3 i v).1 3 j) := fun ν i v hn hv j j1 j2 => by
    by_cases q : j = i
    · rw [q, zsi_ej]; exact hv
    · rw [zsi_nj q]; exact hn j j1 j2
  have w5 : ∀ (ν : zSt) (k i : Nat) (v : Int32), ¬ 3 = k → (∀ j : Nat, 29 ≤ j → j ≤ 32 → zr 0 255 (ν.1 3 j)) → ∀ j : Nat, 29 ≤ j → j ≤ 32 → zr 0 255 ((zsi ν k i v).1 3 j) := fun ν k i v hk hn j j1 j2 => by
    rw [zsi_ne hk]; exact hn j j1 j2
  unfold fX12_write
  refine zpc_bv (fun v _ => zpc_bv (fun w ew => ?_))
  have hw : zr 0 255 w := by rw [ew]; exact z_byte _
  have a140 : ∀ ν : zSt, (∀ j : Nat, 29 ≤ j → j ≤ 32 → zr 0 255 (ν.1 3 j)) → zpc (fX12_write_140 ν v w) (fun r => ∀ j : Nat, 29 ≤ j → j ≤ 32 → zr 0 255 (r.1 3 j)) := fun ν hn => by
    unfold fX12_write_140 fX12_write_163
    exact zpc_if (fun _ => zpc_if (fun _ => zpc_ck (zpc_bv (fun ν1 e1 => zpc_some (by rw [e1]; exact w3 _ _ _ hn hw)))) (fun _ => zpc_some hn)) (fun _ => zpc_some hn)
  have a103 : ∀ ν : zSt, (∀ j : Nat, 29 ≤ j → j ≤ 32 → zr 0 255 (ν.1 3 j)) → zpc (fX12_write_103 ν v w) (fun r => ∀ j : Nat, 29 ≤ j → j ≤ 32 → zr 0 255 (r.1 3 j)) := fun ν hn => by
    unfold fX12_write_103
    exact zpc_if (fun _ => zpc_if (fun _ => a140 _ hn) (fun _ => zpc_ck (zpc_if (fun _ => zpc_ck (zpc_ck (zpc_bv (fun ν1 e1 => a140 _ (by rw [e1]; exact w3 _ _ _ hn hw))))) (fun _ => a140 _ hn)))) (fun _ => a140 _ hn)
  have a75 : ∀ ν : zSt, (∀ j : Nat, 29 ≤ j → j ≤ 32 → zr 0 255 (ν.1 3 j)) → zpc (fX12_write_75 ν v w) (fun r => ∀ j : Nat, 29 ≤ j → j ≤ 32 → zr 0 255 (r.1 3 j)) := fun ν hn => by
    unfold fX12_write_75
    exact zpc_if (fun _ => zpc_if (fun _ => a103 _ hn) (fun _ => zpc_ck (zpc_bv (fun ν1 e1 => a103 _ (by rw [e1]; exact w3 _ _ _ hn hw))))) (fun _ => a103 _ hn)
  have a52 : ∀ ν : zSt, (∀ j : Nat, 29 ≤ j → j ≤ 32 → zr 0 255 (ν.1 3 j)) → zpc (fX12_write_52 ν v w) (fun r => ∀ j : Nat, 29 ≤ j → j ≤ 32 → zr 0 255 (r.1 3 j)) := fun ν hn => by
    unfold fX12_write_52
    exact zpc_if (fun _ => zpc_if (fun _ => zpc_ck (zpc_bv (fun ν1 e1 => a75 _ (by rw [e1]; exact w3 _ _ _ hn hw)))) (fun _ => a75 _ hn)) (fun _ => a75 _ hn)
  have a31 : ∀ ν : zSt, (∀ j : Nat, 29 ≤ j → j ≤ 32 → zr 0 255 (ν.1 3 j)) → zpc (fX12_write_31 ν v w) (fun r => ∀ j : Nat, 29 ≤ j → j ≤ 32 → zr 0 255 (r.1 3 j)) := fun ν hn => by
    unfold fX12_write_31
    refine zpc_bi p_isBat (fun ν5 v6 p => ?_)
    have p1 : ν5 = ν := p.1
    subst p1
    refine zpc_if (fun _ => a52 _ hn) (fun _ => zpc_bi (P := fun r => r.1 = ν5) (by unfold fX12_batteryAt fX12_batteryAt_23; exact zpc_ck (zpc_if (fun _ => zpc_some rfl) (fun _ => zpc_some rfl))) (fun ν7 v8 e7 => zpc_ck (zpc_bv (fun ν9 e9 => a52 _ ?_))))
    have e7 : ν7 = ν5 := e7
    rw [e9, e7]
    exact w5 _ _ _ _ (by decide) hn
  exact zpc_if (fun _ => a31 _ h) (fun _ => zpc_ck (zpc_ck (zpc_bv (fun ν1 e1 => a31 _ (by rw [e1]; exact w5 _ _ _ _ (by decide) h)))))
theorem zS.write (h : zS σ0 μ0 σ μ) {x y v w : Int32} (e : y = x) (f : w = v) (hv : zr 0 255 v) : zp2 (fX2_write σ x v) (fX12_write μ y w) (fun r r' => zS σ0 μ0 r r' ∧ zFw σ r ∧ zFv μ r') := by
  subst e
  subst f
  obtain ⟨h1, h2, h3, h4, h5⟩ := h
  refine zp2_mono (zp2_andr (z2_write h1 h3 hv) (p_writer h3.2.2.2.2.2)) (fun r r' q => ?_)
  obtain ⟨⟨q1, q2, q3⟩, q4⟩ := q
  have s36 : r.1 36 = σ.1 36 := q2.1 36 (by decide) (by decide) (by decide)
  have m3 : ∀ j : Nat, j ≤ 28 → r'.1 3 j = μ.1 3 j := fun j hj => q3.2.1 j (Or.inl (by omega))
  refine ⟨⟨q1, ?_, h3.of q2 q3 q4, h4.tr q2.c, h5.tr q3.m⟩, q2, q3⟩
  obtain ⟨c1, c2, c3, c4, c5, c6⟩ := h2
  unfold zCp
  rw [s36]
  exact ⟨fun j hj => (c1 j hj).trans (m3 j (by omega)).symm, c2.trans (m3 28 (by decide)).symm, c3.trans (m3 27 (by decide)).symm, c4, c5, c6⟩
theorem zsi_comm {ν : zSt} {k i j : Nat} {v w : Int32} (h : ¬ i = j) : zsi (zsi ν k i v) k j w = zsi (zsi ν k j w) k i v := by
  refine Prod.ext (funext fun a => funext fun b => ?_) rfl
  rw [zsi_at, zsi_at, zsi_at, zsi_at]
  by_cases q1 : a = k ∧ b = j
  · rw [if_pos q1, if_neg (fun r => h (r.2.symm.trans q1.2)), if_pos q1]
  · rw [if_neg q1, if_neg q1]
/-! fetching -/
theorem z2_growR (h : zS σ0 μ0 σ μ) : zp2 (fX5_growR σ ) (fX12_grows μ ) (fun r r' => zS σ0 μ0 r r' ∧ r = zsi σ 36 22 (r.1 36 22) ∧ r' = zsi μ 3 22 (r'.1 3 22)) := by
  unfold fX5_growR fX12_grows
  have e : zgi μ 3 (22 : Int32).toNatClampNeg = zgi σ 36 (22 : Int32).toNatClampNeg := (h.eq (j := 22) (by decide)).symm
  rw [e]
  refine zp2_ckl (zp2_ckl (zp2_ckl (zp2_bvl (fun σ1 e1 => zp2_ckr (zp2_ckr (zp2_ckr (zp2_bvr (fun μ1 f1 => zp2_some ⟨?_, ?_, ?_⟩))))))))
  · rw [e1, f1]
    exact h.setb (j := 22) rfl (by decide) (zr_or (lo := 0) (hi := 255) 8 (zr_andr (lo := 0) (hi := 128) (zr_c (lo := 128) (hi := 128) (by decide)) (by decide)) (zr_andr (lo := 0) (hi := 127) (zr_c (lo := 127) (hi := 127) (by decide)) (by decide)) (by decide))
  · rw [show σ1.1 36 22 = _ from (congrArg (fun s : zSt => s.1 36 22) e1).trans zsi_ej]; exact e1
  · rw [show μ1.1 3 22 = _ from (congrArg (fun s : zSt => s.1 3 22) f1).trans zsi_ej]; exact f1
theorem z2_next (h : zS σ0 μ0 σ μ) : zp2 (fX5_fetch σ ) (fX12_next μ ) (fun r r' => zS σ0 μ0 r.1 r'.1 ∧ r'.2 = r.2 ∧ zr 0 255 r.2) := by
  unfold fX5_fetch fX12_next
  have e : zgi μ 3 (19 : Int32).toNatClampNeg = zgi σ 36 (19 : Int32).toNatClampNeg := (h.eq (j := 19) (by decide)).symm
  refine zp2_ckl (zp2_ckr (zp2_bii (h.read e) (fun σ1 v μ1 w q => ?_)))
  obtain ⟨q1, q2, q3, q4⟩ := q
  have q1 : σ1 = σ := q1
  have q2 : μ1 = μ := q2
  subst q1
  subst q2
  rw [e]
  refine zp2_ckl (zp2_ckl (zp2_bvl (fun σ3 e3 => zp2_ckr (zp2_ckr (zp2_bvr (fun μ3 f3 => zp2_some ⟨?_, q3, q4⟩))))))
  show zS σ0 μ0 σ3 μ3
  rw [e3, f3]
  exact h.setw (j := 19) rfl (by decide) (by decide) (zr_andr (lo := 0) (hi := 65535) (zr_c (lo := 65535) (hi := 65535) (by decide)) (by decide))
end ZS
end ZJN3
section ZJN4
/-! frames, cell by cell -/
def zcv (R : List Nat) (A : List (Nat × Nat × Nat)) (k j : Nat) : Bool := R.any (Nat.beq k) || A.any (fun e => Nat.beq e.1 k && (Nat.ble e.2.1 j && Nat.ble j e.2.2))
def zQ (R : List Nat) (A : List (Nat × Nat × Nat)) (S : List Nat) (B : List (Nat × Nat × Nat)) (σ0 σ : zSt) : Prop := (∀ k j, zcv R A k j = false → σ.1 k j = σ0.1 k j) ∧ (∀ k j, zcv S B k j = false → σ.2 k j = σ0.2 k j)
section ZQ
variable {R S : List Nat} {A B : List (Nat × Nat × Nat)} {σ0 σ σ1 : zSt}
theorem zQ.rf : zQ R A S B σ σ := ⟨fun _ _ _ => rfl, fun _ _ _ => rfl⟩
theorem zQ.tr (h : zQ R A S B σ0 σ) (k : zQ R A S B σ σ1) : zQ R A S B σ0 σ1 := ⟨fun i j c => (k.1 i j c).trans (h.1 i j c), fun i j c => (k.2 i j c).trans (h.2 i j c)⟩
theorem zQ.wi (h : zQ R A S B σ0 σ) {k j : Nat} {v : Int32} (c : zcv R A k j = true) : zQ R A S B σ0 (zsi σ k j v) := by
  refine ⟨fun i l q => ?_, h.2⟩
  rw [zsi_off (fun r => by rw [r.1, r.2, c] at q; exact absurd q (by decide))]
  exact h.1 i l q
theorem zQ.wr (h : zQ R A S B σ0 σ) {k a b : Nat} {lo hi : Int} {x v : Int32} (hx : zr lo hi x) (m : A.any (fun e => Nat.beq e.1 k && (Nat.beq e.2.1 a && Nat.beq e.2.2 b)) = true) (c : (a : Int) ≤ lo ∧ hi ≤ (b : Int)) : zQ R A S B σ0 (zsi σ k x.toNatClampNeg v) := by
  refine h.wi ?_
  have h1 := hx.1
  have h2 := hx.2
  have kx := z_clamp (x := x) (by omega)
  unfold zcv
  rw [Bool.or_eq_true]
  right
  rw [List.any_eq_true] at m ⊢
  obtain ⟨e, e1, e2⟩ := m
  rw [Bool.and_eq_true, Bool.and_eq_true] at e2
  refine ⟨e, e1, ?_⟩
  rw [Bool.and_eq_true, Bool.and_eq_true]
  have a1 : e.2.1 = a := Nat.eq_of_beq_eq_true e2.2.1
  have b1 : e.2.2 = b := Nat.eq_of_beq_eq_true e2.2.2
  exact ⟨e2.1, Nat.ble_eq.mpr (by omega), Nat.ble_eq.mpr (by omega)⟩
theorem zr_ge {x c : Int32} {a b k : Int} (h : zr a b x) (hc : c.toInt = k) (q : c ≤ x) : zr k b x := ⟨by have := Int32.le_iff_toInt_le.mp q; omega, h.2⟩
theorem zr_nge {x c : Int32} {a b k m : Int} (h : zr a b x) (hc : c.toInt = k) (q : ¬ c ≤ x) (hm : k - 1 = m) : zr a m x := ⟨h.1, by have := Int32.lt_iff_toInt_lt.mp (z_nle q); omega⟩
theorem zsl_off {k j k1 j1 : Nat} {v : Int64} (h : ¬ (k1 = k ∧ j1 = j)) : (zsl σ k j v).2 k1 j1 = σ.2 k1 j1 := by
  show (bif Nat.beq k1 k then vp_updL (σ.2 k1) j v else σ.2 k1) j1 = _
  cases q : Nat.beq k1 k with
  | false => rfl
  | true =>
    show (if j1 = j then v else σ.2 k1 j1) = _
    rw [if_neg (fun r => h ⟨Nat.eq_of_beq_eq_true q, r⟩)]
theorem zQ.wl (h : zQ R A S B σ0 σ) {k j : Nat} {v : Int64} (c : zcv S B k j = true) : zQ R A S B σ0 (zsl σ k j v) := by
  refine ⟨h.1, fun i l q => ?_⟩
  rw [zsl_off (fun r => by rw [r.1, r.2, c] at q; exact absurd q (by decide))]
  exact h.2 i l q
end ZQ
theorem fd_fX9_height {σ0 : zSt} {σ : zSt} (h : (zQ [25, 27, 28, 29, 3] [(23, 15, 15)] [] []) σ0 σ) : zpc (fX9_height σ) (fun r => (zQ [25, 27, 28, 29, 3] [(23, 15, 15)] [] []) σ0 (r.1)) := by
  unfold fX9_height
  exact zpc_ck (zpc_if (fun _ => zpc_ck (zpc_if (fun _ => zpc_some h) (fun _ => zpc_if (fun _ => zpc_some h) (fun _ => zpc_some h)))) (fun _ => zpc_some h))
theorem fd_fX9_held_20 {σ0 : zSt} {σ : zSt} {s0 : Int32} (h : (zQ [25, 27, 28, 29, 3] [(23, 15, 15)] [] []) σ0 σ) : zpc (fX9_held_20 σ s0) (fun r => (zQ [25, 27, 28, 29, 3] [(23, 15, 15)] [] []) σ0 (r.1)) := by
  unfold fX9_held_20
  exact zpc_some h
theorem fd_fX9_held_19 {σ0 : zSt} {σ : zSt} (h : (zQ [25, 27, 28, 29, 3] [(23, 15, 15)] [] []) σ0 σ) : zpc (fX9_held_19 σ) (fun r => (zQ [25, 27, 28, 29, 3] [(23, 15, 15)] [] []) σ0 (r.1)) := by
  unfold fX9_held_19
  exact fd_fX9_held_20 h
theorem fd_fX9_held {σ0 : zSt} {σ : zSt} {x1 : Int32} (h : (zQ [25, 27, 28, 29, 3] [(23, 15, 15)] [] []) σ0 σ) : zpc (fX9_held σ x1) (fun r => (zQ [25, 27, 28, 29, 3] [(23, 15, 15)] [] []) σ0 (r.1)) := by
  unfold fX9_held
  exact zpc_if (fun _ => fd_fX9_held_19 h) (fun _ => zpc_if (fun _ => fd_fX9_held_19 h) (fun _ => zpc_ck (fd_fX9_held_20 h)))
theorem fd_fX9_mode_57 {σ0 : zSt} {σ : zSt} {s0 : Int32} (h : (zQ [25, 27, 28, 29, 3] [(23, 15, 15)] [] []) σ0 σ) : zpc (fX9_mode_57 σ s0) (fun r => (zQ [25, 27, 28, 29, 3] [(23, 15, 15)] [] []) σ0 (r.1)) := by
  unfold fX9_mode_57
  exact zpc_some h
theorem fd_fX9_mode {σ0 : zSt} {σ : zSt} (h : (zQ [25, 27, 28, 29, 3] [(23, 15, 15)] [] []) σ0 σ) : zpc (fX9_mode σ) (fun r => (zQ [25, 27, 28, 29, 3] [(23, 15, 15)] [] []) σ0 (r.1)) := by
  unfold fX9_mode
  exact zpc_ck (zpc_if (fun _ => zpc_ck (zpc_if (fun _ => zpc_ck (zpc_if (fun _ => zpc_ck (zpc_if (fun _ => fd_fX9_mode_57 h) (fun _ => fd_fX9_mode_57 h))) (fun _ => zpc_some h))) (fun _ => zpc_some h))) (fun _ => zpc_some h))
theorem fd_fJ7_fill_53178_k27_5_body {σ0 : zSt} {k5 : zSt → Int32 → Int32 → Int32 → Option (zSt)} (hk5 : ∀ (y0 : zSt) (y1 : Int32) (y2 : Int32) (y3 : Int32), (zQ [25, 27, 28, 29, 3] [(23, 15, 15)] [] []) σ0 y0 → zpc (k5 y0 y1 y2 y3) (fun r => (zQ [25, 27, 28, 29, 3] [(23, 15, 15)] [] []) σ0 (r))) {σ : zSt} {x1 : Int32} {x2 : Int32} {x3 : Int32} (h : (zQ [25, 27, 28, 29, 3] [(23, 15, 15)] [] []) σ0 σ) : zpc (fJ7_fill_53178_k27_5_body k5 σ x1 x2 x3) (fun r => (zQ [25, 27, 28, 29, 3] [(23, 15, 15)] [] []) σ0 (r)) := by
  unfold fJ7_fill_53178_k27_5_body
  exact zpc_if (fun _ => zpc_some h) (fun _ => zpc_ck (zpc_bs (zQ.wi h rfl) (fun σ1 hσ1 => zpc_bv (fun v2 _ => hk5 _ _ _ _ hσ1))))
theorem fd_fJ7_fill_53178_k27_5 {σ0 : zSt} : ∀ (n : Nat) (y0 : zSt) (y1 : Int32) (y2 : Int32) (y3 : Int32), (zQ [25, 27, 28, 29, 3] [(23, 15, 15)] [] []) σ0 y0 → zpc (fJ7_fill_53178_k27_5 n y0 y1 y2 y3) (fun r => (zQ [25, 27, 28, 29, 3] [(23, 15, 15)] [] []) σ0 (r)) := by
  intro n
  induction n with
  | zero => intro y0 y1 y2 y3 h; exact zpc_none
  | succ n ih => intro y0 y1 y2 y3 h; exact fd_fJ7_fill_53178_k27_5_body ih h
theorem fd_fJ7_fill_53178_k27 {σ0 : zSt} {σ : zSt} {x1 : Int32} (h : (zQ [25, 27, 28, 29, 3] [(23, 15, 15)] [] []) σ0 σ) : zpc (fJ7_fill_53178_k27 σ x1) (fun r => (zQ [25, 27, 28, 29, 3] [(23, 15, 15)] [] []) σ0 (r)) := by
  unfold fJ7_fill_53178_k27
  exact fd_fJ7_fill_53178_k27_5 _ _ _ _ _ h
theorem fd_fX3_mixColours_130 {σ0 : zSt} {k2 : zSt → Int32 → Int32 → Option (zSt)} (hk2 : ∀ (y0 : zSt) (y1 : Int32) (y2 : Int32), (zQ [25, 27, 28, 29, 3] [(23, 15, 15)] [] []) σ0 y0 → zpc (k2 y0 y1 y2) (fun r => (zQ [25, 27, 28, 29, 3] [(23, 15, 15)] [] []) σ0 (r))) {σ : zSt} {x1 : Int32} {x2 : Int32} (h : (zQ [25, 27, 28, 29, 3] [(23, 15, 15)] [] []) σ0 σ) : zpc (fX3_mixColours_130 k2 σ x1 x2) (fun r => (zQ [25, 27, 28, 29, 3] [(23, 15, 15)] [] []) σ0 (r)) := by
  unfold fX3_mixColours_130
  exact zpc_bv (fun v1 _ => hk2 _ _ _ h)
theorem fd_fX3_mixColours_78 {σ0 : zSt} {k2 : zSt → Int32 → Int32 → Option (zSt)} (hk2 : ∀ (y0 : zSt) (y1 : Int32) (y2 : Int32), (zQ [25, 27, 28, 29, 3] [(23, 15, 15)] [] []) σ0 y0 → zpc (k2 y0 y1 y2) (fun r => (zQ [25, 27, 28, 29, 3] [(23, 15, 15)] [] []) σ0 (r))) {σ : zSt} {x1 : Int32} {x2 : Int32} {s0 : Int32} {s1 : Int32} (h : (zQ [25, 27, 28, 29, 3] [(23, 15, 15)] [] []) σ0 σ) : zpc (fX3_mixColours_78 k2 σ x1 x2 s0 s1) (fun r => (zQ [25, 27, 28, 29, 3] [(23, 15, 15)] [] []) σ0 (r)) := by
  unfold fX3_mixColours_78
  exact zpc_ck (zpc_bs (zQ.wi h rfl) (fun σ2 hσ2 => fd_fX3_mixColours_130 hk2 hσ2))
theorem fd_fX3_mixColours_129 {σ0 : zSt} {k2 : zSt → Int32 → Int32 → Option (zSt)} (hk2 : ∀ (y0 : zSt) (y1 : Int32) (y2 : Int32), (zQ [25, 27, 28, 29, 3] [(23, 15, 15)] [] []) σ0 y0 → zpc (k2 y0 y1 y2) (fun r => (zQ [25, 27, 28, 29, 3] [(23, 15, 15)] [] []) σ0 (r))) {σ : zSt} {x1 : Int32} {x2 : Int32} {s0 : Int32} {s1 : Int32} (h : (zQ [25, 27, 28, 29, 3] [(23, 15, 15)] [] []) σ0 σ) : zpc (fX3_mixColours_129 k2 σ x1 x2 s0 s1) (fun r => (zQ [25, 27, 28, 29, 3] [(23, 15, 15)] [] []) σ0 (r)) := by
  unfold fX3_mixColours_129
  exact zpc_ck (zpc_bs (zQ.wi h rfl) (fun σ3 hσ3 => fd_fX3_mixColours_130 hk2 hσ3))
theorem fd_fX3_mixColours_2_body {σ0 : zSt} {k2 : zSt → Int32 → Int32 → Option (zSt)} (hk2 : ∀ (y0 : zSt) (y1 : Int32) (y2 : Int32), (zQ [25, 27, 28, 29, 3] [(23, 15, 15)] [] []) σ0 y0 → zpc (k2 y0 y1 y2) (fun r => (zQ [25, 27, 28, 29, 3] [(23, 15, 15)] [] []) σ0 (r))) {σ : zSt} {x1 : Int32} {x2 : Int32} (h : (zQ [25, 27, 28, 29, 3] [(23, 15, 15)] [] []) σ0 σ) : zpc (fX3_mixColours_2_body k2 σ x1 x2) (fun r => (zQ [25, 27, 28, 29, 3] [(23, 15, 15)] [] []) σ0 (r)) := by
  unfold fX3_mixColours_2_body
  exact zpc_if (fun _ => zpc_some h) (fun _ => zpc_if (fun _ => zpc_if (fun _ => zpc_bi (fd_fX9_held h) (fun σ5 v6 hσ5 => fd_fX3_mixColours_78 hk2 hσ5)) (fun _ => zpc_bi (fd_fX9_held h) (fun σ7 v8 hσ7 => zpc_bi (fd_fX9_held hσ7) (fun σ9 v10 hσ9 => fd_fX3_mixColours_78 hk2 hσ9)))) (fun _ => zpc_ck (zpc_bv (fun v4 _ => zpc_if (fun _ => fd_fX3_mixColours_129 hk2 h) (fun _ => fd_fX3_mixColours_129 hk2 h)))))
theorem fd_fX3_mixColours_2 {σ0 : zSt} : ∀ (n : Nat) (y0 : zSt) (y1 : Int32) (y2 : Int32), (zQ [25, 27, 28, 29, 3] [(23, 15, 15)] [] []) σ0 y0 → zpc (fX3_mixColours_2 n y0 y1 y2) (fun r => (zQ [25, 27, 28, 29, 3] [(23, 15, 15)] [] []) σ0 (r)) := by
  intro n
  induction n with
  | zero => intro y0 y1 y2 h; exact zpc_none
  | succ n ih => intro y0 y1 y2 h; exact fd_fX3_mixColours_2_body ih h
theorem fd_fX3_mixColours {σ0 : zSt} {σ : zSt} {x1 : Int32} (h : (zQ [25, 27, 28, 29, 3] [(23, 15, 15)] [] []) σ0 σ) : zpc (fX3_mixColours σ x1) (fun r => (zQ [25, 27, 28, 29, 3] [(23, 15, 15)] [] []) σ0 (r)) := by
  unfold fX3_mixColours
  exact fd_fX3_mixColours_2 _ _ _ _ h
theorem fd_fX9_vramByte {σ0 : zSt} {σ : zSt} {x1 : Int32} (h : (zQ [25, 27, 28, 29, 3] [(23, 15, 15)] [] []) σ0 σ) : zpc (fX9_vramByte σ x1) (fun r => (zQ [25, 27, 28, 29, 3] [(23, 15, 15)] [] []) σ0 (r.1)) := by
  unfold fX9_vramByte
  exact zpc_ck (zpc_some h)
theorem fd_fX3_takePlanes {σ0 : zSt} {σ : zSt} {x1 : Int32} (h : (zQ [25, 27, 28, 29, 3] [(23, 15, 15)] [] []) σ0 σ) : zpc (fX3_takePlanes σ x1) (fun r => (zQ [25, 27, 28, 29, 3] [(23, 15, 15)] [] []) σ0 (r)) := by
  unfold fX3_takePlanes
  exact zpc_bi (fd_fX9_vramByte h) (fun σ1 v2 hσ1 => zpc_bi (fd_fX9_vramByte hσ1) (fun σ3 v4 hσ3 => zpc_bi (fd_fX9_vramByte hσ3) (fun σ5 v6 hσ5 => zpc_bi (fd_fX9_vramByte hσ5) (fun σ7 v8 hσ7 => zpc_bs (zQ.wi hσ7 rfl) (fun σ9 hσ9 => zpc_some hσ9)))))
theorem fd_fX3_takeTile_60 {σ0 : zSt} {σ : zSt} {s0 : Int32} (h : (zQ [25, 27, 28, 29, 3] [(23, 15, 15)] [] []) σ0 σ) : zpc (fX3_takeTile_60 σ s0) (fun r => (zQ [25, 27, 28, 29, 3] [(23, 15, 15)] [] []) σ0 (r)) := by
  unfold fX3_takeTile_60
  exact zpc_bu (fd_fX3_takePlanes h) (fun σ1 hσ1 => zpc_some hσ1)
theorem fd_fX3_takeTile {σ0 : zSt} {σ : zSt} {x1 : Int32} {x2 : Int32} (h : (zQ [25, 27, 28, 29, 3] [(23, 15, 15)] [] []) σ0 σ) : zpc (fX3_takeTile σ x1 x2) (fun r => (zQ [25, 27, 28, 29, 3] [(23, 15, 15)] [] []) σ0 (r)) := by
  unfold fX3_takeTile
  exact zpc_bv (fun v2 _ => zpc_bi (fd_fX9_vramByte h) (fun σ3 v4 hσ3 => zpc_bi (fd_fX9_vramByte hσ3) (fun σ5 v6 hσ5 => zpc_bs (zQ.wi hσ5 rfl) (fun σ7 hσ7 => zpc_if (fun _ => fd_fX3_takeTile_60 hσ7) (fun _ => fd_fX3_takeTile_60 hσ7)))))
theorem fd_fX3_numberIn {σ0 : zSt} {σ : zSt} {x0 : Int32} {x1 : Int32} (h : (zQ [25, 27, 28, 29, 3] [(23, 15, 15)] [] []) σ0 σ) : zpc (fX3_numberIn σ x0 x1) (fun r => (zQ [25, 27, 28, 29, 3] [(23, 15, 15)] [] []) σ0 (r.1)) := by
  unfold fX3_numberIn
  exact zpc_bv (fun v1 _ => zpc_some h)
theorem fd_fX3_drawTiles_316 {σ0 : zSt} {k143 : zSt → Int32 → Int32 → Int32 → Int32 → Int32 → Int32 → Option (zSt)} (hk143 : ∀ (y0 : zSt) (y1 : Int32) (y2 : Int32) (y3 : Int32) (y4 : Int32) (y5 : Int32) (y6 : Int32), (zQ [25, 27, 28, 29, 3] [(23, 15, 15)] [] []) σ0 y0 → zpc (k143 y0 y1 y2 y3 y4 y5 y6) (fun r => (zQ [25, 27, 28, 29, 3] [(23, 15, 15)] [] []) σ0 (r))) {σ : zSt} {x1 : Int32} {x5 : Int32} {x6 : Int32} {x7 : Int32} {x8 : Int32} {x9 : Int32} {s0 : Int32} {s1 : Int32} {s2 : Int32} (h : (zQ [25, 27, 28, 29, 3] [(23, 15, 15)] [] []) σ0 σ) : zpc (fX3_drawTiles_316 k143 σ x1 x5 x6 x7 x8 x9 s0 s1 s2) (fun r => (zQ [25, 27, 28, 29, 3] [(23, 15, 15)] [] []) σ0 (r)) := by
  unfold fX3_drawTiles_316
  exact zpc_ck (zpc_bs (zQ.wi h rfl) (fun σ1 hσ1 => zpc_bv (fun v2 _ => hk143 _ _ _ _ _ _ _ hσ1)))
theorem fd_fX3_drawTiles_303 {σ0 : zSt} {k143 : zSt → Int32 → Int32 → Int32 → Int32 → Int32 → Int32 → Option (zSt)} (hk143 : ∀ (y0 : zSt) (y1 : Int32) (y2 : Int32) (y3 : Int32) (y4 : Int32) (y5 : Int32) (y6 : Int32), (zQ [25, 27, 28, 29, 3] [(23, 15, 15)] [] []) σ0 y0 → zpc (k143 y0 y1 y2 y3 y4 y5 y6) (fun r => (zQ [25, 27, 28, 29, 3] [(23, 15, 15)] [] []) σ0 (r))) {σ : zSt} {x1 : Int32} {x5 : Int32} {x6 : Int32} {x7 : Int32} {x8 : Int32} {x9 : Int32} {x13 : Int32} {s0 : Int32} {s1 : Int32} {s2 : Int32} (h : (zQ [25, 27, 28, 29, 3] [(23, 15, 15)] [] []) σ0 σ) : zpc (fX3_drawTiles_303 k143 σ x1 x5 x6 x7 x8 x9 x13 s0 s1 s2) (fun r => (zQ [25, 27, 28, 29, 3] [(23, 15, 15)] [] []) σ0 (r)) := by
  unfold fX3_drawTiles_303
  exact zpc_if (fun _ => fd_fX3_drawTiles_316 hk143 h) (fun _ => fd_fX3_drawTiles_316 hk143 h)
theorem fd_fX3_drawTiles_276 {σ0 : zSt} {k143 : zSt → Int32 → Int32 → Int32 → Int32 → Int32 → Int32 → Option (zSt)} (hk143 : ∀ (y0 : zSt) (y1 : Int32) (y2 : Int32) (y3 : Int32) (y4 : Int32) (y5 : Int32) (y6 : Int32), (zQ [25, 27, 28, 29, 3] [(23, 15, 15)] [] []) σ0 y0 → zpc (k143 y0 y1 y2 y3 y4 y5 y6) (fun r => (zQ [25, 27, 28, 29, 3] [(23, 15, 15)] [] []) σ0 (r))) {σ : zSt} {x1 : Int32} {x5 : Int32} {x6 : Int32} {x7 : Int32} {x8 : Int32} {x9 : Int32} {x12 : Int32} {s0 : Int32} (h : (zQ [25, 27, 28, 29, 3] [(23, 15, 15)] [] []) σ0 σ) : zpc (fX3_drawTiles_276 k143 σ x1 x5 x6 x7 x8 x9 x12 s0) (fun r => (zQ [25, 27, 28, 29, 3] [(23, 15, 15)] [] []) σ0 (r)) := by
  unfold fX3_drawTiles_276
  exact zpc_if (fun _ => fd_fX3_drawTiles_303 hk143 h) (fun _ => fd_fX3_drawTiles_303 hk143 h)
theorem fd_fX3_drawTiles_275 {σ0 : zSt} {k143 : zSt → Int32 → Int32 → Int32 → Int32 → Int32 → Int32 → Option (zSt)} (hk143 : ∀ (y0 : zSt) (y1 : Int32) (y2 : Int32) (y3 : Int32) (y4 : Int32) (y5 : Int32) (y6 : Int32), (zQ [25, 27, 28, 29, 3] [(23, 15, 15)] [] []) σ0 y0 → zpc (k143 y0 y1 y2 y3 y4 y5 y6) (fun r => (zQ [25, 27, 28, 29, 3] [(23, 15, 15)] [] []) σ0 (r))) {σ : zSt} {x1 : Int32} {x5 : Int32} {x6 : Int32} {x7 : Int32} {x8 : Int32} {x9 : Int32} {x12 : Int32} (h : (zQ [25, 27, 28, 29, 3] [(23, 15, 15)] [] []) σ0 σ) : zpc (fX3_drawTiles_275 k143 σ x1 x5 x6 x7 x8 x9 x12) (fun r => (zQ [25, 27, 28, 29, 3] [(23, 15, 15)] [] []) σ0 (r)) := by
  unfold fX3_drawTiles_275
  exact fd_fX3_drawTiles_276 hk143 h
theorem fd_fX3_drawTiles_242 {σ0 : zSt} {k143 : zSt → Int32 → Int32 → Int32 → Int32 → Int32 → Int32 → Option (zSt)} (hk143 : ∀ (y0 : zSt) (y1 : Int32) (y2 : Int32) (y3 : Int32) (y4 : Int32) (y5 : Int32) (y6 : Int32), (zQ [25, 27, 28, 29, 3] [(23, 15, 15)] [] []) σ0 y0 → zpc (k143 y0 y1 y2 y3 y4 y5 y6) (fun r => (zQ [25, 27, 28, 29, 3] [(23, 15, 15)] [] []) σ0 (r))) {σ : zSt} {x1 : Int32} {x5 : Int32} {x6 : Int32} {x7 : Int32} {x8 : Int32} {x9 : Int32} {s0 : Int32} (h : (zQ [25, 27, 28, 29, 3] [(23, 15, 15)] [] []) σ0 σ) : zpc (fX3_drawTiles_242 k143 σ x1 x5 x6 x7 x8 x9 s0) (fun r => (zQ [25, 27, 28, 29, 3] [(23, 15, 15)] [] []) σ0 (r)) := by
  unfold fX3_drawTiles_242
  exact zpc_bi (fd_fX3_numberIn h) (fun σ3 v4 hσ3 => zpc_if (fun _ => fd_fX3_drawTiles_275 hk143 hσ3) (fun _ => zpc_if (fun _ => fd_fX3_drawTiles_275 hk143 hσ3) (fun _ => fd_fX3_drawTiles_276 hk143 hσ3)))
theorem fd_fX3_drawTiles_215 {σ0 : zSt} {k143 : zSt → Int32 → Int32 → Int32 → Int32 → Int32 → Int32 → Option (zSt)} (hk143 : ∀ (y0 : zSt) (y1 : Int32) (y2 : Int32) (y3 : Int32) (y4 : Int32) (y5 : Int32) (y6 : Int32), (zQ [25, 27, 28, 29, 3] [(23, 15, 15)] [] []) σ0 y0 → zpc (k143 y0 y1 y2 y3 y4 y5 y6) (fun r => (zQ [25, 27, 28, 29, 3] [(23, 15, 15)] [] []) σ0 (r))) {σ : zSt} {x1 : Int32} {x5 : Int32} {x6 : Int32} {x7 : Int32} {x8 : Int32} {x9 : Int32} {x10 : Int32} (h : (zQ [25, 27, 28, 29, 3] [(23, 15, 15)] [] []) σ0 σ) : zpc (fX3_drawTiles_215 k143 σ x1 x5 x6 x7 x8 x9 x10) (fun r => (zQ [25, 27, 28, 29, 3] [(23, 15, 15)] [] []) σ0 (r)) := by
  unfold fX3_drawTiles_215
  exact zpc_if (fun _ => fd_fX3_drawTiles_242 hk143 h) (fun _ => fd_fX3_drawTiles_242 hk143 h)
theorem fd_fX3_drawTiles_212 {σ0 : zSt} {k143 : zSt → Int32 → Int32 → Int32 → Int32 → Int32 → Int32 → Option (zSt)} (hk143 : ∀ (y0 : zSt) (y1 : Int32) (y2 : Int32) (y3 : Int32) (y4 : Int32) (y5 : Int32) (y6 : Int32), (zQ [25, 27, 28, 29, 3] [(23, 15, 15)] [] []) σ0 y0 → zpc (k143 y0 y1 y2 y3 y4 y5 y6) (fun r => (zQ [25, 27, 28, 29, 3] [(23, 15, 15)] [] []) σ0 (r))) {σ : zSt} {x1 : Int32} {x5 : Int32} {x6 : Int32} {x7 : Int32} {x8 : Int32} {x9 : Int32} {x10 : Int32} {s0 : Int32} {s1 : Int32} (h : (zQ [25, 27, 28, 29, 3] [(23, 15, 15)] [] []) σ0 σ) : zpc (fX3_drawTiles_212 k143 σ x1 x5 x6 x7 x8 x9 x10 s0 s1) (fun r => (zQ [25, 27, 28, 29, 3] [(23, 15, 15)] [] []) σ0 (r)) := by
  unfold fX3_drawTiles_212
  exact zpc_bu (fd_fX3_takeTile h) (fun σ5 hσ5 => fd_fX3_drawTiles_215 hk143 hσ5)
theorem fd_fX3_drawTiles_210 {σ0 : zSt} {k143 : zSt → Int32 → Int32 → Int32 → Int32 → Int32 → Int32 → Option (zSt)} (hk143 : ∀ (y0 : zSt) (y1 : Int32) (y2 : Int32) (y3 : Int32) (y4 : Int32) (y5 : Int32) (y6 : Int32), (zQ [25, 27, 28, 29, 3] [(23, 15, 15)] [] []) σ0 y0 → zpc (k143 y0 y1 y2 y3 y4 y5 y6) (fun r => (zQ [25, 27, 28, 29, 3] [(23, 15, 15)] [] []) σ0 (r))) {σ : zSt} {x1 : Int32} {x5 : Int32} {x6 : Int32} {x7 : Int32} {x8 : Int32} {x9 : Int32} {x10 : Int32} {s0 : Int32} (h : (zQ [25, 27, 28, 29, 3] [(23, 15, 15)] [] []) σ0 σ) : zpc (fX3_drawTiles_210 k143 σ x1 x5 x6 x7 x8 x9 x10 s0) (fun r => (zQ [25, 27, 28, 29, 3] [(23, 15, 15)] [] []) σ0 (r)) := by
  unfold fX3_drawTiles_210
  exact fd_fX3_drawTiles_212 hk143 h
theorem fd_fX3_drawTiles_183 {σ0 : zSt} {k143 : zSt → Int32 → Int32 → Int32 → Int32 → Int32 → Int32 → Option (zSt)} (hk143 : ∀ (y0 : zSt) (y1 : Int32) (y2 : Int32) (y3 : Int32) (y4 : Int32) (y5 : Int32) (y6 : Int32), (zQ [25, 27, 28, 29, 3] [(23, 15, 15)] [] []) σ0 y0 → zpc (k143 y0 y1 y2 y3 y4 y5 y6) (fun r => (zQ [25, 27, 28, 29, 3] [(23, 15, 15)] [] []) σ0 (r))) {σ : zSt} {x1 : Int32} {x5 : Int32} {x6 : Int32} {x7 : Int32} {x8 : Int32} {x9 : Int32} {x10 : Int32} (h : (zQ [25, 27, 28, 29, 3] [(23, 15, 15)] [] []) σ0 σ) : zpc (fX3_drawTiles_183 k143 σ x1 x5 x6 x7 x8 x9 x10) (fun r => (zQ [25, 27, 28, 29, 3] [(23, 15, 15)] [] []) σ0 (r)) := by
  unfold fX3_drawTiles_183
  exact zpc_if (fun _ => fd_fX3_drawTiles_210 hk143 h) (fun _ => zpc_if (fun _ => fd_fX3_drawTiles_210 hk143 h) (fun _ => fd_fX3_drawTiles_212 hk143 h))
theorem fd_fX3_drawTiles_143_body {σ0 : zSt} {k143 : zSt → Int32 → Int32 → Int32 → Int32 → Int32 → Int32 → Option (zSt)} (hk143 : ∀ (y0 : zSt) (y1 : Int32) (y2 : Int32) (y3 : Int32) (y4 : Int32) (y5 : Int32) (y6 : Int32), (zQ [25, 27, 28, 29, 3] [(23, 15, 15)] [] []) σ0 y0 → zpc (k143 y0 y1 y2 y3 y4 y5 y6) (fun r => (zQ [25, 27, 28, 29, 3] [(23, 15, 15)] [] []) σ0 (r))) {σ : zSt} {x1 : Int32} {x5 : Int32} {x6 : Int32} {x7 : Int32} {x8 : Int32} {x9 : Int32} (h : (zQ [25, 27, 28, 29, 3] [(23, 15, 15)] [] []) σ0 σ) : zpc (fX3_drawTiles_143_body k143 σ x1 x5 x6 x7 x8 x9) (fun r => (zQ [25, 27, 28, 29, 3] [(23, 15, 15)] [] []) σ0 (r)) := by
  unfold fX3_drawTiles_143_body
  exact zpc_if (fun _ => zpc_some h) (fun _ => zpc_bv (fun v6 _ => zpc_if (fun _ => fd_fX3_drawTiles_183 hk143 h) (fun _ => zpc_if (fun _ => fd_fX3_drawTiles_183 hk143 h) (fun _ => zpc_if (fun _ => fd_fX3_drawTiles_183 hk143 h) (fun _ => fd_fX3_drawTiles_215 hk143 h)))))
theorem fd_fX3_drawTiles_143 {σ0 : zSt} : ∀ (n : Nat) (y0 : zSt) (y1 : Int32) (y2 : Int32) (y3 : Int32) (y4 : Int32) (y5 : Int32) (y6 : Int32), (zQ [25, 27, 28, 29, 3] [(23, 15, 15)] [] []) σ0 y0 → zpc (fX3_drawTiles_143 n y0 y1 y2 y3 y4 y5 y6) (fun r => (zQ [25, 27, 28, 29, 3] [(23, 15, 15)] [] []) σ0 (r)) := by
  intro n
  induction n with
  | zero => intro y0 y1 y2 y3 y4 y5 y6 h; exact zpc_none
  | succ n ih => intro y0 y1 y2 y3 y4 y5 y6 h; exact fd_fX3_drawTiles_143_body ih h
theorem fd_fX3_drawTiles_138 {σ0 : zSt} {σ : zSt} {x1 : Int32} {x5 : Int32} {x6 : Int32} {x7 : Int32} {s0 : Int32} (h : (zQ [25, 27, 28, 29, 3] [(23, 15, 15)] [] []) σ0 σ) : zpc (fX3_drawTiles_138 σ x1 x5 x6 x7 s0) (fun r => (zQ [25, 27, 28, 29, 3] [(23, 15, 15)] [] []) σ0 (r)) := by
  unfold fX3_drawTiles_138
  exact fd_fX3_drawTiles_143 _ _ _ _ _ _ _ _ h
theorem fd_fX3_drawTiles_122 {σ0 : zSt} {σ : zSt} {x1 : Int32} {x3 : Int32} {x5 : Int32} {x6 : Int32} {s0 : Int32} {s1 : Int32} (h : (zQ [25, 27, 28, 29, 3] [(23, 15, 15)] [] []) σ0 σ) : zpc (fX3_drawTiles_122 σ x1 x3 x5 x6 s0 s1) (fun r => (zQ [25, 27, 28, 29, 3] [(23, 15, 15)] [] []) σ0 (r)) := by
  unfold fX3_drawTiles_122
  exact zpc_ck (zpc_bv (fun v7 _ => zpc_if (fun _ => fd_fX3_drawTiles_138 h) (fun _ => fd_fX3_drawTiles_138 h)))
theorem fd_fX3_drawTiles_96 {σ0 : zSt} {σ : zSt} {x1 : Int32} {x2 : Int32} {x3 : Int32} {x5 : Int32} {s0 : Int32} (h : (zQ [25, 27, 28, 29, 3] [(23, 15, 15)] [] []) σ0 σ) : zpc (fX3_drawTiles_96 σ x1 x2 x3 x5 s0) (fun r => (zQ [25, 27, 28, 29, 3] [(23, 15, 15)] [] []) σ0 (r)) := by
  unfold fX3_drawTiles_96
  exact zpc_bi (fd_fX9_held h) (fun σ8 v9 hσ8 => zpc_if (fun _ => fd_fX3_drawTiles_122 hσ8) (fun _ => fd_fX3_drawTiles_122 hσ8))
theorem fd_fX3_drawTiles_87 {σ0 : zSt} {σ : zSt} {x1 : Int32} {x2 : Int32} {x3 : Int32} {x5 : Int32} (h : (zQ [25, 27, 28, 29, 3] [(23, 15, 15)] [] []) σ0 σ) : zpc (fX3_drawTiles_87 σ x1 x2 x3 x5) (fun r => (zQ [25, 27, 28, 29, 3] [(23, 15, 15)] [] []) σ0 (r)) := by
  unfold fX3_drawTiles_87
  exact zpc_bi (fd_fX9_held h) (fun σ10 v11 hσ10 => fd_fX3_drawTiles_96 hσ10)
theorem fd_fX3_drawTiles_68 {σ0 : zSt} {σ : zSt} {x1 : Int32} {x2 : Int32} {x3 : Int32} {s0 : Int32} (h : (zQ [25, 27, 28, 29, 3] [(23, 15, 15)] [] []) σ0 σ) : zpc (fX3_drawTiles_68 σ x1 x2 x3 s0) (fun r => (zQ [25, 27, 28, 29, 3] [(23, 15, 15)] [] []) σ0 (r)) := by
  unfold fX3_drawTiles_68
  exact zpc_if (fun _ => fd_fX3_drawTiles_87 h) (fun _ => zpc_if (fun _ => fd_fX3_drawTiles_87 h) (fun _ => fd_fX3_drawTiles_96 h))
theorem fd_fX3_drawTiles_18 {σ0 : zSt} {σ : zSt} {x1 : Int32} {s0 : Int32} (h : (zQ [25, 27, 28, 29, 3] [(23, 15, 15)] [] []) σ0 σ) : zpc (fX3_drawTiles_18 σ x1 s0) (fun r => (zQ [25, 27, 28, 29, 3] [(23, 15, 15)] [] []) σ0 (r)) := by
  unfold fX3_drawTiles_18
  exact zpc_bi (fd_fX9_held h) (fun σ12 v13 hσ12 => zpc_bi (fd_fX9_held hσ12) (fun σ14 v15 hσ14 => zpc_if (fun _ => fd_fX3_drawTiles_68 hσ14) (fun _ => fd_fX3_drawTiles_68 hσ14)))
theorem fd_fX3_drawTiles {σ0 : zSt} {σ : zSt} {x1 : Int32} (h : (zQ [25, 27, 28, 29, 3] [(23, 15, 15)] [] []) σ0 σ) : zpc (fX3_drawTiles σ x1) (fun r => (zQ [25, 27, 28, 29, 3] [(23, 15, 15)] [] []) σ0 (r)) := by
  unfold fX3_drawTiles
  exact zpc_bi (fd_fX9_height h) (fun σ16 v17 hσ16 => zpc_if (fun _ => fd_fX3_drawTiles_18 hσ16) (fun _ => fd_fX3_drawTiles_18 hσ16))
theorem fd_fJ7_fill_53178_k28_5_body {σ0 : zSt} {k5 : zSt → Int32 → Int32 → Int32 → Option (zSt)} (hk5 : ∀ (y0 : zSt) (y1 : Int32) (y2 : Int32) (y3 : Int32), (zQ [25, 27, 28, 29, 3] [(23, 15, 15)] [] []) σ0 y0 → zpc (k5 y0 y1 y2 y3) (fun r => (zQ [25, 27, 28, 29, 3] [(23, 15, 15)] [] []) σ0 (r))) {σ : zSt} {x1 : Int32} {x2 : Int32} {x3 : Int32} (h : (zQ [25, 27, 28, 29, 3] [(23, 15, 15)] [] []) σ0 σ) : zpc (fJ7_fill_53178_k28_5_body k5 σ x1 x2 x3) (fun r => (zQ [25, 27, 28, 29, 3] [(23, 15, 15)] [] []) σ0 (r)) := by
  unfold fJ7_fill_53178_k28_5_body
  exact zpc_if (fun _ => zpc_some h) (fun _ => zpc_ck (zpc_bs (zQ.wi h rfl) (fun σ1 hσ1 => zpc_bv (fun v2 _ => hk5 _ _ _ _ hσ1))))
theorem fd_fJ7_fill_53178_k28_5 {σ0 : zSt} : ∀ (n : Nat) (y0 : zSt) (y1 : Int32) (y2 : Int32) (y3 : Int32), (zQ [25, 27, 28, 29, 3] [(23, 15, 15)] [] []) σ0 y0 → zpc (fJ7_fill_53178_k28_5 n y0 y1 y2 y3) (fun r => (zQ [25, 27, 28, 29, 3] [(23, 15, 15)] [] []) σ0 (r)) := by
  intro n
  induction n with
  | zero => intro y0 y1 y2 y3 h; exact zpc_none
  | succ n ih => intro y0 y1 y2 y3 h; exact fd_fJ7_fill_53178_k28_5_body ih h
theorem fd_fJ7_fill_53178_k28 {σ0 : zSt} {σ : zSt} {x1 : Int32} (h : (zQ [25, 27, 28, 29, 3] [(23, 15, 15)] [] []) σ0 σ) : zpc (fJ7_fill_53178_k28 σ x1) (fun r => (zQ [25, 27, 28, 29, 3] [(23, 15, 15)] [] []) σ0 (r)) := by
  unfold fJ7_fill_53178_k28
  exact fd_fJ7_fill_53178_k28_5 _ _ _ _ _ h
theorem fd_fX3_rowOfSprite_56 {σ0 : zSt} {σ : zSt} {s0 : Int32} (h : (zQ [25, 27, 28, 29, 3] [(23, 15, 15)] [] []) σ0 σ) : zpc (fX3_rowOfSprite_56 σ s0) (fun r => (zQ [25, 27, 28, 29, 3] [(23, 15, 15)] [] []) σ0 (r.1)) := by
  unfold fX3_rowOfSprite_56
  exact zpc_some h
theorem fd_fX3_rowOfSprite_47 {σ0 : zSt} {σ : zSt} {x4 : Int32} {s0 : Int32} {s1 : Int32} (h : (zQ [25, 27, 28, 29, 3] [(23, 15, 15)] [] []) σ0 σ) : zpc (fX3_rowOfSprite_47 σ x4 s0 s1) (fun r => (zQ [25, 27, 28, 29, 3] [(23, 15, 15)] [] []) σ0 (r.1)) := by
  unfold fX3_rowOfSprite_47
  exact zpc_if (fun _ => fd_fX3_rowOfSprite_56 h) (fun _ => fd_fX3_rowOfSprite_56 h)
theorem fd_fX3_rowOfSprite_32 {σ0 : zSt} {σ : zSt} {x3 : Int32} {x4 : Int32} (h : (zQ [25, 27, 28, 29, 3] [(23, 15, 15)] [] []) σ0 σ) : zpc (fX3_rowOfSprite_32 σ x3 x4) (fun r => (zQ [25, 27, 28, 29, 3] [(23, 15, 15)] [] []) σ0 (r.1)) := by
  unfold fX3_rowOfSprite_32
  exact zpc_if (fun _ => fd_fX3_rowOfSprite_47 h) (fun _ => fd_fX3_rowOfSprite_47 h)
theorem fd_fX3_rowOfSprite {σ0 : zSt} {σ : zSt} {x1 : Int32} {x2 : Int32} (h : (zQ [25, 27, 28, 29, 3] [(23, 15, 15)] [] []) σ0 σ) : zpc (fX3_rowOfSprite σ x1 x2) (fun r => (zQ [25, 27, 28, 29, 3] [(23, 15, 15)] [] []) σ0 (r.1)) := by
  unfold fX3_rowOfSprite
  exact zpc_bi (fd_fX9_held h) (fun σ1 v2 hσ1 => zpc_bv (fun v3 _ => zpc_if (fun _ => fd_fX3_rowOfSprite_32 hσ1) (fun _ => zpc_bv (fun v4 _ => fd_fX3_rowOfSprite_32 hσ1))))
theorem fd_fX9_mark {σ0 : zSt} {σ : zSt} {x1 : Int32} (h : (zQ [25, 27, 28, 29, 3] [(23, 15, 15)] [] []) σ0 σ) : zpc (fX9_mark σ x1) (fun r => (zQ [25, 27, 28, 29, 3] [(23, 15, 15)] [] []) σ0 (r)) := by
  unfold fX9_mark
  exact zpc_ck (zpc_ck (zpc_bs (zQ.wi h rfl) (fun σ1 hσ1 => zpc_some hσ1)))
theorem fd_fX3_drawSprite_190 {σ0 : zSt} {k111 : zSt → Int32 → Int32 → Int32 → Option (zSt)} (hk111 : ∀ (y0 : zSt) (y1 : Int32) (y2 : Int32) (y3 : Int32), (zQ [25, 27, 28, 29, 3] [(23, 15, 15)] [] []) σ0 y0 → zpc (k111 y0 y1 y2 y3) (fun r => (zQ [25, 27, 28, 29, 3] [(23, 15, 15)] [] []) σ0 (r))) {σ : zSt} {x3 : Int32} {x6 : Int32} {x7 : Int32} (h : (zQ [25, 27, 28, 29, 3] [(23, 15, 15)] [] []) σ0 σ) : zpc (fX3_drawSprite_190 k111 σ x3 x6 x7) (fun r => (zQ [25, 27, 28, 29, 3] [(23, 15, 15)] [] []) σ0 (r)) := by
  unfold fX3_drawSprite_190
  exact zpc_bv (fun v1 _ => hk111 _ _ _ _ h)
theorem fd_fX3_drawSprite_111_body {σ0 : zSt} {k111 : zSt → Int32 → Int32 → Int32 → Option (zSt)} (hk111 : ∀ (y0 : zSt) (y1 : Int32) (y2 : Int32) (y3 : Int32), (zQ [25, 27, 28, 29, 3] [(23, 15, 15)] [] []) σ0 y0 → zpc (k111 y0 y1 y2 y3) (fun r => (zQ [25, 27, 28, 29, 3] [(23, 15, 15)] [] []) σ0 (r))) {σ : zSt} {x3 : Int32} {x6 : Int32} {x7 : Int32} (h : (zQ [25, 27, 28, 29, 3] [(23, 15, 15)] [] []) σ0 σ) : zpc (fX3_drawSprite_111_body k111 σ x3 x6 x7) (fun r => (zQ [25, 27, 28, 29, 3] [(23, 15, 15)] [] []) σ0 (r)) := by
  unfold fX3_drawSprite_111_body
  exact zpc_if (fun _ => zpc_some h) (fun _ => zpc_bv (fun v2 _ => zpc_bi (fd_fX3_numberIn h) (fun σ3 v4 hσ3 => zpc_if (fun _ => fd_fX3_drawSprite_190 hk111 hσ3) (fun _ => zpc_if (fun _ => fd_fX3_drawSprite_190 hk111 hσ3) (fun _ => zpc_if (fun _ => fd_fX3_drawSprite_190 hk111 hσ3) (fun _ => zpc_ck (zpc_if (fun _ => zpc_ck (zpc_bs (zQ.wi hσ3 rfl) (fun σ5 hσ5 => fd_fX3_drawSprite_190 hk111 hσ5))) (fun _ => zpc_bu (fd_fX9_mark hσ3) (fun σ6 hσ6 => fd_fX3_drawSprite_190 hk111 hσ6)))))))))
theorem fd_fX3_drawSprite_111 {σ0 : zSt} : ∀ (n : Nat) (y0 : zSt) (y1 : Int32) (y2 : Int32) (y3 : Int32), (zQ [25, 27, 28, 29, 3] [(23, 15, 15)] [] []) σ0 y0 → zpc (fX3_drawSprite_111 n y0 y1 y2 y3) (fun r => (zQ [25, 27, 28, 29, 3] [(23, 15, 15)] [] []) σ0 (r)) := by
  intro n
  induction n with
  | zero => intro y0 y1 y2 y3 h; exact zpc_none
  | succ n ih => intro y0 y1 y2 y3 h; exact fd_fX3_drawSprite_111_body ih h
theorem fd_fX3_drawSprite_100 {σ0 : zSt} {σ : zSt} {x2 : Int32} {x3 : Int32} {x6 : Int32} {s0 : Int32} {s1 : Int32} (h : (zQ [25, 27, 28, 29, 3] [(23, 15, 15)] [] []) σ0 σ) : zpc (fX3_drawSprite_100 σ x2 x3 x6 s0 s1) (fun r => (zQ [25, 27, 28, 29, 3] [(23, 15, 15)] [] []) σ0 (r)) := by
  unfold fX3_drawSprite_100
  exact zpc_bu (fd_fX3_takePlanes h) (fun σ7 hσ7 => fd_fX3_drawSprite_111 _ _ _ _ _ hσ7)
theorem fd_fX3_drawSprite_61 {σ0 : zSt} {σ : zSt} {x2 : Int32} {x3 : Int32} {s0 : Int32} {s1 : Int32} (h : (zQ [25, 27, 28, 29, 3] [(23, 15, 15)] [] []) σ0 σ) : zpc (fX3_drawSprite_61 σ x2 x3 s0 s1) (fun r => (zQ [25, 27, 28, 29, 3] [(23, 15, 15)] [] []) σ0 (r)) := by
  unfold fX3_drawSprite_61
  exact zpc_bv (fun v8 _ => zpc_bi (fd_fX9_held h) (fun σ9 v10 hσ9 => zpc_bv (fun v11 _ => zpc_if (fun _ => fd_fX3_drawSprite_100 hσ9) (fun _ => fd_fX3_drawSprite_100 hσ9))))
theorem fd_fX3_drawSprite_28 {σ0 : zSt} {σ : zSt} {x1 : Int32} {x2 : Int32} {s0 : Int32} {s1 : Int32} (h : (zQ [25, 27, 28, 29, 3] [(23, 15, 15)] [] []) σ0 σ) : zpc (fX3_drawSprite_28 σ x1 x2 s0 s1) (fun r => (zQ [25, 27, 28, 29, 3] [(23, 15, 15)] [] []) σ0 (r)) := by
  unfold fX3_drawSprite_28
  exact zpc_bv (fun v12 _ => zpc_bi (fd_fX9_vramByte h) (fun σ13 v14 hσ13 => zpc_bi (fd_fX9_held hσ13) (fun σ15 v16 hσ15 => zpc_if (fun _ => fd_fX3_drawSprite_61 hσ15) (fun _ => fd_fX3_drawSprite_61 hσ15))))
theorem fd_fX3_drawSprite {σ0 : zSt} {σ : zSt} {x1 : Int32} {x2 : Int32} (h : (zQ [25, 27, 28, 29, 3] [(23, 15, 15)] [] []) σ0 σ) : zpc (fX3_drawSprite σ x1 x2) (fun r => (zQ [25, 27, 28, 29, 3] [(23, 15, 15)] [] []) σ0 (r)) := by
  unfold fX3_drawSprite
  exact zpc_bi (fd_fX9_vramByte h) (fun σ17 v18 hσ17 => zpc_bi (fd_fX9_held hσ17) (fun σ19 v20 hσ19 => zpc_if (fun _ => fd_fX3_drawSprite_28 hσ19) (fun _ => fd_fX3_drawSprite_28 hσ19)))
theorem fd_fX3_drawSprites_196 {σ0 : zSt} {k147 : zSt → Int32 → Option (zSt)} (hk147 : ∀ (y0 : zSt) (y1 : Int32), (zQ [25, 27, 28, 29, 3] [(23, 15, 15)] [] []) σ0 y0 → zpc (k147 y0 y1) (fun r => (zQ [25, 27, 28, 29, 3] [(23, 15, 15)] [] []) σ0 (r))) {σ : zSt} {x5 : Int32} (h : (zQ [25, 27, 28, 29, 3] [(23, 15, 15)] [] []) σ0 σ) : zpc (fX3_drawSprites_196 k147 σ x5) (fun r => (zQ [25, 27, 28, 29, 3] [(23, 15, 15)] [] []) σ0 (r)) := by
  unfold fX3_drawSprites_196
  exact zpc_bv (fun v1 _ => hk147 _ _ h)
theorem fd_fX3_drawSprites_147_body {σ0 : zSt} {k147 : zSt → Int32 → Option (zSt)} (hk147 : ∀ (y0 : zSt) (y1 : Int32), (zQ [25, 27, 28, 29, 3] [(23, 15, 15)] [] []) σ0 y0 → zpc (k147 y0 y1) (fun r => (zQ [25, 27, 28, 29, 3] [(23, 15, 15)] [] []) σ0 (r))) {σ : zSt} {x5 : Int32} (h : (zQ [25, 27, 28, 29, 3] [(23, 15, 15)] [] []) σ0 σ) : zpc (fX3_drawSprites_147_body k147 σ x5) (fun r => (zQ [25, 27, 28, 29, 3] [(23, 15, 15)] [] []) σ0 (r)) := by
  unfold fX3_drawSprites_147_body
  exact zpc_if (fun _ => zpc_some h) (fun _ => zpc_ck (zpc_if (fun _ => fd_fX3_drawSprites_196 hk147 h) (fun _ => zpc_ck (zpc_if (fun _ => zpc_ck (zpc_ck (zpc_bs (zQ.wi h rfl) (fun σ2 hσ2 => fd_fX3_drawSprites_196 hk147 hσ2)))) (fun _ => fd_fX3_drawSprites_196 hk147 h)))))
theorem fd_fX3_drawSprites_147 {σ0 : zSt} : ∀ (n : Nat) (y0 : zSt) (y1 : Int32), (zQ [25, 27, 28, 29, 3] [(23, 15, 15)] [] []) σ0 y0 → zpc (fX3_drawSprites_147 n y0 y1) (fun r => (zQ [25, 27, 28, 29, 3] [(23, 15, 15)] [] []) σ0 (r)) := by
  intro n
  induction n with
  | zero => intro y0 y1 h; exact zpc_none
  | succ n ih => intro y0 y1 h; exact fd_fX3_drawSprites_147_body ih h
theorem fd_fX3_drawSprites_144 {σ0 : zSt} {σ : zSt} (h : (zQ [25, 27, 28, 29, 3] [(23, 15, 15)] [] []) σ0 σ) : zpc (fX3_drawSprites_144 σ) (fun r => (zQ [25, 27, 28, 29, 3] [(23, 15, 15)] [] []) σ0 (r)) := by
  unfold fX3_drawSprites_144
  exact fd_fX3_drawSprites_147 _ _ _ h
theorem fd_fX3_drawSprites_138 {σ0 : zSt} {k51 : zSt → Int32 → Int32 → Int32 → Int32 → Int32 → Option (zSt)} (hk51 : ∀ (y0 : zSt) (y1 : Int32) (y2 : Int32) (y3 : Int32) (y4 : Int32) (y5 : Int32), (zQ [25, 27, 28, 29, 3] [(23, 15, 15)] [] []) σ0 y0 → zpc (k51 y0 y1 y2 y3 y4 y5) (fun r => (zQ [25, 27, 28, 29, 3] [(23, 15, 15)] [] []) σ0 (r))) {σ : zSt} {x1 : Int32} {x2 : Int32} {x3 : Int32} {x4 : Int32} {x5 : Int32} (h : (zQ [25, 27, 28, 29, 3] [(23, 15, 15)] [] []) σ0 σ) : zpc (fX3_drawSprites_138 k51 σ x1 x2 x3 x4 x5) (fun r => (zQ [25, 27, 28, 29, 3] [(23, 15, 15)] [] []) σ0 (r)) := by
  unfold fX3_drawSprites_138
  exact zpc_bv (fun v3 _ => hk51 _ _ _ _ _ _ h)
theorem fd_fX3_drawSprites_86 {σ0 : zSt} {k51 : zSt → Int32 → Int32 → Int32 → Int32 → Int32 → Option (zSt)} (hk51 : ∀ (y0 : zSt) (y1 : Int32) (y2 : Int32) (y3 : Int32) (y4 : Int32) (y5 : Int32), (zQ [25, 27, 28, 29, 3] [(23, 15, 15)] [] []) σ0 y0 → zpc (k51 y0 y1 y2 y3 y4 y5) (fun r => (zQ [25, 27, 28, 29, 3] [(23, 15, 15)] [] []) σ0 (r))) {σ : zSt} {x1 : Int32} {x2 : Int32} {x3 : Int32} {x4 : Int32} {x5 : Int32} {x6 : Int32} (h : (zQ [25, 27, 28, 29, 3] [(23, 15, 15)] [] []) σ0 σ) : zpc (fX3_drawSprites_86 k51 σ x1 x2 x3 x4 x5 x6) (fun r => (zQ [25, 27, 28, 29, 3] [(23, 15, 15)] [] []) σ0 (r)) := by
  unfold fX3_drawSprites_86
  exact zpc_bi (fd_fX3_rowOfSprite h) (fun σ4 v5 hσ4 => zpc_if (fun _ => fd_fX3_drawSprites_138 hk51 hσ4) (fun _ => zpc_bv (fun v6 _ => zpc_if (fun _ => zpc_bu (fd_fX3_drawSprite hσ4) (fun σ7 hσ7 => fd_fX3_drawSprites_138 hk51 hσ7)) (fun _ => zpc_bu (fd_fX9_mark hσ4) (fun σ8 hσ8 => fd_fX3_drawSprites_144 hσ8)))))
theorem fd_fX3_drawSprites_51_body {σ0 : zSt} {k51 : zSt → Int32 → Int32 → Int32 → Int32 → Int32 → Option (zSt)} (hk51 : ∀ (y0 : zSt) (y1 : Int32) (y2 : Int32) (y3 : Int32) (y4 : Int32) (y5 : Int32), (zQ [25, 27, 28, 29, 3] [(23, 15, 15)] [] []) σ0 y0 → zpc (k51 y0 y1 y2 y3 y4 y5) (fun r => (zQ [25, 27, 28, 29, 3] [(23, 15, 15)] [] []) σ0 (r))) {σ : zSt} {x1 : Int32} {x2 : Int32} {x3 : Int32} {x4 : Int32} {x5 : Int32} (h : (zQ [25, 27, 28, 29, 3] [(23, 15, 15)] [] []) σ0 σ) : zpc (fX3_drawSprites_51_body k51 σ x1 x2 x3 x4 x5) (fun r => (zQ [25, 27, 28, 29, 3] [(23, 15, 15)] [] []) σ0 (r)) := by
  unfold fX3_drawSprites_51_body
  exact zpc_if (fun _ => fd_fX3_drawSprites_144 h) (fun _ => zpc_bi (fd_fX9_vramByte h) (fun σ9 v10 hσ9 => zpc_if (fun _ => fd_fX3_drawSprites_86 hk51 hσ9) (fun _ => zpc_if (fun _ => fd_fX3_drawSprites_144 hσ9) (fun _ => fd_fX3_drawSprites_86 hk51 hσ9))))
theorem fd_fX3_drawSprites_51 {σ0 : zSt} : ∀ (n : Nat) (y0 : zSt) (y1 : Int32) (y2 : Int32) (y3 : Int32) (y4 : Int32) (y5 : Int32), (zQ [25, 27, 28, 29, 3] [(23, 15, 15)] [] []) σ0 y0 → zpc (fX3_drawSprites_51 n y0 y1 y2 y3 y4 y5) (fun r => (zQ [25, 27, 28, 29, 3] [(23, 15, 15)] [] []) σ0 (r)) := by
  intro n
  induction n with
  | zero => intro y0 y1 y2 y3 y4 y5 h; exact zpc_none
  | succ n ih => intro y0 y1 y2 y3 y4 y5 h; exact fd_fX3_drawSprites_51_body ih h
theorem fd_fX3_drawSprites_44 {σ0 : zSt} {σ : zSt} {x1 : Int32} {x2 : Int32} {s0 : Int32} (h : (zQ [25, 27, 28, 29, 3] [(23, 15, 15)] [] []) σ0 σ) : zpc (fX3_drawSprites_44 σ x1 x2 s0) (fun r => (zQ [25, 27, 28, 29, 3] [(23, 15, 15)] [] []) σ0 (r)) := by
  unfold fX3_drawSprites_44
  exact fd_fX3_drawSprites_51 _ _ _ _ _ _ _ h
theorem fd_fX3_drawSprites {σ0 : zSt} {σ : zSt} {x1 : Int32} (h : (zQ [25, 27, 28, 29, 3] [(23, 15, 15)] [] []) σ0 σ) : zpc (fX3_drawSprites σ x1) (fun r => (zQ [25, 27, 28, 29, 3] [(23, 15, 15)] [] []) σ0 (r)) := by
  unfold fX3_drawSprites
  exact zpc_bu (fd_fJ7_fill_53178_k28 h) (fun σ11 hσ11 => zpc_bi (fd_fX9_held hσ11) (fun σ12 v13 hσ12 => zpc_bv (fun v14 _ => zpc_bi (fd_fX9_height hσ12) (fun σ15 v16 hσ15 => zpc_if (fun _ => fd_fX3_drawSprites_44 hσ15) (fun _ => fd_fX3_drawSprites_44 hσ15)))))
theorem fd_fJ7_rangeCheck_23922 {σ0 : zSt} {σ : zSt} {x0 : Int32} {x1 : Int32} {x2 : Int32} (h : (zQ [25, 27, 28, 29, 3] [(23, 15, 15)] [] []) σ0 σ) : zpc (fJ7_rangeCheck_23922 σ x0 x1 x2) (fun r => (zQ [25, 27, 28, 29, 3] [(23, 15, 15)] [] []) σ0 (r)) := by
  unfold fJ7_rangeCheck_23922
  exact zpc_if (fun _ => zpc_if (fun _ => zpc_if (fun _ => zpc_some h) (fun _ => zpc_none)) (fun _ => zpc_none)) (fun _ => zpc_none)
theorem fd_fJ7_fill_fda19_k27_10_body {σ0 : zSt} {k10 : zSt → Int32 → Int32 → Int32 → Option (zSt)} (hk10 : ∀ (y0 : zSt) (y1 : Int32) (y2 : Int32) (y3 : Int32), (zQ [25, 27, 28, 29, 3] [(23, 15, 15)] [] []) σ0 y0 → zpc (k10 y0 y1 y2 y3) (fun r => (zQ [25, 27, 28, 29, 3] [(23, 15, 15)] [] []) σ0 (r))) {σ : zSt} {x2 : Int32} {x3 : Int32} {x4 : Int32} (h : (zQ [25, 27, 28, 29, 3] [(23, 15, 15)] [] []) σ0 σ) : zpc (fJ7_fill_fda19_k27_10_body k10 σ x2 x3 x4) (fun r => (zQ [25, 27, 28, 29, 3] [(23, 15, 15)] [] []) σ0 (r)) := by
  unfold fJ7_fill_fda19_k27_10_body
  exact zpc_if (fun _ => zpc_some h) (fun _ => zpc_ck (zpc_bs (zQ.wi h rfl) (fun σ1 hσ1 => zpc_bv (fun v2 _ => hk10 _ _ _ _ hσ1))))
theorem fd_fJ7_fill_fda19_k27_10 {σ0 : zSt} : ∀ (n : Nat) (y0 : zSt) (y1 : Int32) (y2 : Int32) (y3 : Int32), (zQ [25, 27, 28, 29, 3] [(23, 15, 15)] [] []) σ0 y0 → zpc (fJ7_fill_fda19_k27_10 n y0 y1 y2 y3) (fun r => (zQ [25, 27, 28, 29, 3] [(23, 15, 15)] [] []) σ0 (r)) := by
  intro n
  induction n with
  | zero => intro y0 y1 y2 y3 h; exact zpc_none
  | succ n ih => intro y0 y1 y2 y3 h; exact fd_fJ7_fill_fda19_k27_10_body ih h
theorem fd_fJ7_fill_fda19_k27 {σ0 : zSt} {σ : zSt} {x1 : Int32} {x2 : Int32} {x3 : Int32} (h : (zQ [25, 27, 28, 29, 3] [(23, 15, 15)] [] []) σ0 σ) : zpc (fJ7_fill_fda19_k27 σ x1 x2 x3) (fun r => (zQ [25, 27, 28, 29, 3] [(23, 15, 15)] [] []) σ0 (r)) := by
  unfold fJ7_fill_fda19_k27
  exact zpc_bu (fd_fJ7_rangeCheck_23922 h) (fun σ3 hσ3 => fd_fJ7_fill_fda19_k27_10 _ _ _ _ _ hσ3)
theorem fd_fX3_patternAt {σ0 : zSt} {σ : zSt} {x1 : Int32} {x2 : Int32} (h : (zQ [25, 27, 28, 29, 3] [(23, 15, 15)] [] []) σ0 σ) : zpc (fX3_patternAt σ x1 x2) (fun r => (zQ [25, 27, 28, 29, 3] [(23, 15, 15)] [] []) σ0 (r.1)) := by
  unfold fX3_patternAt
  exact zpc_bi (fd_fX9_held h) (fun σ1 v2 hσ1 => zpc_bi (fd_fX9_vramByte hσ1) (fun σ3 v4 hσ3 => zpc_some hσ3))
theorem fd_fX3_drawText_101 {σ0 : zSt} {k21 : zSt → Int32 → Int32 → Int32 → Int32 → Option (zSt)} (hk21 : ∀ (y0 : zSt) (y1 : Int32) (y2 : Int32) (y3 : Int32) (y4 : Int32), (zQ [25, 27, 28, 29, 3] [(23, 15, 15)] [] []) σ0 y0 → zpc (k21 y0 y1 y2 y3 y4) (fun r => (zQ [25, 27, 28, 29, 3] [(23, 15, 15)] [] []) σ0 (r))) {k56 : zSt → Int32 → Int32 → Int32 → Int32 → Int32 → Int32 → Option (zSt)} (hk56 : ∀ (y0 : zSt) (y1 : Int32) (y2 : Int32) (y3 : Int32) (y4 : Int32) (y5 : Int32) (y6 : Int32), (zQ [25, 27, 28, 29, 3] [(23, 15, 15)] [] []) σ0 y0 → zpc (k56 y0 y1 y2 y3 y4 y5 y6) (fun r => (zQ [25, 27, 28, 29, 3] [(23, 15, 15)] [] []) σ0 (r))) {σ : zSt} {x1 : Int32} {x2 : Int32} {x3 : Int32} {x4 : Int32} {x5 : Int32} {x6 : Int32} {s0 : Int32} {s1 : Int32} (h : (zQ [25, 27, 28, 29, 3] [(23, 15, 15)] [] []) σ0 σ) : zpc (fX3_drawText_101 k21 k56 σ x1 x2 x3 x4 x5 x6 s0 s1) (fun r => (zQ [25, 27, 28, 29, 3] [(23, 15, 15)] [] []) σ0 (r)) := by
  unfold fX3_drawText_101
  exact zpc_ck (zpc_bs (zQ.wi h rfl) (fun σ1 hσ1 => zpc_bv (fun v2 _ => hk56 _ _ _ _ _ _ _ hσ1)))
theorem fd_fX3_drawText_56_body {σ0 : zSt} {k21 : zSt → Int32 → Int32 → Int32 → Int32 → Option (zSt)} (hk21 : ∀ (y0 : zSt) (y1 : Int32) (y2 : Int32) (y3 : Int32) (y4 : Int32), (zQ [25, 27, 28, 29, 3] [(23, 15, 15)] [] []) σ0 y0 → zpc (k21 y0 y1 y2 y3 y4) (fun r => (zQ [25, 27, 28, 29, 3] [(23, 15, 15)] [] []) σ0 (r))) {k56 : zSt → Int32 → Int32 → Int32 → Int32 → Int32 → Int32 → Option (zSt)} (hk56 : ∀ (y0 : zSt) (y1 : Int32) (y2 : Int32) (y3 : Int32) (y4 : Int32) (y5 : Int32) (y6 : Int32), (zQ [25, 27, 28, 29, 3] [(23, 15, 15)] [] []) σ0 y0 → zpc (k56 y0 y1 y2 y3 y4 y5 y6) (fun r => (zQ [25, 27, 28, 29, 3] [(23, 15, 15)] [] []) σ0 (r))) {σ : zSt} {x1 : Int32} {x2 : Int32} {x3 : Int32} {x4 : Int32} {x5 : Int32} {x6 : Int32} (h : (zQ [25, 27, 28, 29, 3] [(23, 15, 15)] [] []) σ0 σ) : zpc (fX3_drawText_56_body k21 k56 σ x1 x2 x3 x4 x5 x6) (fun r => (zQ [25, 27, 28, 29, 3] [(23, 15, 15)] [] []) σ0 (r)) := by
  unfold fX3_drawText_56_body
  exact zpc_if (fun _ => zpc_bv (fun v3 _ => hk21 _ _ _ _ _ h)) (fun _ => zpc_if (fun _ => fd_fX3_drawText_101 hk21 hk56 h) (fun _ => fd_fX3_drawText_101 hk21 hk56 h))
theorem fd_fX3_drawText_56 {σ0 : zSt} {k21 : zSt → Int32 → Int32 → Int32 → Int32 → Option (zSt)} (hk21 : ∀ (y0 : zSt) (y1 : Int32) (y2 : Int32) (y3 : Int32) (y4 : Int32), (zQ [25, 27, 28, 29, 3] [(23, 15, 15)] [] []) σ0 y0 → zpc (k21 y0 y1 y2 y3 y4) (fun r => (zQ [25, 27, 28, 29, 3] [(23, 15, 15)] [] []) σ0 (r))) : ∀ (n : Nat) (y0 : zSt) (y1 : Int32) (y2 : Int32) (y3 : Int32) (y4 : Int32) (y5 : Int32) (y6 : Int32), (zQ [25, 27, 28, 29, 3] [(23, 15, 15)] [] []) σ0 y0 → zpc (fX3_drawText_56 k21 n y0 y1 y2 y3 y4 y5 y6) (fun r => (zQ [25, 27, 28, 29, 3] [(23, 15, 15)] [] []) σ0 (r)) := by
  intro n
  induction n with
  | zero => intro y0 y1 y2 y3 y4 y5 y6 h; exact zpc_none
  | succ n ih => intro y0 y1 y2 y3 y4 y5 y6 h; exact fd_fX3_drawText_56_body hk21 ih h
theorem fd_fX3_drawText_21_body {σ0 : zSt} {k21 : zSt → Int32 → Int32 → Int32 → Int32 → Option (zSt)} (hk21 : ∀ (y0 : zSt) (y1 : Int32) (y2 : Int32) (y3 : Int32) (y4 : Int32), (zQ [25, 27, 28, 29, 3] [(23, 15, 15)] [] []) σ0 y0 → zpc (k21 y0 y1 y2 y3 y4) (fun r => (zQ [25, 27, 28, 29, 3] [(23, 15, 15)] [] []) σ0 (r))) {σ : zSt} {x1 : Int32} {x2 : Int32} {x3 : Int32} {x4 : Int32} (h : (zQ [25, 27, 28, 29, 3] [(23, 15, 15)] [] []) σ0 σ) : zpc (fX3_drawText_21_body k21 σ x1 x2 x3 x4) (fun r => (zQ [25, 27, 28, 29, 3] [(23, 15, 15)] [] []) σ0 (r)) := by
  unfold fX3_drawText_21_body
  exact zpc_if (fun _ => zpc_some h) (fun _ => zpc_bi (fd_fX9_vramByte h) (fun σ4 v5 hσ4 => zpc_bi (fd_fX3_patternAt hσ4) (fun σ6 v7 hσ6 => fd_fX3_drawText_56 hk21 _ _ _ _ _ _ _ _ hσ6)))
theorem fd_fX3_drawText_21 {σ0 : zSt} : ∀ (n : Nat) (y0 : zSt) (y1 : Int32) (y2 : Int32) (y3 : Int32) (y4 : Int32), (zQ [25, 27, 28, 29, 3] [(23, 15, 15)] [] []) σ0 y0 → zpc (fX3_drawText_21 n y0 y1 y2 y3 y4) (fun r => (zQ [25, 27, 28, 29, 3] [(23, 15, 15)] [] []) σ0 (r)) := by
  intro n
  induction n with
  | zero => intro y0 y1 y2 y3 y4 h; exact zpc_none
  | succ n ih => intro y0 y1 y2 y3 y4 h; exact fd_fX3_drawText_21_body ih h
theorem fd_fX3_drawText {σ0 : zSt} {σ : zSt} {x1 : Int32} {x2 : Int32} (h : (zQ [25, 27, 28, 29, 3] [(23, 15, 15)] [] []) σ0 σ) : zpc (fX3_drawText σ x1 x2) (fun r => (zQ [25, 27, 28, 29, 3] [(23, 15, 15)] [] []) σ0 (r)) := by
  unfold fX3_drawText
  exact zpc_bi (fd_fX9_held h) (fun σ8 v9 hσ8 => zpc_bu (fd_fJ7_fill_53178_k27 hσ8) (fun σ10 hσ10 => fd_fX3_drawText_21 _ _ _ _ _ _ hσ10))
theorem fd_fX3_drawPattern_57 {σ0 : zSt} {σ : zSt} (h : (zQ [25, 27, 28, 29, 3] [(23, 15, 15)] [] []) σ0 σ) : zpc (fX3_drawPattern_57 σ) (fun r => (zQ [25, 27, 28, 29, 3] [(23, 15, 15)] [] []) σ0 (r)) := by
  unfold fX3_drawPattern_57
  exact zpc_some h
theorem fd_fX3_drawPattern_50 {σ0 : zSt} {k3 : zSt → Int32 → Int32 → Int32 → Int32 → Option (zSt)} (hk3 : ∀ (y0 : zSt) (y1 : Int32) (y2 : Int32) (y3 : Int32) (y4 : Int32), (zQ [25, 27, 28, 29, 3] [(23, 15, 15)] [] []) σ0 y0 → zpc (k3 y0 y1 y2 y3 y4) (fun r => (zQ [25, 27, 28, 29, 3] [(23, 15, 15)] [] []) σ0 (r))) {σ : zSt} {x1 : Int32} {x2 : Int32} {x3 : Int32} {x4 : Int32} {s0 : Int32} {s1 : Int32} (h : (zQ [25, 27, 28, 29, 3] [(23, 15, 15)] [] []) σ0 σ) : zpc (fX3_drawPattern_50 k3 σ x1 x2 x3 x4 s0 s1) (fun r => (zQ [25, 27, 28, 29, 3] [(23, 15, 15)] [] []) σ0 (r)) := by
  unfold fX3_drawPattern_50
  exact zpc_ck (zpc_bs (zQ.wi h rfl) (fun σ1 hσ1 => zpc_bv (fun v2 _ => hk3 _ _ _ _ _ hσ1)))
theorem fd_fX3_drawPattern_3_body {σ0 : zSt} {k3 : zSt → Int32 → Int32 → Int32 → Int32 → Option (zSt)} (hk3 : ∀ (y0 : zSt) (y1 : Int32) (y2 : Int32) (y3 : Int32) (y4 : Int32), (zQ [25, 27, 28, 29, 3] [(23, 15, 15)] [] []) σ0 y0 → zpc (k3 y0 y1 y2 y3 y4) (fun r => (zQ [25, 27, 28, 29, 3] [(23, 15, 15)] [] []) σ0 (r))) {σ : zSt} {x1 : Int32} {x2 : Int32} {x3 : Int32} {x4 : Int32} (h : (zQ [25, 27, 28, 29, 3] [(23, 15, 15)] [] []) σ0 σ) : zpc (fX3_drawPattern_3_body k3 σ x1 x2 x3 x4) (fun r => (zQ [25, 27, 28, 29, 3] [(23, 15, 15)] [] []) σ0 (r)) := by
  unfold fX3_drawPattern_3_body
  exact zpc_if (fun _ => fd_fX3_drawPattern_57 h) (fun _ => zpc_if (fun _ => fd_fX3_drawPattern_57 h) (fun _ => zpc_if (fun _ => fd_fX3_drawPattern_50 hk3 h) (fun _ => fd_fX3_drawPattern_50 hk3 h)))
theorem fd_fX3_drawPattern_3 {σ0 : zSt} : ∀ (n : Nat) (y0 : zSt) (y1 : Int32) (y2 : Int32) (y3 : Int32) (y4 : Int32), (zQ [25, 27, 28, 29, 3] [(23, 15, 15)] [] []) σ0 y0 → zpc (fX3_drawPattern_3 n y0 y1 y2 y3 y4) (fun r => (zQ [25, 27, 28, 29, 3] [(23, 15, 15)] [] []) σ0 (r)) := by
  intro n
  induction n with
  | zero => intro y0 y1 y2 y3 y4 h; exact zpc_none
  | succ n ih => intro y0 y1 y2 y3 y4 h; exact fd_fX3_drawPattern_3_body ih h
theorem fd_fX3_drawPattern {σ0 : zSt} {σ : zSt} {x1 : Int32} {x2 : Int32} {x3 : Int32} (h : (zQ [25, 27, 28, 29, 3] [(23, 15, 15)] [] []) σ0 σ) : zpc (fX3_drawPattern σ x1 x2 x3) (fun r => (zQ [25, 27, 28, 29, 3] [(23, 15, 15)] [] []) σ0 (r)) := by
  unfold fX3_drawPattern
  exact fd_fX3_drawPattern_3 _ _ _ _ _ _ h
theorem fd_fX3_drawBlocks {σ0 : zSt} {σ : zSt} {x1 : Int32} {x2 : Int32} {x3 : Int32} (h : (zQ [25, 27, 28, 29, 3] [(23, 15, 15)] [] []) σ0 σ) : zpc (fX3_drawBlocks σ x1 x2 x3) (fun r => (zQ [25, 27, 28, 29, 3] [(23, 15, 15)] [] []) σ0 (r)) := by
  unfold fX3_drawBlocks
  exact zpc_bi (fd_fX9_held h) (fun σ1 v2 hσ1 => zpc_bv (fun v3 _ => zpc_bi (fd_fX9_vramByte hσ1) (fun σ4 v5 hσ4 => zpc_bu (fd_fX3_drawPattern hσ4) (fun σ6 hσ6 => zpc_some hσ6))))
theorem fd_fX3_drawThird {σ0 : zSt} {σ : zSt} {x1 : Int32} {x2 : Int32} {x3 : Int32} (h : (zQ [25, 27, 28, 29, 3] [(23, 15, 15)] [] []) σ0 σ) : zpc (fX3_drawThird σ x1 x2 x3) (fun r => (zQ [25, 27, 28, 29, 3] [(23, 15, 15)] [] []) σ0 (r)) := by
  unfold fX3_drawThird
  exact zpc_bi (fd_fX9_held h) (fun σ1 v2 hσ1 => zpc_bi (fd_fX9_held hσ1) (fun σ3 v4 hσ3 => zpc_bv (fun v5 _ => zpc_bv (fun v6 _ => zpc_bi (fd_fX9_vramByte hσ3) (fun σ7 v8 hσ7 => zpc_bi (fd_fX9_vramByte hσ7) (fun σ9 v10 hσ9 => zpc_bu (fd_fX3_drawPattern hσ9) (fun σ11 hσ11 => zpc_some hσ11)))))))
theorem fd_fX3_drawOld_165 {σ0 : zSt} {k31 : zSt → Int32 → Int32 → Int32 → Int32 → Option (zSt)} (hk31 : ∀ (y0 : zSt) (y1 : Int32) (y2 : Int32) (y3 : Int32) (y4 : Int32), (zQ [25, 27, 28, 29, 3] [(23, 15, 15)] [] []) σ0 y0 → zpc (k31 y0 y1 y2 y3 y4) (fun r => (zQ [25, 27, 28, 29, 3] [(23, 15, 15)] [] []) σ0 (r))) {σ : zSt} {x1 : Int32} {x2 : Int32} {x3 : Int32} {x4 : Int32} (h : (zQ [25, 27, 28, 29, 3] [(23, 15, 15)] [] []) σ0 σ) : zpc (fX3_drawOld_165 k31 σ x1 x2 x3 x4) (fun r => (zQ [25, 27, 28, 29, 3] [(23, 15, 15)] [] []) σ0 (r)) := by
  unfold fX3_drawOld_165
  exact zpc_bv (fun v1 _ => hk31 _ _ _ _ _ h)
theorem fd_fX3_drawOld_31_body {σ0 : zSt} {k31 : zSt → Int32 → Int32 → Int32 → Int32 → Option (zSt)} (hk31 : ∀ (y0 : zSt) (y1 : Int32) (y2 : Int32) (y3 : Int32) (y4 : Int32), (zQ [25, 27, 28, 29, 3] [(23, 15, 15)] [] []) σ0 y0 → zpc (k31 y0 y1 y2 y3 y4) (fun r => (zQ [25, 27, 28, 29, 3] [(23, 15, 15)] [] []) σ0 (r))) {σ : zSt} {x1 : Int32} {x2 : Int32} {x3 : Int32} {x4 : Int32} (h : (zQ [25, 27, 28, 29, 3] [(23, 15, 15)] [] []) σ0 σ) : zpc (fX3_drawOld_31_body k31 σ x1 x2 x3 x4) (fun r => (zQ [25, 27, 28, 29, 3] [(23, 15, 15)] [] []) σ0 (r)) := by
  unfold fX3_drawOld_31_body
  exact zpc_if (fun _ => zpc_some h) (fun _ => zpc_bi (fd_fX9_vramByte h) (fun σ2 v3 hσ2 => zpc_if (fun _ => zpc_bi (fd_fX3_patternAt hσ2) (fun σ4 v5 hσ4 => zpc_bi (fd_fX9_held hσ4) (fun σ6 v7 hσ6 => zpc_bi (fd_fX9_vramByte hσ6) (fun σ8 v9 hσ8 => zpc_bu (fd_fX3_drawPattern hσ8) (fun σ10 hσ10 => fd_fX3_drawOld_165 hk31 hσ10))))) (fun _ => zpc_if (fun _ => zpc_bu (fd_fX3_drawThird hσ2) (fun σ11 hσ11 => fd_fX3_drawOld_165 hk31 hσ11)) (fun _ => zpc_bu (fd_fX3_drawBlocks hσ2) (fun σ12 hσ12 => fd_fX3_drawOld_165 hk31 hσ12)))))
theorem fd_fX3_drawOld_31 {σ0 : zSt} : ∀ (n : Nat) (y0 : zSt) (y1 : Int32) (y2 : Int32) (y3 : Int32) (y4 : Int32), (zQ [25, 27, 28, 29, 3] [(23, 15, 15)] [] []) σ0 y0 → zpc (fX3_drawOld_31 n y0 y1 y2 y3 y4) (fun r => (zQ [25, 27, 28, 29, 3] [(23, 15, 15)] [] []) σ0 (r)) := by
  intro n
  induction n with
  | zero => intro y0 y1 y2 y3 y4 h; exact zpc_none
  | succ n ih => intro y0 y1 y2 y3 y4 h; exact fd_fX3_drawOld_31_body ih h
theorem fd_fX3_drawOld {σ0 : zSt} {σ : zSt} {x1 : Int32} {x2 : Int32} (h : (zQ [25, 27, 28, 29, 3] [(23, 15, 15)] [] []) σ0 σ) : zpc (fX3_drawOld σ x1 x2) (fun r => (zQ [25, 27, 28, 29, 3] [(23, 15, 15)] [] []) σ0 (r)) := by
  unfold fX3_drawOld
  exact zpc_bi (fd_fX9_held h) (fun σ13 v14 hσ13 => zpc_bv (fun v15 _ => zpc_if (fun _ => zpc_bu (fd_fX3_drawText hσ13) (fun σ16 hσ16 => zpc_some hσ16)) (fun _ => fd_fX3_drawOld_31 _ _ _ _ _ _ hσ13)))
theorem fd_fX9_markFifth_39 {σ0 : zSt} {σ : zSt} (h : (zQ [25, 27, 28, 29, 3] [(23, 15, 15)] [] []) σ0 σ) : zpc (fX9_markFifth_39 σ) (fun r => (zQ [25, 27, 28, 29, 3] [(23, 15, 15)] [] []) σ0 (r)) := by
  unfold fX9_markFifth_39
  exact zpc_some h
theorem fd_fX9_markFifth {σ0 : zSt} {σ : zSt} {x1 : Int32} (h : (zQ [25, 27, 28, 29, 3] [(23, 15, 15)] [] []) σ0 σ) : zpc (fX9_markFifth σ x1) (fun r => (zQ [25, 27, 28, 29, 3] [(23, 15, 15)] [] []) σ0 (r)) := by
  unfold fX9_markFifth
  exact zpc_ck (zpc_if (fun _ => zpc_ck (zpc_ck (zpc_bs (zQ.wi h rfl) (fun σ1 hσ1 => fd_fX9_markFifth_39 hσ1)))) (fun _ => fd_fX9_markFifth_39 h))
theorem fd_fX3_takeDot_41 {σ0 : zSt} {σ : zSt} (h : (zQ [25, 27, 28, 29, 3] [(23, 15, 15)] [] []) σ0 σ) : zpc (fX3_takeDot_41 σ) (fun r => (zQ [25, 27, 28, 29, 3] [(23, 15, 15)] [] []) σ0 (r)) := by
  unfold fX3_takeDot_41
  exact zpc_some h
theorem fd_fX3_takeDot_18 {σ0 : zSt} {σ : zSt} {x1 : Int32} {x2 : Int32} (h : (zQ [25, 27, 28, 29, 3] [(23, 15, 15)] [] []) σ0 σ) : zpc (fX3_takeDot_18 σ x1 x2) (fun r => (zQ [25, 27, 28, 29, 3] [(23, 15, 15)] [] []) σ0 (r)) := by
  unfold fX3_takeDot_18
  exact zpc_ck (zpc_if (fun _ => zpc_ck (zpc_bs (zQ.wi h rfl) (fun σ1 hσ1 => fd_fX3_takeDot_41 hσ1))) (fun _ => fd_fX3_takeDot_41 h))
theorem fd_fX3_takeDot {σ0 : zSt} {σ : zSt} {x1 : Int32} {x2 : Int32} (h : (zQ [25, 27, 28, 29, 3] [(23, 15, 15)] [] []) σ0 σ) : zpc (fX3_takeDot σ x1 x2) (fun r => (zQ [25, 27, 28, 29, 3] [(23, 15, 15)] [] []) σ0 (r)) := by
  unfold fX3_takeDot
  exact zpc_ck (zpc_if (fun _ => fd_fX3_takeDot_18 h) (fun _ => zpc_bu (fd_fX9_mark h) (fun σ2 hσ2 => fd_fX3_takeDot_18 hσ2)))
theorem fd_fX3_drawOldSprite_224 {σ0 : zSt} {k158 : zSt → Int32 → Int32 → Int32 → Int32 → Int32 → Int32 → Option (zSt)} (hk158 : ∀ (y0 : zSt) (y1 : Int32) (y2 : Int32) (y3 : Int32) (y4 : Int32) (y5 : Int32) (y6 : Int32), (zQ [25, 27, 28, 29, 3] [(23, 15, 15)] [] []) σ0 y0 → zpc (k158 y0 y1 y2 y3 y4 y5 y6) (fun r => (zQ [25, 27, 28, 29, 3] [(23, 15, 15)] [] []) σ0 (r))) {σ : zSt} {x3 : Int32} {x4 : Int32} {x7 : Int32} {x8 : Int32} {x10 : Int32} {x11 : Int32} (h : (zQ [25, 27, 28, 29, 3] [(23, 15, 15)] [] []) σ0 σ) : zpc (fX3_drawOldSprite_224 k158 σ x3 x4 x7 x8 x10 x11) (fun r => (zQ [25, 27, 28, 29, 3] [(23, 15, 15)] [] []) σ0 (r)) := by
  unfold fX3_drawOldSprite_224
  exact zpc_bv (fun v1 _ => hk158 _ _ _ _ _ _ _ h)
theorem fd_fX3_drawOldSprite_172 {σ0 : zSt} {k158 : zSt → Int32 → Int32 → Int32 → Int32 → Int32 → Int32 → Option (zSt)} (hk158 : ∀ (y0 : zSt) (y1 : Int32) (y2 : Int32) (y3 : Int32) (y4 : Int32) (y5 : Int32) (y6 : Int32), (zQ [25, 27, 28, 29, 3] [(23, 15, 15)] [] []) σ0 y0 → zpc (k158 y0 y1 y2 y3 y4 y5 y6) (fun r => (zQ [25, 27, 28, 29, 3] [(23, 15, 15)] [] []) σ0 (r))) {σ : zSt} {x3 : Int32} {x4 : Int32} {x7 : Int32} {x8 : Int32} {x10 : Int32} {x11 : Int32} {s0 : Int32} {s1 : Int32} (h : (zQ [25, 27, 28, 29, 3] [(23, 15, 15)] [] []) σ0 σ) : zpc (fX3_drawOldSprite_172 k158 σ x3 x4 x7 x8 x10 x11 s0 s1) (fun r => (zQ [25, 27, 28, 29, 3] [(23, 15, 15)] [] []) σ0 (r)) := by
  unfold fX3_drawOldSprite_172
  exact zpc_if (fun _ => zpc_some h) (fun _ => zpc_bv (fun v2 _ => zpc_if (fun _ => fd_fX3_drawOldSprite_224 hk158 h) (fun _ => zpc_if (fun _ => fd_fX3_drawOldSprite_224 hk158 h) (fun _ => zpc_if (fun _ => fd_fX3_drawOldSprite_224 hk158 h) (fun _ => zpc_bu (fd_fX3_takeDot h) (fun σ3 hσ3 => fd_fX3_drawOldSprite_224 hk158 hσ3))))))
theorem fd_fX3_drawOldSprite_158_body {σ0 : zSt} {k158 : zSt → Int32 → Int32 → Int32 → Int32 → Int32 → Int32 → Option (zSt)} (hk158 : ∀ (y0 : zSt) (y1 : Int32) (y2 : Int32) (y3 : Int32) (y4 : Int32) (y5 : Int32) (y6 : Int32), (zQ [25, 27, 28, 29, 3] [(23, 15, 15)] [] []) σ0 y0 → zpc (k158 y0 y1 y2 y3 y4 y5 y6) (fun r => (zQ [25, 27, 28, 29, 3] [(23, 15, 15)] [] []) σ0 (r))) {σ : zSt} {x3 : Int32} {x4 : Int32} {x7 : Int32} {x8 : Int32} {x10 : Int32} {x11 : Int32} (h : (zQ [25, 27, 28, 29, 3] [(23, 15, 15)] [] []) σ0 σ) : zpc (fX3_drawOldSprite_158_body k158 σ x3 x4 x7 x8 x10 x11) (fun r => (zQ [25, 27, 28, 29, 3] [(23, 15, 15)] [] []) σ0 (r)) := by
  unfold fX3_drawOldSprite_158_body
  exact zpc_if (fun _ => fd_fX3_drawOldSprite_172 hk158 h) (fun _ => fd_fX3_drawOldSprite_172 hk158 h)
theorem fd_fX3_drawOldSprite_158 {σ0 : zSt} : ∀ (n : Nat) (y0 : zSt) (y1 : Int32) (y2 : Int32) (y3 : Int32) (y4 : Int32) (y5 : Int32) (y6 : Int32), (zQ [25, 27, 28, 29, 3] [(23, 15, 15)] [] []) σ0 y0 → zpc (fX3_drawOldSprite_158 n y0 y1 y2 y3 y4 y5 y6) (fun r => (zQ [25, 27, 28, 29, 3] [(23, 15, 15)] [] []) σ0 (r)) := by
  intro n
  induction n with
  | zero => intro y0 y1 y2 y3 y4 y5 y6 h; exact zpc_none
  | succ n ih => intro y0 y1 y2 y3 y4 y5 y6 h; exact fd_fX3_drawOldSprite_158_body ih h
theorem fd_fX3_drawOldSprite_152 {σ0 : zSt} {σ : zSt} {x3 : Int32} {x4 : Int32} {x7 : Int32} {x8 : Int32} {s0 : Int32} {s1 : Int32} (h : (zQ [25, 27, 28, 29, 3] [(23, 15, 15)] [] []) σ0 σ) : zpc (fX3_drawOldSprite_152 σ x3 x4 x7 x8 s0 s1) (fun r => (zQ [25, 27, 28, 29, 3] [(23, 15, 15)] [] []) σ0 (r)) := by
  unfold fX3_drawOldSprite_152
  exact zpc_bv (fun v4 _ => fd_fX3_drawOldSprite_158 _ _ _ _ _ _ _ _ h)
theorem fd_fX3_drawOldSprite_113 {σ0 : zSt} {σ : zSt} {x2 : Int32} {x3 : Int32} {x4 : Int32} {x7 : Int32} {x8 : Int32} {s0 : Int32} {s1 : Int32} {s2 : Int32} (h : (zQ [25, 27, 28, 29, 3] [(23, 15, 15)] [] []) σ0 σ) : zpc (fX3_drawOldSprite_113 σ x2 x3 x4 x7 x8 s0 s1 s2) (fun r => (zQ [25, 27, 28, 29, 3] [(23, 15, 15)] [] []) σ0 (r)) := by
  unfold fX3_drawOldSprite_113
  exact zpc_bv (fun v5 _ => zpc_bi (fd_fX9_vramByte h) (fun σ6 v7 hσ6 => zpc_if (fun _ => fd_fX3_drawOldSprite_152 hσ6) (fun _ => zpc_bi (fd_fX9_vramByte hσ6) (fun σ8 v9 hσ8 => fd_fX3_drawOldSprite_152 hσ8))))
theorem fd_fX3_drawOldSprite_78 {σ0 : zSt} {σ : zSt} {x2 : Int32} {x3 : Int32} {x4 : Int32} {x5 : Int32} {x7 : Int32} {s0 : Int32} (h : (zQ [25, 27, 28, 29, 3] [(23, 15, 15)] [] []) σ0 σ) : zpc (fX3_drawOldSprite_78 σ x2 x3 x4 x5 x7 s0) (fun r => (zQ [25, 27, 28, 29, 3] [(23, 15, 15)] [] []) σ0 (r)) := by
  unfold fX3_drawOldSprite_78
  exact zpc_bi (fd_fX9_held h) (fun σ10 v11 hσ10 => zpc_if (fun _ => fd_fX3_drawOldSprite_113 hσ10) (fun _ => fd_fX3_drawOldSprite_113 hσ10))
theorem fd_fX3_drawOldSprite_35 {σ0 : zSt} {σ : zSt} {x1 : Int32} {x2 : Int32} {x3 : Int32} {s0 : Int32} {s1 : Int32} (h : (zQ [25, 27, 28, 29, 3] [(23, 15, 15)] [] []) σ0 σ) : zpc (fX3_drawOldSprite_35 σ x1 x2 x3 s0 s1) (fun r => (zQ [25, 27, 28, 29, 3] [(23, 15, 15)] [] []) σ0 (r)) := by
  unfold fX3_drawOldSprite_35
  exact zpc_bv (fun v12 _ => zpc_bi (fd_fX9_vramByte h) (fun σ13 v14 hσ13 => zpc_bi (fd_fX9_held hσ13) (fun σ15 v16 hσ15 => zpc_bv (fun v17 _ => zpc_if (fun _ => fd_fX3_drawOldSprite_78 hσ15) (fun _ => fd_fX3_drawOldSprite_78 hσ15)))))
theorem fd_fX3_drawOldSprite {σ0 : zSt} {σ : zSt} {x1 : Int32} {x2 : Int32} (h : (zQ [25, 27, 28, 29, 3] [(23, 15, 15)] [] []) σ0 σ) : zpc (fX3_drawOldSprite σ x1 x2) (fun r => (zQ [25, 27, 28, 29, 3] [(23, 15, 15)] [] []) σ0 (r)) := by
  unfold fX3_drawOldSprite
  exact zpc_bi (fd_fX9_vramByte h) (fun σ18 v19 hσ18 => zpc_bi (fd_fX9_vramByte hσ18) (fun σ20 v21 hσ20 => zpc_if (fun _ => fd_fX3_drawOldSprite_35 hσ20) (fun _ => fd_fX3_drawOldSprite_35 hσ20)))
theorem fd_fX3_drawOldSprites_155 {σ0 : zSt} {k117 : zSt → Int32 → Option (zSt)} (hk117 : ∀ (y0 : zSt) (y1 : Int32), (zQ [25, 27, 28, 29, 3] [(23, 15, 15)] [] []) σ0 y0 → zpc (k117 y0 y1) (fun r => (zQ [25, 27, 28, 29, 3] [(23, 15, 15)] [] []) σ0 (r))) {σ : zSt} {x4 : Int32} (h : (zQ [25, 27, 28, 29, 3] [(23, 15, 15)] [] []) σ0 σ) : zpc (fX3_drawOldSprites_155 k117 σ x4) (fun r => (zQ [25, 27, 28, 29, 3] [(23, 15, 15)] [] []) σ0 (r)) := by
  unfold fX3_drawOldSprites_155
  exact zpc_bv (fun v1 _ => hk117 _ _ h)
theorem fd_fX3_drawOldSprites_117_body {σ0 : zSt} {k117 : zSt → Int32 → Option (zSt)} (hk117 : ∀ (y0 : zSt) (y1 : Int32), (zQ [25, 27, 28, 29, 3] [(23, 15, 15)] [] []) σ0 y0 → zpc (k117 y0 y1) (fun r => (zQ [25, 27, 28, 29, 3] [(23, 15, 15)] [] []) σ0 (r))) {σ : zSt} {x4 : Int32} (h : (zQ [25, 27, 28, 29, 3] [(23, 15, 15)] [] []) σ0 σ) : zpc (fX3_drawOldSprites_117_body k117 σ x4) (fun r => (zQ [25, 27, 28, 29, 3] [(23, 15, 15)] [] []) σ0 (r)) := by
  unfold fX3_drawOldSprites_117_body
  exact zpc_if (fun _ => zpc_some h) (fun _ => zpc_ck (zpc_if (fun _ => fd_fX3_drawOldSprites_155 hk117 h) (fun _ => zpc_ck (zpc_ck (zpc_bs (zQ.wi h rfl) (fun σ2 hσ2 => fd_fX3_drawOldSprites_155 hk117 hσ2))))))
theorem fd_fX3_drawOldSprites_117 {σ0 : zSt} : ∀ (n : Nat) (y0 : zSt) (y1 : Int32), (zQ [25, 27, 28, 29, 3] [(23, 15, 15)] [] []) σ0 y0 → zpc (fX3_drawOldSprites_117 n y0 y1) (fun r => (zQ [25, 27, 28, 29, 3] [(23, 15, 15)] [] []) σ0 (r)) := by
  intro n
  induction n with
  | zero => intro y0 y1 h; exact zpc_none
  | succ n ih => intro y0 y1 h; exact fd_fX3_drawOldSprites_117_body ih h
theorem fd_fX3_drawOldSprites_114 {σ0 : zSt} {σ : zSt} (h : (zQ [25, 27, 28, 29, 3] [(23, 15, 15)] [] []) σ0 σ) : zpc (fX3_drawOldSprites_114 σ) (fun r => (zQ [25, 27, 28, 29, 3] [(23, 15, 15)] [] []) σ0 (r)) := by
  unfold fX3_drawOldSprites_114
  exact fd_fX3_drawOldSprites_117 _ _ _ h
theorem fd_fX3_drawOldSprites_108 {σ0 : zSt} {k29 : zSt → Int32 → Int32 → Int32 → Int32 → Option (zSt)} (hk29 : ∀ (y0 : zSt) (y1 : Int32) (y2 : Int32) (y3 : Int32) (y4 : Int32), (zQ [25, 27, 28, 29, 3] [(23, 15, 15)] [] []) σ0 y0 → zpc (k29 y0 y1 y2 y3 y4) (fun r => (zQ [25, 27, 28, 29, 3] [(23, 15, 15)] [] []) σ0 (r))) {σ : zSt} {x1 : Int32} {x2 : Int32} {x3 : Int32} {x4 : Int32} (h : (zQ [25, 27, 28, 29, 3] [(23, 15, 15)] [] []) σ0 σ) : zpc (fX3_drawOldSprites_108 k29 σ x1 x2 x3 x4) (fun r => (zQ [25, 27, 28, 29, 3] [(23, 15, 15)] [] []) σ0 (r)) := by
  unfold fX3_drawOldSprites_108
  exact zpc_bv (fun v3 _ => hk29 _ _ _ _ _ h)
theorem fd_fX3_drawOldSprites_29_body {σ0 : zSt} {k29 : zSt → Int32 → Int32 → Int32 → Int32 → Option (zSt)} (hk29 : ∀ (y0 : zSt) (y1 : Int32) (y2 : Int32) (y3 : Int32) (y4 : Int32), (zQ [25, 27, 28, 29, 3] [(23, 15, 15)] [] []) σ0 y0 → zpc (k29 y0 y1 y2 y3 y4) (fun r => (zQ [25, 27, 28, 29, 3] [(23, 15, 15)] [] []) σ0 (r))) {σ : zSt} {x1 : Int32} {x2 : Int32} {x3 : Int32} {x4 : Int32} (h : (zQ [25, 27, 28, 29, 3] [(23, 15, 15)] [] []) σ0 σ) : zpc (fX3_drawOldSprites_29_body k29 σ x1 x2 x3 x4) (fun r => (zQ [25, 27, 28, 29, 3] [(23, 15, 15)] [] []) σ0 (r)) := by
  unfold fX3_drawOldSprites_29_body
  exact zpc_if (fun _ => fd_fX3_drawOldSprites_114 h) (fun _ => zpc_bv (fun v4 _ => zpc_bi (fd_fX9_vramByte h) (fun σ5 v6 hσ5 => zpc_if (fun _ => fd_fX3_drawOldSprites_114 hσ5) (fun _ => zpc_bi (fd_fX3_rowOfSprite hσ5) (fun σ7 v8 hσ7 => zpc_if (fun _ => fd_fX3_drawOldSprites_108 hk29 hσ7) (fun _ => zpc_bv (fun v9 _ => zpc_if (fun _ => zpc_bu (fd_fX3_drawOldSprite hσ7) (fun σ10 hσ10 => fd_fX3_drawOldSprites_108 hk29 hσ10)) (fun _ => zpc_bu (fd_fX9_markFifth hσ7) (fun σ11 hσ11 => fd_fX3_drawOldSprites_114 hσ11)))))))))
theorem fd_fX3_drawOldSprites_29 {σ0 : zSt} : ∀ (n : Nat) (y0 : zSt) (y1 : Int32) (y2 : Int32) (y3 : Int32) (y4 : Int32), (zQ [25, 27, 28, 29, 3] [(23, 15, 15)] [] []) σ0 y0 → zpc (fX3_drawOldSprites_29 n y0 y1 y2 y3 y4) (fun r => (zQ [25, 27, 28, 29, 3] [(23, 15, 15)] [] []) σ0 (r)) := by
  intro n
  induction n with
  | zero => intro y0 y1 y2 y3 y4 h; exact zpc_none
  | succ n ih => intro y0 y1 y2 y3 y4 h; exact fd_fX3_drawOldSprites_29_body ih h
theorem fd_fX3_drawOldSprites {σ0 : zSt} {σ : zSt} {x1 : Int32} (h : (zQ [25, 27, 28, 29, 3] [(23, 15, 15)] [] []) σ0 σ) : zpc (fX3_drawOldSprites σ x1) (fun r => (zQ [25, 27, 28, 29, 3] [(23, 15, 15)] [] []) σ0 (r)) := by
  unfold fX3_drawOldSprites
  exact zpc_bu (fd_fJ7_fill_53178_k28 h) (fun σ12 hσ12 => zpc_bi (fd_fX9_held hσ12) (fun σ13 v14 hσ13 => zpc_bv (fun v15 _ => fd_fX3_drawOldSprites_29 _ _ _ _ _ _ hσ13)))
theorem fd_fX3_fillBack_25 {σ0 : zSt} {k2 : zSt → Int32 → Int32 → Option (zSt)} (hk2 : ∀ (y0 : zSt) (y1 : Int32) (y2 : Int32), (zQ [25, 27, 28, 29, 3] [(23, 15, 15)] [] []) σ0 y0 → zpc (k2 y0 y1 y2) (fun r => (zQ [25, 27, 28, 29, 3] [(23, 15, 15)] [] []) σ0 (r))) {σ : zSt} {x1 : Int32} {x2 : Int32} (h : (zQ [25, 27, 28, 29, 3] [(23, 15, 15)] [] []) σ0 σ) : zpc (fX3_fillBack_25 k2 σ x1 x2) (fun r => (zQ [25, 27, 28, 29, 3] [(23, 15, 15)] [] []) σ0 (r)) := by
  unfold fX3_fillBack_25
  exact zpc_bv (fun v1 _ => hk2 _ _ _ h)
theorem fd_fX3_fillBack_2_body {σ0 : zSt} {k2 : zSt → Int32 → Int32 → Option (zSt)} (hk2 : ∀ (y0 : zSt) (y1 : Int32) (y2 : Int32), (zQ [25, 27, 28, 29, 3] [(23, 15, 15)] [] []) σ0 y0 → zpc (k2 y0 y1 y2) (fun r => (zQ [25, 27, 28, 29, 3] [(23, 15, 15)] [] []) σ0 (r))) {σ : zSt} {x1 : Int32} {x2 : Int32} (h : (zQ [25, 27, 28, 29, 3] [(23, 15, 15)] [] []) σ0 σ) : zpc (fX3_fillBack_2_body k2 σ x1 x2) (fun r => (zQ [25, 27, 28, 29, 3] [(23, 15, 15)] [] []) σ0 (r)) := by
  unfold fX3_fillBack_2_body
  exact zpc_if (fun _ => zpc_some h) (fun _ => zpc_ck (zpc_if (fun _ => zpc_ck (zpc_bs (zQ.wi h rfl) (fun σ2 hσ2 => fd_fX3_fillBack_25 hk2 hσ2))) (fun _ => fd_fX3_fillBack_25 hk2 h)))
theorem fd_fX3_fillBack_2 {σ0 : zSt} : ∀ (n : Nat) (y0 : zSt) (y1 : Int32) (y2 : Int32), (zQ [25, 27, 28, 29, 3] [(23, 15, 15)] [] []) σ0 y0 → zpc (fX3_fillBack_2 n y0 y1 y2) (fun r => (zQ [25, 27, 28, 29, 3] [(23, 15, 15)] [] []) σ0 (r)) := by
  intro n
  induction n with
  | zero => intro y0 y1 y2 h; exact zpc_none
  | succ n ih => intro y0 y1 y2 h; exact fd_fX3_fillBack_2_body ih h
theorem fd_fX3_fillBack {σ0 : zSt} {σ : zSt} {x1 : Int32} (h : (zQ [25, 27, 28, 29, 3] [(23, 15, 15)] [] []) σ0 σ) : zpc (fX3_fillBack σ x1) (fun r => (zQ [25, 27, 28, 29, 3] [(23, 15, 15)] [] []) σ0 (r)) := by
  unfold fX3_fillBack
  exact fd_fX3_fillBack_2 _ _ _ _ h
theorem fd_fX3_draw_21 {σ0 : zSt} {σ : zSt} (h : (zQ [25, 27, 28, 29, 3] [(23, 15, 15)] [] []) σ0 σ) : zpc (fX3_draw_21 σ) (fun r => (zQ [25, 27, 28, 29, 3] [(23, 15, 15)] [] []) σ0 (r)) := by
  unfold fX3_draw_21
  exact zpc_some h
theorem fd_fX3_draw_152_body {σ0 : zSt} {k152 : zSt → Int32 → Int32 → Option (zSt)} (hk152 : ∀ (y0 : zSt) (y1 : Int32) (y2 : Int32), (zQ [25, 27, 28, 29, 3] [(23, 15, 15)] [] []) σ0 y0 → zpc (k152 y0 y1 y2) (fun r => (zQ [25, 27, 28, 29, 3] [(23, 15, 15)] [] []) σ0 (r))) {σ : zSt} {x1 : Int32} {x4 : Int32} (h : (zQ [25, 27, 28, 29, 3] [(23, 15, 15)] [] []) σ0 σ) : zpc (fX3_draw_152_body k152 σ x1 x4) (fun r => (zQ [25, 27, 28, 29, 3] [(23, 15, 15)] [] []) σ0 (r)) := by
  unfold fX3_draw_152_body
  exact zpc_if (fun _ => zpc_some h) (fun _ => zpc_ck (zpc_ck (zpc_ck (zpc_bs (zQ.wi h rfl) (fun σ1 hσ1 => zpc_bv (fun v2 _ => hk152 _ _ _ hσ1))))))
theorem fd_fX3_draw_152 {σ0 : zSt} : ∀ (n : Nat) (y0 : zSt) (y1 : Int32) (y2 : Int32), (zQ [25, 27, 28, 29, 3] [(23, 15, 15)] [] []) σ0 y0 → zpc (fX3_draw_152 n y0 y1 y2) (fun r => (zQ [25, 27, 28, 29, 3] [(23, 15, 15)] [] []) σ0 (r)) := by
  intro n
  induction n with
  | zero => intro y0 y1 y2 h; exact zpc_none
  | succ n ih => intro y0 y1 y2 h; exact fd_fX3_draw_152_body ih h
theorem fd_fX3_draw_144 {σ0 : zSt} {σ : zSt} {x1 : Int32} {x2 : Int32} (h : (zQ [25, 27, 28, 29, 3] [(23, 15, 15)] [] []) σ0 σ) : zpc (fX3_draw_144 σ x1 x2) (fun r => (zQ [25, 27, 28, 29, 3] [(23, 15, 15)] [] []) σ0 (r)) := by
  unfold fX3_draw_144
  exact zpc_bu (fd_fX3_mixColours h) (fun σ3 hσ3 => fd_fX3_draw_152 _ _ _ _ hσ3)
theorem fd_fX3_draw_139 {σ0 : zSt} {σ : zSt} {x1 : Int32} {x2 : Int32} {x3 : Int32} (h : (zQ [25, 27, 28, 29, 3] [(23, 15, 15)] [] []) σ0 σ) : zpc (fX3_draw_139 σ x1 x2 x3) (fun r => (zQ [25, 27, 28, 29, 3] [(23, 15, 15)] [] []) σ0 (r)) := by
  unfold fX3_draw_139
  exact zpc_bu (fd_fX3_fillBack h) (fun σ4 hσ4 => fd_fX3_draw_144 hσ4)
theorem fd_fX3_draw_41 {σ0 : zSt} {σ : zSt} {x1 : Int32} {x2 : Int32} {s0 : Int32} (h : (zQ [25, 27, 28, 29, 3] [(23, 15, 15)] [] []) σ0 σ) : zpc (fX3_draw_41 σ x1 x2 s0) (fun r => (zQ [25, 27, 28, 29, 3] [(23, 15, 15)] [] []) σ0 (r)) := by
  unfold fX3_draw_41
  exact zpc_bi (fd_fX9_held h) (fun σ5 v6 hσ5 => zpc_bv (fun v7 _ => zpc_bi (fd_fX9_held hσ5) (fun σ8 v9 hσ8 => zpc_if (fun _ => zpc_bu (fd_fJ7_fill_53178_k27 hσ8) (fun σ17 hσ17 => fd_fX3_draw_144 hσ17)) (fun _ => zpc_if (fun _ => zpc_bu (fd_fX3_drawTiles hσ8) (fun σ12 hσ12 => zpc_bu (fd_fX3_drawSprites hσ12) (fun σ13 hσ13 => zpc_bi (fd_fX9_held hσ13) (fun σ14 v15 hσ14 => zpc_if (fun _ => fd_fX3_draw_144 hσ14) (fun _ => zpc_bu (fd_fJ7_fill_fda19_k27 hσ14) (fun σ16 hσ16 => fd_fX3_draw_144 hσ16)))))) (fun _ => zpc_bu (fd_fX3_drawOld hσ8) (fun σ10 hσ10 => zpc_if (fun _ => fd_fX3_draw_139 hσ10) (fun _ => zpc_bu (fd_fX3_drawOldSprites hσ10) (fun σ11 hσ11 => fd_fX3_draw_139 hσ11))))))))
theorem fd_fX3_draw {σ0 : zSt} {σ : zSt} (h : (zQ [25, 27, 28, 29, 3] [(23, 15, 15)] [] []) σ0 σ) : zpc (fX3_draw σ) (fun r => (zQ [25, 27, 28, 29, 3] [(23, 15, 15)] [] []) σ0 (r)) := by
  unfold fX3_draw
  exact zpc_bi (fd_fX9_held h) (fun σ18 v19 hσ18 => zpc_if (fun _ => fd_fX3_draw_21 hσ18) (fun _ => zpc_if (fun _ => zpc_bi (fd_fX9_mode hσ18) (fun σ20 v21 hσ20 => zpc_if (fun _ => fd_fX3_draw_41 hσ20) (fun _ => fd_fX3_draw_41 hσ20))) (fun _ => fd_fX3_draw_21 hσ18)))
end ZJN4
section ZJN5
theorem fp_fX7_moveTone_57 {σ0 : zSt} {σ : zSt} {x1 : Int32} {x2 : Int32} (h : (zQ [30, 32, 5, 11, 12] [] [5, 46, 48] [(38, 0, 1), (38, 3, 6)]) σ0 σ) : zpc (fX7_moveTone_57 σ x1 x2) (fun r => (zQ [30, 32, 5, 11, 12] [] [5, 46, 48] [(38, 0, 1), (38, 3, 6)]) σ0 (r)) := by
  unfold fX7_moveTone_57
  exact zpc_ck (zpc_bs (zQ.wi h rfl) (fun σ1 hσ1 => zpc_some hσ1))
theorem fp_fX7_moveTone_56 {σ0 : zSt} {σ : zSt} {x1 : Int32} {x2 : Int32} {s0 : Int32} {s1 : Int32} (h : (zQ [30, 32, 5, 11, 12] [] [5, 46, 48] [(38, 0, 1), (38, 3, 6)]) σ0 σ) : zpc (fX7_moveTone_56 σ x1 x2 s0 s1) (fun r => (zQ [30, 32, 5, 11, 12] [] [5, 46, 48] [(38, 0, 1), (38, 3, 6)]) σ0 (r)) := by
  unfold fX7_moveTone_56
  exact zpc_ck (zpc_bs (zQ.wi h rfl) (fun σ2 hσ2 => fp_fX7_moveTone_57 hσ2))
theorem fp_fX7_moveTone {σ0 : zSt} {σ : zSt} {x1 : Int32} (h : (zQ [30, 32, 5, 11, 12] [] [5, 46, 48] [(38, 0, 1), (38, 3, 6)]) σ0 σ) : zpc (fX7_moveTone σ x1) (fun r => (zQ [30, 32, 5, 11, 12] [] [5, 46, 48] [(38, 0, 1), (38, 3, 6)]) σ0 (r)) := by
  unfold fX7_moveTone
  exact zpc_ck (zpc_bv (fun v3 _ => zpc_if (fun _ => zpc_ck (zpc_bv (fun v4 _ => zpc_if (fun _ => zpc_ck (fp_fX7_moveTone_56 h)) (fun _ => fp_fX7_moveTone_56 h)))) (fun _ => fp_fX7_moveTone_57 h)))
theorem fp_fX7_moveNoise_136 {σ0 : zSt} {σ : zSt} (h : (zQ [30, 32, 5, 11, 12] [] [5, 46, 48] [(38, 0, 1), (38, 3, 6)]) σ0 σ) : zpc (fX7_moveNoise_136 σ) (fun r => (zQ [30, 32, 5, 11, 12] [] [5, 46, 48] [(38, 0, 1), (38, 3, 6)]) σ0 (r)) := by
  unfold fX7_moveNoise_136
  exact zpc_some h
theorem fp_fX7_moveNoise_120 {σ0 : zSt} {σ : zSt} {x2 : Int32} {s0 : Int32} (h : (zQ [30, 32, 5, 11, 12] [] [5, 46, 48] [(38, 0, 1), (38, 3, 6)]) σ0 σ) : zpc (fX7_moveNoise_120 σ x2 s0) (fun r => (zQ [30, 32, 5, 11, 12] [] [5, 46, 48] [(38, 0, 1), (38, 3, 6)]) σ0 (r)) := by
  unfold fX7_moveNoise_120
  exact zpc_ck (zpc_bs (zQ.wi h rfl) (fun σ1 hσ1 => fp_fX7_moveNoise_136 hσ1))
theorem fp_fX7_moveNoise_65 {σ0 : zSt} {σ : zSt} {s0 : Int32} {s1 : Int32} (h : (zQ [30, 32, 5, 11, 12] [] [5, 46, 48] [(38, 0, 1), (38, 3, 6)]) σ0 σ) : zpc (fX7_moveNoise_65 σ s0 s1) (fun r => (zQ [30, 32, 5, 11, 12] [] [5, 46, 48] [(38, 0, 1), (38, 3, 6)]) σ0 (r)) := by
  unfold fX7_moveNoise_65
  exact zpc_ck (zpc_bs (zQ.wi h rfl) (fun σ2 hσ2 => zpc_ck (zpc_ck (zpc_bs (zQ.wi hσ2 rfl) (fun σ3 hσ3 => zpc_ck (zpc_if (fun _ => zpc_ck (zpc_bv (fun v4 _ => zpc_ck (zpc_if (fun _ => fp_fX7_moveNoise_120 hσ3) (fun _ => fp_fX7_moveNoise_120 hσ3))))) (fun _ => fp_fX7_moveNoise_136 hσ3)))))))
theorem fp_fX7_moveNoise {σ0 : zSt} {σ : zSt} (h : (zQ [30, 32, 5, 11, 12] [] [5, 46, 48] [(38, 0, 1), (38, 3, 6)]) σ0 σ) : zpc (fX7_moveNoise σ) (fun r => (zQ [30, 32, 5, 11, 12] [] [5, 46, 48] [(38, 0, 1), (38, 3, 6)]) σ0 (r)) := by
  unfold fX7_moveNoise
  exact zpc_ck (zpc_ck (zpc_bs (zQ.wi h rfl) (fun σ5 hσ5 => zpc_ck (zpc_if (fun _ => zpc_ck (zpc_bv (fun v6 _ => zpc_if (fun _ => zpc_ck (fp_fX7_moveNoise_65 hσ5)) (fun _ => fp_fX7_moveNoise_65 hσ5)))) (fun _ => zpc_some hσ5)))))
theorem fp_fX7_nextSample_87 {σ0 : zSt} {k28 : zSt → Int32 → Int32 → Int32 → Option (zSt × Int32)} (hk28 : ∀ (y0 : zSt) (y1 : Int32) (y2 : Int32) (y3 : Int32), (zQ [30, 32, 5, 11, 12] [] [5, 46, 48] [(38, 0, 1), (38, 3, 6)]) σ0 y0 → zpc (k28 y0 y1 y2 y3) (fun r => (zQ [30, 32, 5, 11, 12] [] [5, 46, 48] [(38, 0, 1), (38, 3, 6)]) σ0 (r.1))) {σ : zSt} {x1 : Int32} {x2 : Int32} {x3 : Int32} {s0 : Int32} (h : (zQ [30, 32, 5, 11, 12] [] [5, 46, 48] [(38, 0, 1), (38, 3, 6)]) σ0 σ) : zpc (fX7_nextSample_87 k28 σ x1 x2 x3 s0) (fun r => (zQ [30, 32, 5, 11, 12] [] [5, 46, 48] [(38, 0, 1), (38, 3, 6)]) σ0 (r.1)) := by
  unfold fX7_nextSample_87
  exact zpc_ck (zpc_bv (fun v1 _ => zpc_ck (zpc_bv (fun v2 _ => zpc_bv (fun v3 _ => hk28 _ _ _ _ h)))))
theorem fp_fX7_nextSample_59 {σ0 : zSt} {k28 : zSt → Int32 → Int32 → Int32 → Option (zSt × Int32)} (hk28 : ∀ (y0 : zSt) (y1 : Int32) (y2 : Int32) (y3 : Int32), (zQ [30, 32, 5, 11, 12] [] [5, 46, 48] [(38, 0, 1), (38, 3, 6)]) σ0 y0 → zpc (k28 y0 y1 y2 y3) (fun r => (zQ [30, 32, 5, 11, 12] [] [5, 46, 48] [(38, 0, 1), (38, 3, 6)]) σ0 (r.1))) {σ : zSt} {x1 : Int32} {x2 : Int32} {x3 : Int32} {s0 : Int32} (h : (zQ [30, 32, 5, 11, 12] [] [5, 46, 48] [(38, 0, 1), (38, 3, 6)]) σ0 σ) : zpc (fX7_nextSample_59 k28 σ x1 x2 x3 s0) (fun r => (zQ [30, 32, 5, 11, 12] [] [5, 46, 48] [(38, 0, 1), (38, 3, 6)]) σ0 (r.1)) := by
  unfold fX7_nextSample_59
  exact zpc_if (fun _ => zpc_ck (zpc_ck (fp_fX7_nextSample_87 hk28 h))) (fun _ => fp_fX7_nextSample_87 hk28 h)
theorem fp_fX7_nextSample_28_body {σ0 : zSt} {k28 : zSt → Int32 → Int32 → Int32 → Option (zSt × Int32)} (hk28 : ∀ (y0 : zSt) (y1 : Int32) (y2 : Int32) (y3 : Int32), (zQ [30, 32, 5, 11, 12] [] [5, 46, 48] [(38, 0, 1), (38, 3, 6)]) σ0 y0 → zpc (k28 y0 y1 y2 y3) (fun r => (zQ [30, 32, 5, 11, 12] [] [5, 46, 48] [(38, 0, 1), (38, 3, 6)]) σ0 (r.1))) {σ : zSt} {x1 : Int32} {x2 : Int32} {x3 : Int32} (h : (zQ [30, 32, 5, 11, 12] [] [5, 46, 48] [(38, 0, 1), (38, 3, 6)]) σ0 σ) : zpc (fX7_nextSample_28_body k28 σ x1 x2 x3) (fun r => (zQ [30, 32, 5, 11, 12] [] [5, 46, 48] [(38, 0, 1), (38, 3, 6)]) σ0 (r.1)) := by
  unfold fX7_nextSample_28_body
  exact zpc_if (fun _ => zpc_some h) (fun _ => zpc_if (fun _ => zpc_ck (fp_fX7_nextSample_59 hk28 h)) (fun _ => zpc_ck (fp_fX7_nextSample_59 hk28 h)))
theorem fp_fX7_nextSample_28 {σ0 : zSt} : ∀ (n : Nat) (y0 : zSt) (y1 : Int32) (y2 : Int32) (y3 : Int32), (zQ [30, 32, 5, 11, 12] [] [5, 46, 48] [(38, 0, 1), (38, 3, 6)]) σ0 y0 → zpc (fX7_nextSample_28 n y0 y1 y2 y3) (fun r => (zQ [30, 32, 5, 11, 12] [] [5, 46, 48] [(38, 0, 1), (38, 3, 6)]) σ0 (r.1)) := by
  intro n
  induction n with
  | zero => intro y0 y1 y2 y3 h; exact zpc_none
  | succ n ih => intro y0 y1 y2 y3 h; exact fp_fX7_nextSample_28_body ih h
theorem fp_fX7_nextSample_2_body {σ0 : zSt} {k2 : zSt → Int32 → Option (zSt × Int32)} (hk2 : ∀ (y0 : zSt) (y1 : Int32), (zQ [30, 32, 5, 11, 12] [] [5, 46, 48] [(38, 0, 1), (38, 3, 6)]) σ0 y0 → zpc (k2 y0 y1) (fun r => (zQ [30, 32, 5, 11, 12] [] [5, 46, 48] [(38, 0, 1), (38, 3, 6)]) σ0 (r.1))) {σ : zSt} {x1 : Int32} (h : (zQ [30, 32, 5, 11, 12] [] [5, 46, 48] [(38, 0, 1), (38, 3, 6)]) σ0 σ) : zpc (fX7_nextSample_2_body k2 σ x1) (fun r => (zQ [30, 32, 5, 11, 12] [] [5, 46, 48] [(38, 0, 1), (38, 3, 6)]) σ0 (r.1)) := by
  unfold fX7_nextSample_2_body
  exact zpc_if (fun _ => zpc_bu (fp_fX7_moveNoise h) (fun σ4 hσ4 => fp_fX7_nextSample_28 _ _ _ _ _ hσ4)) (fun _ => zpc_bu (fp_fX7_moveTone h) (fun σ5 hσ5 => zpc_bv (fun v6 _ => hk2 _ _ hσ5)))
theorem fp_fX7_nextSample_2 {σ0 : zSt} : ∀ (n : Nat) (y0 : zSt) (y1 : Int32), (zQ [30, 32, 5, 11, 12] [] [5, 46, 48] [(38, 0, 1), (38, 3, 6)]) σ0 y0 → zpc (fX7_nextSample_2 n y0 y1) (fun r => (zQ [30, 32, 5, 11, 12] [] [5, 46, 48] [(38, 0, 1), (38, 3, 6)]) σ0 (r.1)) := by
  intro n
  induction n with
  | zero => intro y0 y1 h; exact zpc_none
  | succ n ih => intro y0 y1 h; exact fp_fX7_nextSample_2_body ih h
theorem fp_fX7_nextSample {σ0 : zSt} {σ : zSt} (h : (zQ [30, 32, 5, 11, 12] [] [5, 46, 48] [(38, 0, 1), (38, 3, 6)]) σ0 σ) : zpc (fX7_nextSample σ) (fun r => (zQ [30, 32, 5, 11, 12] [] [5, 46, 48] [(38, 0, 1), (38, 3, 6)]) σ0 (r.1)) := by
  unfold fX7_nextSample
  exact fp_fX7_nextSample_2 _ _ _ h
theorem fp_fX6_add_k11_56 {σ0 : zSt} {σ : zSt} (h : (zQ [30, 32, 5, 11, 12] [] [5, 46, 48] [(38, 0, 1), (38, 3, 6)]) σ0 σ) : zpc (fX6_add_k11_56 σ) (fun r => (zQ [30, 32, 5, 11, 12] [] [5, 46, 48] [(38, 0, 1), (38, 3, 6)]) σ0 (r)) := by
  unfold fX6_add_k11_56
  exact zpc_some h
theorem fp_fX6_add_k11 {σ0 : zSt} {σ : zSt} {x1 : Int64} (h : (zQ [30, 32, 5, 11, 12] [] [5, 46, 48] [(38, 0, 1), (38, 3, 6)]) σ0 σ) : zpc (fX6_add_k11 σ x1) (fun r => (zQ [30, 32, 5, 11, 12] [] [5, 46, 48] [(38, 0, 1), (38, 3, 6)]) σ0 (r)) := by
  unfold fX6_add_k11
  exact zpc_ck (zpc_bs (zQ.wl h rfl) (fun σ1 hσ1 => zpc_if (fun _ => zpc_bs (zQ.wi hσ1 rfl) (fun σ2 hσ2 => fp_fX6_add_k11_56 hσ2)) (fun _ => zpc_bs (zQ.wi hσ1 rfl) (fun σ3 hσ3 => fp_fX6_add_k11_56 hσ3))))
theorem fp_fX0_addSample {σ0 : zSt} {σ : zSt} (h : (zQ [30, 32, 5, 11, 12] [] [5, 46, 48] [(38, 0, 1), (38, 3, 6)]) σ0 σ) : zpc (fX0_addSample σ) (fun r => (zQ [30, 32, 5, 11, 12] [] [5, 46, 48] [(38, 0, 1), (38, 3, 6)]) σ0 (r)) := by
  unfold fX0_addSample
  exact zpc_bi (fp_fX7_nextSample h) (fun σ1 v2 hσ1 => zpc_bu (fp_fX6_add_k11 hσ1) (fun σ3 hσ3 => zpc_ck (zpc_ck (zpc_bs (zQ.wl hσ3 rfl) (fun σ4 hσ4 => zpc_ck (zpc_ck (zpc_bs (zQ.wl hσ4 rfl) (fun σ5 hσ5 => zpc_ck (zpc_ck (zpc_bs (zQ.wl hσ5 rfl) (fun σ6 hσ6 => zpc_ck (zpc_ck (zpc_bs (zQ.wl hσ6 rfl) (fun σ7 hσ7 => zpc_some hσ7))))))))))))))
theorem fp_fX10_takeOwnPatch_7_body {σ0 : zSt} {k7 : zSt → Int32 → Option (zSt)} (hk7 : ∀ (y0 : zSt) (y1 : Int32), (zQ [30, 32, 5, 11, 12] [] [5, 46, 48] [(38, 0, 1), (38, 3, 6)]) σ0 y0 → zpc (k7 y0 y1) (fun r => (zQ [30, 32, 5, 11, 12] [] [5, 46, 48] [(38, 0, 1), (38, 3, 6)]) σ0 (r))) {σ : zSt} {x1 : Int32} (h : (zQ [30, 32, 5, 11, 12] [] [5, 46, 48] [(38, 0, 1), (38, 3, 6)]) σ0 σ) : zpc (fX10_takeOwnPatch_7_body k7 σ x1) (fun r => (zQ [30, 32, 5, 11, 12] [] [5, 46, 48] [(38, 0, 1), (38, 3, 6)]) σ0 (r)) := by
  unfold fX10_takeOwnPatch_7_body
  exact zpc_if (fun _ => zpc_some h) (fun _ => zpc_ck (zpc_bs (zQ.wl h rfl) (fun σ1 hσ1 => zpc_bv (fun v2 _ => hk7 _ _ hσ1))))
theorem fp_fX10_takeOwnPatch_7 {σ0 : zSt} : ∀ (n : Nat) (y0 : zSt) (y1 : Int32), (zQ [30, 32, 5, 11, 12] [] [5, 46, 48] [(38, 0, 1), (38, 3, 6)]) σ0 y0 → zpc (fX10_takeOwnPatch_7 n y0 y1) (fun r => (zQ [30, 32, 5, 11, 12] [] [5, 46, 48] [(38, 0, 1), (38, 3, 6)]) σ0 (r)) := by
  intro n
  induction n with
  | zero => intro y0 y1 h; exact zpc_none
  | succ n ih => intro y0 y1 h; exact fp_fX10_takeOwnPatch_7_body ih h
theorem fp_fX10_takeOwnPatch {σ0 : zSt} {σ : zSt} (h : (zQ [30, 32, 5, 11, 12] [] [5, 46, 48] [(38, 0, 1), (38, 3, 6)]) σ0 σ) : zpc (fX10_takeOwnPatch σ) (fun r => (zQ [30, 32, 5, 11, 12] [] [5, 46, 48] [(38, 0, 1), (38, 3, 6)]) σ0 (r)) := by
  unfold fX10_takeOwnPatch
  exact zpc_bs (zQ.wl h rfl) (fun σ3 hσ3 => fp_fX10_takeOwnPatch_7 _ _ _ hσ3)
theorem fp_fX10_takeChannel_110 {σ0 : zSt} {σ : zSt} {s0 : Int64} (h : (zQ [30, 32, 5, 11, 12] [] [5, 46, 48] [(38, 0, 1), (38, 3, 6)]) σ0 σ) : zpc (fX10_takeChannel_110 σ s0) (fun r => (zQ [30, 32, 5, 11, 12] [] [5, 46, 48] [(38, 0, 1), (38, 3, 6)]) σ0 (r)) := by
  unfold fX10_takeChannel_110
  exact zpc_bs (zQ.wl h rfl) (fun σ1 hσ1 => zpc_some hσ1)
theorem fp_fX10_takeChannel_106 {σ0 : zSt} {σ : zSt} (h : (zQ [30, 32, 5, 11, 12] [] [5, 46, 48] [(38, 0, 1), (38, 3, 6)]) σ0 σ) : zpc (fX10_takeChannel_106 σ) (fun r => (zQ [30, 32, 5, 11, 12] [] [5, 46, 48] [(38, 0, 1), (38, 3, 6)]) σ0 (r)) := by
  unfold fX10_takeChannel_106
  exact fp_fX10_takeChannel_110 h
theorem fp_fX10_takeChannel_82 {σ0 : zSt} {σ : zSt} {s0 : Int32} (h : (zQ [30, 32, 5, 11, 12] [] [5, 46, 48] [(38, 0, 1), (38, 3, 6)]) σ0 σ) : zpc (fX10_takeChannel_82 σ s0) (fun r => (zQ [30, 32, 5, 11, 12] [] [5, 46, 48] [(38, 0, 1), (38, 3, 6)]) σ0 (r)) := by
  unfold fX10_takeChannel_82
  exact zpc_if (fun _ => fp_fX10_takeChannel_106 h) (fun _ => zpc_if (fun _ => fp_fX10_takeChannel_106 h) (fun _ => zpc_ck (fp_fX10_takeChannel_110 h)))
theorem fp_fX10_takeChannel_71 {σ0 : zSt} {σ : zSt} {x1 : Int32} (h : (zQ [30, 32, 5, 11, 12] [] [5, 46, 48] [(38, 0, 1), (38, 3, 6)]) σ0 σ) : zpc (fX10_takeChannel_71 σ x1) (fun r => (zQ [30, 32, 5, 11, 12] [] [5, 46, 48] [(38, 0, 1), (38, 3, 6)]) σ0 (r)) := by
  unfold fX10_takeChannel_71
  exact zpc_ck (fp_fX10_takeChannel_82 h)
theorem fp_fX10_takeChannel {σ0 : zSt} {σ : zSt} {x1 : Int32} (h : (zQ [30, 32, 5, 11, 12] [] [5, 46, 48] [(38, 0, 1), (38, 3, 6)]) σ0 σ) : zpc (fX10_takeChannel σ x1) (fun r => (zQ [30, 32, 5, 11, 12] [] [5, 46, 48] [(38, 0, 1), (38, 3, 6)]) σ0 (r)) := by
  unfold fX10_takeChannel
  exact zpc_bs (zQ.wi h rfl) (fun σ2 hσ2 => zpc_ck (zpc_ck (zpc_bs (zQ.wi hσ2 rfl) (fun σ3 hσ3 => zpc_ck (zpc_bs (zQ.wi hσ3 rfl) (fun σ4 hσ4 => zpc_if (fun _ => fp_fX10_takeChannel_71 hσ4) (fun _ => zpc_if (fun _ => fp_fX10_takeChannel_71 hσ4) (fun _ => fp_fX10_takeChannel_82 hσ4))))))))
theorem fp_fX10_isOn_131 {σ0 : zSt} {σ : zSt} {s0 : Int32} (h : (zQ [30, 32, 5, 11, 12] [] [5, 46, 48] [(38, 0, 1), (38, 3, 6)]) σ0 σ) : zpc (fX10_isOn_131 σ s0) (fun r => (zQ [30, 32, 5, 11, 12] [] [5, 46, 48] [(38, 0, 1), (38, 3, 6)]) σ0 (r.1)) := by
  unfold fX10_isOn_131
  exact zpc_ck (zpc_some h)
theorem fp_fX10_isOn_122 {σ0 : zSt} {σ : zSt} {s0 : Int32} {s1 : Int32} (h : (zQ [30, 32, 5, 11, 12] [] [5, 46, 48] [(38, 0, 1), (38, 3, 6)]) σ0 σ) : zpc (fX10_isOn_122 σ s0 s1) (fun r => (zQ [30, 32, 5, 11, 12] [] [5, 46, 48] [(38, 0, 1), (38, 3, 6)]) σ0 (r.1)) := by
  unfold fX10_isOn_122
  exact zpc_if (fun _ => fp_fX10_isOn_131 h) (fun _ => fp_fX10_isOn_131 h)
theorem fp_fX10_isOn_105 {σ0 : zSt} {σ : zSt} {s0 : Int32} (h : (zQ [30, 32, 5, 11, 12] [] [5, 46, 48] [(38, 0, 1), (38, 3, 6)]) σ0 σ) : zpc (fX10_isOn_105 σ s0) (fun r => (zQ [30, 32, 5, 11, 12] [] [5, 46, 48] [(38, 0, 1), (38, 3, 6)]) σ0 (r.1)) := by
  unfold fX10_isOn_105
  exact zpc_ck (zpc_some h)
theorem fp_fX10_isOn_96 {σ0 : zSt} {σ : zSt} {s0 : Int32} {s1 : Int32} (h : (zQ [30, 32, 5, 11, 12] [] [5, 46, 48] [(38, 0, 1), (38, 3, 6)]) σ0 σ) : zpc (fX10_isOn_96 σ s0 s1) (fun r => (zQ [30, 32, 5, 11, 12] [] [5, 46, 48] [(38, 0, 1), (38, 3, 6)]) σ0 (r.1)) := by
  unfold fX10_isOn_96
  exact zpc_if (fun _ => fp_fX10_isOn_105 h) (fun _ => fp_fX10_isOn_105 h)
theorem fp_fX10_isOn_78 {σ0 : zSt} {σ : zSt} {s0 : Int32} (h : (zQ [30, 32, 5, 11, 12] [] [5, 46, 48] [(38, 0, 1), (38, 3, 6)]) σ0 σ) : zpc (fX10_isOn_78 σ s0) (fun r => (zQ [30, 32, 5, 11, 12] [] [5, 46, 48] [(38, 0, 1), (38, 3, 6)]) σ0 (r.1)) := by
  unfold fX10_isOn_78
  exact zpc_ck (zpc_some h)
theorem fp_fX10_isOn {σ0 : zSt} {σ : zSt} {x1 : Int32} (h : (zQ [30, 32, 5, 11, 12] [] [5, 46, 48] [(38, 0, 1), (38, 3, 6)]) σ0 σ) : zpc (fX10_isOn σ x1) (fun r => (zQ [30, 32, 5, 11, 12] [] [5, 46, 48] [(38, 0, 1), (38, 3, 6)]) σ0 (r.1)) := by
  unfold fX10_isOn
  exact zpc_ck (zpc_if (fun _ => zpc_if (fun _ => zpc_ck (zpc_some h)) (fun _ => zpc_if (fun _ => zpc_ck (zpc_if (fun _ => fp_fX10_isOn_78 h) (fun _ => fp_fX10_isOn_78 h))) (fun _ => zpc_if (fun _ => zpc_ck (zpc_if (fun _ => fp_fX10_isOn_96 h) (fun _ => fp_fX10_isOn_96 h))) (fun _ => zpc_if (fun _ => zpc_ck (zpc_if (fun _ => fp_fX10_isOn_122 h) (fun _ => fp_fX10_isOn_122 h))) (fun _ => zpc_ck (zpc_some h)))))) (fun _ => zpc_ck (zpc_some h)))
theorem fp_fX10_part {σ0 : zSt} {σ : zSt} {x1 : Int32} (h : (zQ [30, 32, 5, 11, 12] [] [5, 46, 48] [(38, 0, 1), (38, 3, 6)]) σ0 σ) : zpc (fX10_part σ x1) (fun r => (zQ [30, 32, 5, 11, 12] [] [5, 46, 48] [(38, 0, 1), (38, 3, 6)]) σ0 (r.1)) := by
  unfold fX10_part
  exact zpc_some h
theorem fp_fX10_rateIn_126 {σ0 : zSt} {σ : zSt} {s0 : Int32} (h : (zQ [30, 32, 5, 11, 12] [] [5, 46, 48] [(38, 0, 1), (38, 3, 6)]) σ0 σ) : zpc (fX10_rateIn_126 σ s0) (fun r => (zQ [30, 32, 5, 11, 12] [] [5, 46, 48] [(38, 0, 1), (38, 3, 6)]) σ0 (r.1)) := by
  unfold fX10_rateIn_126
  exact zpc_some h
theorem fp_fX10_rateIn_94 {σ0 : zSt} {σ : zSt} {s0 : Int32} (h : (zQ [30, 32, 5, 11, 12] [] [5, 46, 48] [(38, 0, 1), (38, 3, 6)]) σ0 σ) : zpc (fX10_rateIn_94 σ s0) (fun r => (zQ [30, 32, 5, 11, 12] [] [5, 46, 48] [(38, 0, 1), (38, 3, 6)]) σ0 (r.1)) := by
  unfold fX10_rateIn_94
  exact zpc_some h
theorem fp_fX10_rateIn_16 {σ0 : zSt} {σ : zSt} {x1 : Int32} {x2 : Int32} {s0 : Int32} (h : (zQ [30, 32, 5, 11, 12] [] [5, 46, 48] [(38, 0, 1), (38, 3, 6)]) σ0 σ) : zpc (fX10_rateIn_16 σ x1 x2 s0) (fun r => (zQ [30, 32, 5, 11, 12] [] [5, 46, 48] [(38, 0, 1), (38, 3, 6)]) σ0 (r.1)) := by
  unfold fX10_rateIn_16
  exact zpc_bi (fp_fX10_part h) (fun σ1 v2 hσ1 => zpc_bv (fun v3 _ => zpc_if (fun _ => zpc_some hσ1) (fun _ => zpc_if (fun _ => zpc_bi (fp_fX10_part hσ1) (fun σ4 v5 hσ4 => zpc_some hσ4)) (fun _ => zpc_if (fun _ => zpc_bi (fp_fX10_part hσ1) (fun σ6 v7 hσ6 => zpc_some hσ6)) (fun _ => zpc_if (fun _ => zpc_if (fun _ => fp_fX10_rateIn_94 hσ1) (fun _ => fp_fX10_rateIn_94 hσ1)) (fun _ => zpc_ck (zpc_if (fun _ => zpc_if (fun _ => fp_fX10_rateIn_126 hσ1) (fun _ => fp_fX10_rateIn_126 hσ1)) (fun _ => zpc_some hσ1))))))))
theorem fp_fX10_rateIn {σ0 : zSt} {σ : zSt} {x1 : Int32} {x2 : Int32} (h : (zQ [30, 32, 5, 11, 12] [] [5, 46, 48] [(38, 0, 1), (38, 3, 6)]) σ0 σ) : zpc (fX10_rateIn σ x1 x2) (fun r => (zQ [30, 32, 5, 11, 12] [] [5, 46, 48] [(38, 0, 1), (38, 3, 6)]) σ0 (r.1)) := by
  unfold fX10_rateIn
  exact zpc_bi (fp_fX10_part h) (fun σ8 v9 hσ8 => zpc_if (fun _ => fp_fX10_rateIn_16 hσ8) (fun _ => fp_fX10_rateIn_16 hσ8))
theorem fp_fX10_slowTick {σ0 : zSt} {σ : zSt} (h : (zQ [30, 32, 5, 11, 12] [] [5, 46, 48] [(38, 0, 1), (38, 3, 6)]) σ0 σ) : zpc (fX10_slowTick σ) (fun r => (zQ [30, 32, 5, 11, 12] [] [5, 46, 48] [(38, 0, 1), (38, 3, 6)]) σ0 (r.1)) := by
  unfold fX10_slowTick
  exact zpc_ck (zpc_some h)
theorem fp_fX10_tickAt_53 {σ0 : zSt} {σ : zSt} {s0 : Int32} (h : (zQ [30, 32, 5, 11, 12] [] [5, 46, 48] [(38, 0, 1), (38, 3, 6)]) σ0 σ) : zpc (fX10_tickAt_53 σ s0) (fun r => (zQ [30, 32, 5, 11, 12] [] [5, 46, 48] [(38, 0, 1), (38, 3, 6)]) σ0 (r.1)) := by
  unfold fX10_tickAt_53
  exact zpc_some h
theorem fp_fX10_tickAt_26 {σ0 : zSt} {σ : zSt} {x2 : Int32} {x3 : Int32} {s0 : Int32} (h : (zQ [30, 32, 5, 11, 12] [] [5, 46, 48] [(38, 0, 1), (38, 3, 6)]) σ0 σ) : zpc (fX10_tickAt_26 σ x2 x3 s0) (fun r => (zQ [30, 32, 5, 11, 12] [] [5, 46, 48] [(38, 0, 1), (38, 3, 6)]) σ0 (r.1)) := by
  unfold fX10_tickAt_26
  exact zpc_if (fun _ => fp_fX10_tickAt_53 h) (fun _ => zpc_ck (fp_fX10_tickAt_53 h))
theorem fp_fX10_tickAt {σ0 : zSt} {σ : zSt} {x1 : Int32} {x2 : Int32} (h : (zQ [30, 32, 5, 11, 12] [] [5, 46, 48] [(38, 0, 1), (38, 3, 6)]) σ0 σ) : zpc (fX10_tickAt σ x1 x2) (fun r => (zQ [30, 32, 5, 11, 12] [] [5, 46, 48] [(38, 0, 1), (38, 3, 6)]) σ0 (r.1)) := by
  unfold fX10_tickAt
  exact zpc_bv (fun v1 _ => zpc_ck (zpc_if (fun _ => fp_fX10_tickAt_26 h) (fun _ => fp_fX10_tickAt_26 h)))
theorem fp_fX10_louder_56 {σ0 : zSt} {σ : zSt} {s0 : Int32} (h : (zQ [30, 32, 5, 11, 12] [] [5, 46, 48] [(38, 0, 1), (38, 3, 6)]) σ0 σ) : zpc (fX10_louder_56 σ s0) (fun r => (zQ [30, 32, 5, 11, 12] [] [5, 46, 48] [(38, 0, 1), (38, 3, 6)]) σ0 (r.1)) := by
  unfold fX10_louder_56
  exact zpc_some h
theorem fp_fX10_louder {σ0 : zSt} {σ : zSt} {x1 : Int32} {x2 : Int32} {x3 : Int32} (h : (zQ [30, 32, 5, 11, 12] [] [5, 46, 48] [(38, 0, 1), (38, 3, 6)]) σ0 σ) : zpc (fX10_louder σ x1 x2 x3) (fun r => (zQ [30, 32, 5, 11, 12] [] [5, 46, 48] [(38, 0, 1), (38, 3, 6)]) σ0 (r.1)) := by
  unfold fX10_louder
  exact zpc_if (fun _ => zpc_some h) (fun _ => zpc_if (fun _ => zpc_bi (fp_fX10_tickAt h) (fun σ1 v2 hσ1 => zpc_if (fun _ => zpc_ck (fp_fX10_louder_56 hσ1)) (fun _ => fp_fX10_louder_56 hσ1))) (fun _ => zpc_bi (fp_fX10_slowTick h) (fun σ3 v4 hσ3 => zpc_some hσ3)))
theorem fp_fX10_softer {σ0 : zSt} {σ : zSt} {x1 : Int32} {x2 : Int32} (h : (zQ [30, 32, 5, 11, 12] [] [5, 46, 48] [(38, 0, 1), (38, 3, 6)]) σ0 σ) : zpc (fX10_softer σ x1 x2) (fun r => (zQ [30, 32, 5, 11, 12] [] [5, 46, 48] [(38, 0, 1), (38, 3, 6)]) σ0 (r.1)) := by
  unfold fX10_softer
  exact zpc_if (fun _ => zpc_bi (fp_fX10_slowTick h) (fun σ1 v2 hσ1 => zpc_ck (zpc_some hσ1))) (fun _ => zpc_if (fun _ => zpc_bi (fp_fX10_slowTick h) (fun σ3 v4 hσ3 => zpc_some hσ3)) (fun _ => zpc_if (fun _ => zpc_some h) (fun _ => zpc_bi (fp_fX10_tickAt h) (fun σ5 v6 hσ5 => zpc_some hσ5))))
theorem fp_fX10_moveLevel_148 {σ0 : zSt} {σ : zSt} (h : (zQ [30, 32, 5, 11, 12] [] [5, 46, 48] [(38, 0, 1), (38, 3, 6)]) σ0 σ) : zpc (fX10_moveLevel_148 σ) (fun r => (zQ [30, 32, 5, 11, 12] [] [5, 46, 48] [(38, 0, 1), (38, 3, 6)]) σ0 (r)) := by
  unfold fX10_moveLevel_148
  exact zpc_some h
theorem fp_fX10_moveLevel_52 {σ0 : zSt} {σ : zSt} {x1 : Int32} {x3 : Int32} {x4 : Int32} (h : (zQ [30, 32, 5, 11, 12] [] [5, 46, 48] [(38, 0, 1), (38, 3, 6)]) σ0 σ) : zpc (fX10_moveLevel_52 σ x1 x3 x4) (fun r => (zQ [30, 32, 5, 11, 12] [] [5, 46, 48] [(38, 0, 1), (38, 3, 6)]) σ0 (r)) := by
  unfold fX10_moveLevel_52
  exact zpc_ck (zpc_bv (fun v1 _ => zpc_ck (zpc_bv (fun v2 _ => zpc_ck (zpc_if (fun _ => zpc_ck (zpc_bi (fp_fX10_louder h) (fun σ6 v7 hσ6 => zpc_ck (zpc_bs (zQ.wi hσ6 rfl) (fun σ8 hσ8 => fp_fX10_moveLevel_148 hσ8))))) (fun _ => zpc_ck (zpc_bi (fp_fX10_softer h) (fun σ3 v4 hσ3 => zpc_ck (zpc_bs (zQ.wi hσ3 rfl) (fun σ5 hσ5 => fp_fX10_moveLevel_148 hσ5))))))))))
theorem fp_fX10_moveLevel {σ0 : zSt} {σ : zSt} {x1 : Int32} {x2 : Int32} (h : (zQ [30, 32, 5, 11, 12] [] [5, 46, 48] [(38, 0, 1), (38, 3, 6)]) σ0 σ) : zpc (fX10_moveLevel σ x1 x2) (fun r => (zQ [30, 32, 5, 11, 12] [] [5, 46, 48] [(38, 0, 1), (38, 3, 6)]) σ0 (r)) := by
  unfold fX10_moveLevel
  exact zpc_ck (zpc_bi (fp_fX10_rateIn h) (fun σ9 v10 hσ9 => zpc_if (fun _ => zpc_some hσ9) (fun _ => zpc_bv (fun v11 _ => zpc_bi (fp_fX10_part hσ9) (fun σ12 v13 hσ12 => zpc_if (fun _ => zpc_ck (zpc_bv (fun v14 _ => fp_fX10_moveLevel_52 hσ12))) (fun _ => fp_fX10_moveLevel_52 hσ12))))))
theorem fp_fX10_moveState_96 {σ0 : zSt} {σ : zSt} (h : (zQ [30, 32, 5, 11, 12] [] [5, 46, 48] [(38, 0, 1), (38, 3, 6)]) σ0 σ) : zpc (fX10_moveState_96 σ) (fun r => (zQ [30, 32, 5, 11, 12] [] [5, 46, 48] [(38, 0, 1), (38, 3, 6)]) σ0 (r)) := by
  unfold fX10_moveState_96
  exact zpc_some h
theorem fp_fX10_moveState_73 {σ0 : zSt} {σ : zSt} {x1 : Int32} {x2 : Int32} {x3 : Int32} {x4 : Int32} (h : (zQ [30, 32, 5, 11, 12] [] [5, 46, 48] [(38, 0, 1), (38, 3, 6)]) σ0 σ) : zpc (fX10_moveState_73 σ x1 x2 x3 x4) (fun r => (zQ [30, 32, 5, 11, 12] [] [5, 46, 48] [(38, 0, 1), (38, 3, 6)]) σ0 (r)) := by
  unfold fX10_moveState_73
  exact zpc_if (fun _ => zpc_ck (zpc_if (fun _ => fp_fX10_moveState_96 h) (fun _ => zpc_ck (zpc_bs (zQ.wi h rfl) (fun σ1 hσ1 => fp_fX10_moveState_96 hσ1))))) (fun _ => fp_fX10_moveState_96 h)
theorem fp_fX10_moveState_51 {σ0 : zSt} {σ : zSt} {x1 : Int32} {x2 : Int32} {x3 : Int32} {x4 : Int32} (h : (zQ [30, 32, 5, 11, 12] [] [5, 46, 48] [(38, 0, 1), (38, 3, 6)]) σ0 σ) : zpc (fX10_moveState_51 σ x1 x2 x3 x4) (fun r => (zQ [30, 32, 5, 11, 12] [] [5, 46, 48] [(38, 0, 1), (38, 3, 6)]) σ0 (r)) := by
  unfold fX10_moveState_51
  exact zpc_if (fun _ => zpc_if (fun _ => zpc_ck (zpc_bs (zQ.wi h rfl) (fun σ2 hσ2 => fp_fX10_moveState_96 hσ2))) (fun _ => fp_fX10_moveState_73 h)) (fun _ => fp_fX10_moveState_73 h)
theorem fp_fX10_moveState {σ0 : zSt} {σ : zSt} {x1 : Int32} {x2 : Int32} (h : (zQ [30, 32, 5, 11, 12] [] [5, 46, 48] [(38, 0, 1), (38, 3, 6)]) σ0 σ) : zpc (fX10_moveState σ x1 x2) (fun r => (zQ [30, 32, 5, 11, 12] [] [5, 46, 48] [(38, 0, 1), (38, 3, 6)]) σ0 (r)) := by
  unfold fX10_moveState
  exact zpc_ck (zpc_bv (fun v3 _ => zpc_ck (zpc_bv (fun v4 _ => zpc_if (fun _ => zpc_if (fun _ => fp_fX10_moveState_51 h) (fun _ => zpc_ck (zpc_bs (zQ.wi h rfl) (fun σ5 hσ5 => zpc_ck (zpc_bs (zQ.wi hσ5 rfl) (fun σ6 hσ6 => fp_fX10_moveState_96 hσ6)))))) (fun _ => fp_fX10_moveState_51 h)))))
theorem fp_fX10_sway_56 {σ0 : zSt} {σ : zSt} {x1 : Int32} (h : (zQ [30, 32, 5, 11, 12] [] [5, 46, 48] [(38, 0, 1), (38, 3, 6)]) σ0 σ) : zpc (fX10_sway_56 σ x1) (fun r => (zQ [30, 32, 5, 11, 12] [] [5, 46, 48] [(38, 0, 1), (38, 3, 6)]) σ0 (r.1)) := by
  unfold fX10_sway_56
  exact zpc_ck (zpc_some h)
theorem fp_fX10_sway_70 {σ0 : zSt} {σ : zSt} (h : (zQ [30, 32, 5, 11, 12] [] [5, 46, 48] [(38, 0, 1), (38, 3, 6)]) σ0 σ) : zpc (fX10_sway_70 σ) (fun r => (zQ [30, 32, 5, 11, 12] [] [5, 46, 48] [(38, 0, 1), (38, 3, 6)]) σ0 (r.1)) := by
  unfold fX10_sway_70
  exact zpc_some h
theorem fp_fX10_sway_62 {σ0 : zSt} {σ : zSt} {x1 : Int32} (h : (zQ [30, 32, 5, 11, 12] [] [5, 46, 48] [(38, 0, 1), (38, 3, 6)]) σ0 σ) : zpc (fX10_sway_62 σ x1) (fun r => (zQ [30, 32, 5, 11, 12] [] [5, 46, 48] [(38, 0, 1), (38, 3, 6)]) σ0 (r.1)) := by
  unfold fX10_sway_62
  exact zpc_ck (zpc_some h)
theorem fp_fX10_sway {σ0 : zSt} {σ : zSt} {x1 : Int32} (h : (zQ [30, 32, 5, 11, 12] [] [5, 46, 48] [(38, 0, 1), (38, 3, 6)]) σ0 σ) : zpc (fX10_sway σ x1) (fun r => (zQ [30, 32, 5, 11, 12] [] [5, 46, 48] [(38, 0, 1), (38, 3, 6)]) σ0 (r.1)) := by
  unfold fX10_sway
  exact zpc_ck (zpc_if (fun _ => fp_fX10_sway_56 h) (fun _ => zpc_if (fun _ => zpc_some h) (fun _ => zpc_if (fun _ => fp_fX10_sway_56 h) (fun _ => zpc_if (fun _ => fp_fX10_sway_70 h) (fun _ => zpc_if (fun _ => fp_fX10_sway_62 h) (fun _ => zpc_if (fun _ => zpc_some h) (fun _ => zpc_if (fun _ => fp_fX10_sway_62 h) (fun _ => fp_fX10_sway_70 h))))))))
theorem fp_fX10_movePhase_22 {σ0 : zSt} {σ : zSt} {x1 : Int32} {x2 : Int32} {s0 : Int32} (h : (zQ [30, 32, 5, 11, 12] [] [5, 46, 48] [(38, 0, 1), (38, 3, 6)]) σ0 σ) : zpc (fX10_movePhase_22 σ x1 x2 s0) (fun r => (zQ [30, 32, 5, 11, 12] [] [5, 46, 48] [(38, 0, 1), (38, 3, 6)]) σ0 (r)) := by
  unfold fX10_movePhase_22
  exact zpc_ck (zpc_ck (zpc_bv (fun v1 _ => zpc_ck (zpc_ck (zpc_bs (zQ.wi h rfl) (fun σ2 hσ2 => zpc_some hσ2))))))
theorem fp_fX10_movePhase {σ0 : zSt} {σ : zSt} {x1 : Int32} {x2 : Int32} (h : (zQ [30, 32, 5, 11, 12] [] [5, 46, 48] [(38, 0, 1), (38, 3, 6)]) σ0 σ) : zpc (fX10_movePhase σ x1 x2) (fun r => (zQ [30, 32, 5, 11, 12] [] [5, 46, 48] [(38, 0, 1), (38, 3, 6)]) σ0 (r)) := by
  unfold fX10_movePhase
  exact zpc_if (fun _ => fp_fX10_movePhase_22 h) (fun _ => zpc_ck (zpc_bi (fp_fX10_sway h) (fun σ3 v4 hσ3 => fp_fX10_movePhase_22 hσ3)))
theorem fp_fX10_drumPhase_115 {σ0 : zSt} {σ : zSt} {s0 : Int32} (h : (zQ [30, 32, 5, 11, 12] [] [5, 46, 48] [(38, 0, 1), (38, 3, 6)]) σ0 σ) : zpc (fX10_drumPhase_115 σ s0) (fun r => (zQ [30, 32, 5, 11, 12] [] [5, 46, 48] [(38, 0, 1), (38, 3, 6)]) σ0 (r.1)) := by
  unfold fX10_drumPhase_115
  exact zpc_some h
theorem fp_fX10_drumPhase_155 {σ0 : zSt} {σ : zSt} {s0 : Int32} (h : (zQ [30, 32, 5, 11, 12] [] [5, 46, 48] [(38, 0, 1), (38, 3, 6)]) σ0 σ) : zpc (fX10_drumPhase_155 σ s0) (fun r => (zQ [30, 32, 5, 11, 12] [] [5, 46, 48] [(38, 0, 1), (38, 3, 6)]) σ0 (r.1)) := by
  unfold fX10_drumPhase_155
  exact zpc_some h
theorem fp_fX10_drumPhase_193 {σ0 : zSt} {σ : zSt} {s0 : Int32} (h : (zQ [30, 32, 5, 11, 12] [] [5, 46, 48] [(38, 0, 1), (38, 3, 6)]) σ0 σ) : zpc (fX10_drumPhase_193 σ s0) (fun r => (zQ [30, 32, 5, 11, 12] [] [5, 46, 48] [(38, 0, 1), (38, 3, 6)]) σ0 (r.1)) := by
  unfold fX10_drumPhase_193
  exact zpc_some h
theorem fp_fX10_drumPhase_82 {σ0 : zSt} {σ : zSt} {x1 : Int32} {x2 : Int32} {x5 : Int32} {s0 : Int32} (h : (zQ [30, 32, 5, 11, 12] [] [5, 46, 48] [(38, 0, 1), (38, 3, 6)]) σ0 σ) : zpc (fX10_drumPhase_82 σ x1 x2 x5 s0) (fun r => (zQ [30, 32, 5, 11, 12] [] [5, 46, 48] [(38, 0, 1), (38, 3, 6)]) σ0 (r.1)) := by
  unfold fX10_drumPhase_82
  exact zpc_if (fun _ => zpc_if (fun _ => fp_fX10_drumPhase_115 h) (fun _ => zpc_if (fun _ => fp_fX10_drumPhase_115 h) (fun _ => fp_fX10_drumPhase_115 h))) (fun _ => zpc_if (fun _ => zpc_if (fun _ => zpc_if (fun _ => fp_fX10_drumPhase_155 h) (fun _ => fp_fX10_drumPhase_155 h)) (fun _ => zpc_if (fun _ => fp_fX10_drumPhase_155 h) (fun _ => fp_fX10_drumPhase_155 h))) (fun _ => zpc_if (fun _ => zpc_if (fun _ => fp_fX10_drumPhase_193 h) (fun _ => fp_fX10_drumPhase_193 h)) (fun _ => zpc_if (fun _ => fp_fX10_drumPhase_193 h) (fun _ => fp_fX10_drumPhase_193 h))))
theorem fp_fX10_drumPhase_62 {σ0 : zSt} {σ : zSt} {x1 : Int32} {x2 : Int32} {s0 : Int32} (h : (zQ [30, 32, 5, 11, 12] [] [5, 46, 48] [(38, 0, 1), (38, 3, 6)]) σ0 σ) : zpc (fX10_drumPhase_62 σ x1 x2 s0) (fun r => (zQ [30, 32, 5, 11, 12] [] [5, 46, 48] [(38, 0, 1), (38, 3, 6)]) σ0 (r.1)) := by
  unfold fX10_drumPhase_62
  exact zpc_ck (zpc_if (fun _ => fp_fX10_drumPhase_82 h) (fun _ => fp_fX10_drumPhase_82 h))
theorem fp_fX10_drumPhase {σ0 : zSt} {σ : zSt} {x1 : Int32} {x2 : Int32} (h : (zQ [30, 32, 5, 11, 12] [] [5, 46, 48] [(38, 0, 1), (38, 3, 6)]) σ0 σ) : zpc (fX10_drumPhase σ x1 x2) (fun r => (zQ [30, 32, 5, 11, 12] [] [5, 46, 48] [(38, 0, 1), (38, 3, 6)]) σ0 (r.1)) := by
  unfold fX10_drumPhase
  exact zpc_ck (zpc_bv (fun v1 _ => zpc_ck (zpc_bv (fun v2 _ => zpc_if (fun _ => fp_fX10_drumPhase_62 h) (fun _ => fp_fX10_drumPhase_62 h)))))
theorem fp_fX10_turnedPhase_98 {σ0 : zSt} {σ : zSt} {s0 : Int32} (h : (zQ [30, 32, 5, 11, 12] [] [5, 46, 48] [(38, 0, 1), (38, 3, 6)]) σ0 σ) : zpc (fX10_turnedPhase_98 σ s0) (fun r => (zQ [30, 32, 5, 11, 12] [] [5, 46, 48] [(38, 0, 1), (38, 3, 6)]) σ0 (r.1)) := by
  unfold fX10_turnedPhase_98
  exact zpc_some h
theorem fp_fX10_turnedPhase_35 {σ0 : zSt} {σ : zSt} {x1 : Int32} {x2 : Int32} {x3 : Int32} (h : (zQ [30, 32, 5, 11, 12] [] [5, 46, 48] [(38, 0, 1), (38, 3, 6)]) σ0 σ) : zpc (fX10_turnedPhase_35 σ x1 x2 x3) (fun r => (zQ [30, 32, 5, 11, 12] [] [5, 46, 48] [(38, 0, 1), (38, 3, 6)]) σ0 (r.1)) := by
  unfold fX10_turnedPhase_35
  exact zpc_if (fun _ => zpc_ck (zpc_some h)) (fun _ => zpc_bi (fp_fX10_part h) (fun σ1 v2 hσ1 => zpc_bv (fun v3 _ => zpc_if (fun _ => fp_fX10_turnedPhase_98 hσ1) (fun _ => zpc_ck (zpc_ck (fp_fX10_turnedPhase_98 hσ1))))))
theorem fp_fX10_turnedPhase {σ0 : zSt} {σ : zSt} {x1 : Int32} {x2 : Int32} (h : (zQ [30, 32, 5, 11, 12] [] [5, 46, 48] [(38, 0, 1), (38, 3, 6)]) σ0 σ) : zpc (fX10_turnedPhase σ x1 x2) (fun r => (zQ [30, 32, 5, 11, 12] [] [5, 46, 48] [(38, 0, 1), (38, 3, 6)]) σ0 (r.1)) := by
  unfold fX10_turnedPhase
  exact zpc_ck (zpc_bv (fun v4 _ => zpc_if (fun _ => fp_fX10_turnedPhase_35 h) (fun _ => zpc_if (fun _ => fp_fX10_turnedPhase_35 h) (fun _ => zpc_bi (fp_fX10_drumPhase h) (fun σ5 v6 hσ5 => zpc_some hσ5)))))
theorem fp_fX10_scaled_44 {σ0 : zSt} {σ : zSt} {s0 : Int32} (h : (zQ [30, 32, 5, 11, 12] [] [5, 46, 48] [(38, 0, 1), (38, 3, 6)]) σ0 σ) : zpc (fX10_scaled_44 σ s0) (fun r => (zQ [30, 32, 5, 11, 12] [] [5, 46, 48] [(38, 0, 1), (38, 3, 6)]) σ0 (r.1)) := by
  unfold fX10_scaled_44
  exact zpc_some h
theorem fp_fX10_scaled {σ0 : zSt} {σ : zSt} {x1 : Int32} (h : (zQ [30, 32, 5, 11, 12] [] [5, 46, 48] [(38, 0, 1), (38, 3, 6)]) σ0 σ) : zpc (fX10_scaled σ x1) (fun r => (zQ [30, 32, 5, 11, 12] [] [5, 46, 48] [(38, 0, 1), (38, 3, 6)]) σ0 (r.1)) := by
  unfold fX10_scaled
  exact zpc_if (fun _ => zpc_some h) (fun _ => zpc_ck (zpc_bv (fun v1 _ => zpc_if (fun _ => fp_fX10_scaled_44 h) (fun _ => fp_fX10_scaled_44 h))))
theorem fp_fX10_tremble_30 {σ0 : zSt} {σ : zSt} {s0 : Int32} (h : (zQ [30, 32, 5, 11, 12] [] [5, 46, 48] [(38, 0, 1), (38, 3, 6)]) σ0 σ) : zpc (fX10_tremble_30 σ s0) (fun r => (zQ [30, 32, 5, 11, 12] [] [5, 46, 48] [(38, 0, 1), (38, 3, 6)]) σ0 (r.1)) := by
  unfold fX10_tremble_30
  exact zpc_ck (zpc_some h)
theorem fp_fX10_tremble {σ0 : zSt} {σ : zSt} (h : (zQ [30, 32, 5, 11, 12] [] [5, 46, 48] [(38, 0, 1), (38, 3, 6)]) σ0 σ) : zpc (fX10_tremble σ) (fun r => (zQ [30, 32, 5, 11, 12] [] [5, 46, 48] [(38, 0, 1), (38, 3, 6)]) σ0 (r.1)) := by
  unfold fX10_tremble
  exact zpc_ck (zpc_ck (zpc_ck (zpc_bv (fun v1 _ => zpc_if (fun _ => fp_fX10_tremble_30 h) (fun _ => fp_fX10_tremble_30 h)))))
theorem fp_fX10_softness_124 {σ0 : zSt} {σ : zSt} {x4 : Int32} (h : (zQ [30, 32, 5, 11, 12] [] [5, 46, 48] [(38, 0, 1), (38, 3, 6)]) σ0 σ) : zpc (fX10_softness_124 σ x4) (fun r => (zQ [30, 32, 5, 11, 12] [] [5, 46, 48] [(38, 0, 1), (38, 3, 6)]) σ0 (r.1)) := by
  unfold fX10_softness_124
  exact zpc_some h
theorem fp_fX10_softness_103 {σ0 : zSt} {σ : zSt} {x2 : Int32} {x4 : Int32} (h : (zQ [30, 32, 5, 11, 12] [] [5, 46, 48] [(38, 0, 1), (38, 3, 6)]) σ0 σ) : zpc (fX10_softness_103 σ x2 x4) (fun r => (zQ [30, 32, 5, 11, 12] [] [5, 46, 48] [(38, 0, 1), (38, 3, 6)]) σ0 (r.1)) := by
  unfold fX10_softness_103
  exact zpc_bi (fp_fX10_part h) (fun σ1 v2 hσ1 => zpc_if (fun _ => fp_fX10_softness_124 hσ1) (fun _ => zpc_bi (fp_fX10_tremble hσ1) (fun σ3 v4 hσ3 => zpc_bv (fun v5 _ => fp_fX10_softness_124 hσ3))))
theorem fp_fX10_softness_88 {σ0 : zSt} {σ : zSt} {x2 : Int32} {x4 : Int32} (h : (zQ [30, 32, 5, 11, 12] [] [5, 46, 48] [(38, 0, 1), (38, 3, 6)]) σ0 σ) : zpc (fX10_softness_88 σ x2 x4) (fun r => (zQ [30, 32, 5, 11, 12] [] [5, 46, 48] [(38, 0, 1), (38, 3, 6)]) σ0 (r.1)) := by
  unfold fX10_softness_88
  exact zpc_bi (fp_fX10_part h) (fun σ6 v7 hσ6 => zpc_bv (fun v8 _ => fp_fX10_softness_103 hσ6))
theorem fp_fX10_softness {σ0 : zSt} {σ : zSt} {x1 : Int32} {x2 : Int32} (h : (zQ [30, 32, 5, 11, 12] [] [5, 46, 48] [(38, 0, 1), (38, 3, 6)]) σ0 σ) : zpc (fX10_softness σ x1 x2) (fun r => (zQ [30, 32, 5, 11, 12] [] [5, 46, 48] [(38, 0, 1), (38, 3, 6)]) σ0 (r.1)) := by
  unfold fX10_softness
  exact zpc_ck (zpc_bv (fun v9 _ => zpc_ck (zpc_bi (fp_fX10_part h) (fun σ10 v11 hσ10 => zpc_bi (fp_fX10_scaled hσ10) (fun σ12 v13 hσ12 => zpc_bv (fun v14 _ => zpc_if (fun _ => zpc_bv (fun v16 _ => fp_fX10_softness_103 hσ12)) (fun _ => zpc_if (fun _ => fp_fX10_softness_88 hσ12) (fun _ => zpc_if (fun _ => fp_fX10_softness_88 hσ12) (fun _ => zpc_bv (fun v15 _ => fp_fX10_softness_103 hσ12))))))))))
theorem fp_fX10_waveAt_104 {σ0 : zSt} {σ : zSt} {s0 : Int32} (h : (zQ [30, 32, 5, 11, 12] [] [5, 46, 48] [(38, 0, 1), (38, 3, 6)]) σ0 σ) : zpc (fX10_waveAt_104 σ s0) (fun r => (zQ [30, 32, 5, 11, 12] [] [5, 46, 48] [(38, 0, 1), (38, 3, 6)]) σ0 (r.1)) := by
  unfold fX10_waveAt_104
  exact zpc_some h
theorem fp_fX10_waveAt_49 {σ0 : zSt} {σ : zSt} {x1 : Int32} {x3 : Int32} {s0 : Int32} (h : (zQ [30, 32, 5, 11, 12] [] [5, 46, 48] [(38, 0, 1), (38, 3, 6)]) σ0 σ) : zpc (fX10_waveAt_49 σ x1 x3 s0) (fun r => (zQ [30, 32, 5, 11, 12] [] [5, 46, 48] [(38, 0, 1), (38, 3, 6)]) σ0 (r.1)) := by
  unfold fX10_waveAt_49
  exact zpc_ck (zpc_bv (fun v1 _ => zpc_ck (zpc_bv (fun v2 _ => zpc_if (fun _ => fp_fX10_waveAt_104 h) (fun _ => fp_fX10_waveAt_104 h)))))
theorem fp_fX10_waveAt_24 {σ0 : zSt} {σ : zSt} {x0 : Int32} {x1 : Int32} {x3 : Int32} (h : (zQ [30, 32, 5, 11, 12] [] [5, 46, 48] [(38, 0, 1), (38, 3, 6)]) σ0 σ) : zpc (fX10_waveAt_24 σ x0 x1 x3) (fun r => (zQ [30, 32, 5, 11, 12] [] [5, 46, 48] [(38, 0, 1), (38, 3, 6)]) σ0 (r.1)) := by
  unfold fX10_waveAt_24
  exact zpc_if (fun _ => fp_fX10_waveAt_49 h) (fun _ => fp_fX10_waveAt_49 h)
theorem fp_fX10_waveAt_13 {σ0 : zSt} {σ : zSt} {x0 : Int32} {x1 : Int32} {x2 : Int32} {s0 : Int32} (h : (zQ [30, 32, 5, 11, 12] [] [5, 46, 48] [(38, 0, 1), (38, 3, 6)]) σ0 σ) : zpc (fX10_waveAt_13 σ x0 x1 x2 s0) (fun r => (zQ [30, 32, 5, 11, 12] [] [5, 46, 48] [(38, 0, 1), (38, 3, 6)]) σ0 (r.1)) := by
  unfold fX10_waveAt_13
  exact zpc_if (fun _ => fp_fX10_waveAt_24 h) (fun _ => zpc_if (fun _ => fp_fX10_waveAt_24 h) (fun _ => zpc_some h))
theorem fp_fX10_waveAt {σ0 : zSt} {σ : zSt} {x0 : Int32} {x1 : Int32} {x2 : Int32} (h : (zQ [30, 32, 5, 11, 12] [] [5, 46, 48] [(38, 0, 1), (38, 3, 6)]) σ0 σ) : zpc (fX10_waveAt σ x0 x1 x2) (fun r => (zQ [30, 32, 5, 11, 12] [] [5, 46, 48] [(38, 0, 1), (38, 3, 6)]) σ0 (r.1)) := by
  unfold fX10_waveAt
  exact zpc_if (fun _ => fp_fX10_waveAt_13 h) (fun _ => fp_fX10_waveAt_13 h)
theorem fp_fX10_moveOut_55 {σ0 : zSt} {σ : zSt} {x1 : Int32} {x3 : Int32} (h : (zQ [30, 32, 5, 11, 12] [] [5, 46, 48] [(38, 0, 1), (38, 3, 6)]) σ0 σ) : zpc (fX10_moveOut_55 σ x1 x3) (fun r => (zQ [30, 32, 5, 11, 12] [] [5, 46, 48] [(38, 0, 1), (38, 3, 6)]) σ0 (r)) := by
  unfold fX10_moveOut_55
  exact zpc_ck (zpc_ck (zpc_bs (zQ.wi h rfl) (fun σ1 hσ1 => zpc_ck (zpc_bs (zQ.wi hσ1 rfl) (fun σ2 hσ2 => zpc_some hσ2)))))
theorem fp_fX10_moveOut_51 {σ0 : zSt} {σ : zSt} {x1 : Int32} {s0 : Int32} {s1 : Int32} {s2 : Int32} (h : (zQ [30, 32, 5, 11, 12] [] [5, 46, 48] [(38, 0, 1), (38, 3, 6)]) σ0 σ) : zpc (fX10_moveOut_51 σ x1 s0 s1 s2) (fun r => (zQ [30, 32, 5, 11, 12] [] [5, 46, 48] [(38, 0, 1), (38, 3, 6)]) σ0 (r)) := by
  unfold fX10_moveOut_51
  exact zpc_bi (fp_fX10_waveAt h) (fun σ3 v4 hσ3 => fp_fX10_moveOut_55 hσ3)
theorem fp_fX10_moveOut {σ0 : zSt} {σ : zSt} {x1 : Int32} {x2 : Int32} (h : (zQ [30, 32, 5, 11, 12] [] [5, 46, 48] [(38, 0, 1), (38, 3, 6)]) σ0 σ) : zpc (fX10_moveOut σ x1 x2) (fun r => (zQ [30, 32, 5, 11, 12] [] [5, 46, 48] [(38, 0, 1), (38, 3, 6)]) σ0 (r)) := by
  unfold fX10_moveOut
  exact zpc_ck (zpc_if (fun _ => fp_fX10_moveOut_55 h) (fun _ => zpc_bi (fp_fX10_turnedPhase h) (fun σ5 v6 hσ5 => zpc_bi (fp_fX10_softness hσ5) (fun σ7 v8 hσ7 => zpc_bi (fp_fX10_part hσ7) (fun σ9 v10 hσ9 => zpc_if (fun _ => fp_fX10_moveOut_51 hσ9) (fun _ => fp_fX10_moveOut_51 hσ9))))))
theorem fp_fX10_moveOperator_99 {σ0 : zSt} {σ : zSt} {x1 : Int32} {x2 : Int32} (h : (zQ [30, 32, 5, 11, 12] [] [5, 46, 48] [(38, 0, 1), (38, 3, 6)]) σ0 σ) : zpc (fX10_moveOperator_99 σ x1 x2) (fun r => (zQ [30, 32, 5, 11, 12] [] [5, 46, 48] [(38, 0, 1), (38, 3, 6)]) σ0 (r)) := by
  unfold fX10_moveOperator_99
  exact zpc_bi (fp_fX10_part h) (fun σ1 v2 hσ1 => zpc_bu (fp_fX10_movePhase hσ1) (fun σ3 hσ3 => zpc_bu (fp_fX10_moveOut hσ3) (fun σ4 hσ4 => zpc_some hσ4)))
theorem fp_fX10_moveOperator_78 {σ0 : zSt} {σ : zSt} {x1 : Int32} {x2 : Int32} (h : (zQ [30, 32, 5, 11, 12] [] [5, 46, 48] [(38, 0, 1), (38, 3, 6)]) σ0 σ) : zpc (fX10_moveOperator_78 σ x1 x2) (fun r => (zQ [30, 32, 5, 11, 12] [] [5, 46, 48] [(38, 0, 1), (38, 3, 6)]) σ0 (r)) := by
  unfold fX10_moveOperator_78
  exact zpc_bu (fp_fX10_moveLevel h) (fun σ5 hσ5 => zpc_bi (fp_fX10_part hσ5) (fun σ6 v7 hσ6 => zpc_bu (fp_fX10_moveState hσ6) (fun σ8 hσ8 => fp_fX10_moveOperator_99 hσ8)))
theorem fp_fX10_moveOperator_53 {σ0 : zSt} {σ : zSt} {x1 : Int32} {x2 : Int32} (h : (zQ [30, 32, 5, 11, 12] [] [5, 46, 48] [(38, 0, 1), (38, 3, 6)]) σ0 σ) : zpc (fX10_moveOperator_53 σ x1 x2) (fun r => (zQ [30, 32, 5, 11, 12] [] [5, 46, 48] [(38, 0, 1), (38, 3, 6)]) σ0 (r)) := by
  unfold fX10_moveOperator_53
  exact zpc_ck (zpc_if (fun _ => zpc_ck (zpc_if (fun _ => fp_fX10_moveOperator_99 h) (fun _ => fp_fX10_moveOperator_78 h))) (fun _ => fp_fX10_moveOperator_78 h))
theorem fp_fX10_moveOperator_52 {σ0 : zSt} {σ : zSt} {x1 : Int32} {x2 : Int32} {s0 : Int32} {s1 : Int32} (h : (zQ [30, 32, 5, 11, 12] [] [5, 46, 48] [(38, 0, 1), (38, 3, 6)]) σ0 σ) : zpc (fX10_moveOperator_52 σ x1 x2 s0 s1) (fun r => (zQ [30, 32, 5, 11, 12] [] [5, 46, 48] [(38, 0, 1), (38, 3, 6)]) σ0 (r)) := by
  unfold fX10_moveOperator_52
  exact zpc_ck (zpc_bs (zQ.wi h rfl) (fun σ9 hσ9 => fp_fX10_moveOperator_53 hσ9))
theorem fp_fX10_moveOperator_13 {σ0 : zSt} {σ : zSt} {x1 : Int32} {x2 : Int32} {s0 : Int32} (h : (zQ [30, 32, 5, 11, 12] [] [5, 46, 48] [(38, 0, 1), (38, 3, 6)]) σ0 σ) : zpc (fX10_moveOperator_13 σ x1 x2 s0) (fun r => (zQ [30, 32, 5, 11, 12] [] [5, 46, 48] [(38, 0, 1), (38, 3, 6)]) σ0 (r)) := by
  unfold fX10_moveOperator_13
  exact zpc_ck (zpc_if (fun _ => fp_fX10_moveOperator_53 h) (fun _ => zpc_ck (zpc_bs (zQ.wi h rfl) (fun σ10 hσ10 => zpc_if (fun _ => fp_fX10_moveOperator_52 hσ10) (fun _ => fp_fX10_moveOperator_52 hσ10)))))
theorem fp_fX10_moveOperator {σ0 : zSt} {σ : zSt} {x1 : Int32} {x2 : Int32} (h : (zQ [30, 32, 5, 11, 12] [] [5, 46, 48] [(38, 0, 1), (38, 3, 6)]) σ0 σ) : zpc (fX10_moveOperator σ x1 x2) (fun r => (zQ [30, 32, 5, 11, 12] [] [5, 46, 48] [(38, 0, 1), (38, 3, 6)]) σ0 (r)) := by
  unfold fX10_moveOperator
  exact zpc_bi (fp_fX10_isOn h) (fun σ11 v12 hσ11 => zpc_if (fun _ => fp_fX10_moveOperator_13 hσ11) (fun _ => fp_fX10_moveOperator_13 hσ11))
theorem fp_fX10_makeNext_136 {σ0 : zSt} {k41 : zSt → Int32 → Int32 → Option (zSt)} (hk41 : ∀ (y0 : zSt) (y1 : Int32) (y2 : Int32), (zQ [30, 32, 5, 11, 12] [] [5, 46, 48] [(38, 0, 1), (38, 3, 6)]) σ0 y0 → zpc (k41 y0 y1 y2) (fun r => (zQ [30, 32, 5, 11, 12] [] [5, 46, 48] [(38, 0, 1), (38, 3, 6)]) σ0 (r))) {σ : zSt} {x2 : Int32} {s0 : Int32} {s1 : Int32} {s2 : Int32} (h : (zQ [30, 32, 5, 11, 12] [] [5, 46, 48] [(38, 0, 1), (38, 3, 6)]) σ0 σ) : zpc (fX10_makeNext_136 k41 σ x2 s0 s1 s2) (fun r => (zQ [30, 32, 5, 11, 12] [] [5, 46, 48] [(38, 0, 1), (38, 3, 6)]) σ0 (r)) := by
  unfold fX10_makeNext_136
  exact zpc_bv (fun v1 _ => zpc_bv (fun v2 _ => hk41 _ _ _ h))
theorem fp_fX10_makeNext_135 {σ0 : zSt} {k41 : zSt → Int32 → Int32 → Option (zSt)} (hk41 : ∀ (y0 : zSt) (y1 : Int32) (y2 : Int32), (zQ [30, 32, 5, 11, 12] [] [5, 46, 48] [(38, 0, 1), (38, 3, 6)]) σ0 y0 → zpc (k41 y0 y1 y2) (fun r => (zQ [30, 32, 5, 11, 12] [] [5, 46, 48] [(38, 0, 1), (38, 3, 6)]) σ0 (r))) {σ : zSt} {x2 : Int32} {s0 : Int32} {s1 : Int32} (h : (zQ [30, 32, 5, 11, 12] [] [5, 46, 48] [(38, 0, 1), (38, 3, 6)]) σ0 σ) : zpc (fX10_makeNext_135 k41 σ x2 s0 s1) (fun r => (zQ [30, 32, 5, 11, 12] [] [5, 46, 48] [(38, 0, 1), (38, 3, 6)]) σ0 (r)) := by
  unfold fX10_makeNext_135
  exact fp_fX10_makeNext_136 hk41 h
theorem fp_fX10_makeNext_101 {σ0 : zSt} {k41 : zSt → Int32 → Int32 → Option (zSt)} (hk41 : ∀ (y0 : zSt) (y1 : Int32) (y2 : Int32), (zQ [30, 32, 5, 11, 12] [] [5, 46, 48] [(38, 0, 1), (38, 3, 6)]) σ0 y0 → zpc (k41 y0 y1 y2) (fun r => (zQ [30, 32, 5, 11, 12] [] [5, 46, 48] [(38, 0, 1), (38, 3, 6)]) σ0 (r))) {σ : zSt} {x1 : Int32} {x2 : Int32} {x3 : Int32} {s0 : Int32} (h : (zQ [30, 32, 5, 11, 12] [] [5, 46, 48] [(38, 0, 1), (38, 3, 6)]) σ0 σ) : zpc (fX10_makeNext_101 k41 σ x1 x2 x3 s0) (fun r => (zQ [30, 32, 5, 11, 12] [] [5, 46, 48] [(38, 0, 1), (38, 3, 6)]) σ0 (r)) := by
  unfold fX10_makeNext_101
  exact zpc_ck (zpc_if (fun _ => fp_fX10_makeNext_135 hk41 h) (fun _ => zpc_if (fun _ => fp_fX10_makeNext_135 hk41 h) (fun _ => fp_fX10_makeNext_136 hk41 h)))
theorem fp_fX10_makeNext_100 {σ0 : zSt} {k41 : zSt → Int32 → Int32 → Option (zSt)} (hk41 : ∀ (y0 : zSt) (y1 : Int32) (y2 : Int32), (zQ [30, 32, 5, 11, 12] [] [5, 46, 48] [(38, 0, 1), (38, 3, 6)]) σ0 y0 → zpc (k41 y0 y1 y2) (fun r => (zQ [30, 32, 5, 11, 12] [] [5, 46, 48] [(38, 0, 1), (38, 3, 6)]) σ0 (r))) {σ : zSt} {x1 : Int32} {x2 : Int32} {x3 : Int32} (h : (zQ [30, 32, 5, 11, 12] [] [5, 46, 48] [(38, 0, 1), (38, 3, 6)]) σ0 σ) : zpc (fX10_makeNext_100 k41 σ x1 x2 x3) (fun r => (zQ [30, 32, 5, 11, 12] [] [5, 46, 48] [(38, 0, 1), (38, 3, 6)]) σ0 (r)) := by
  unfold fX10_makeNext_100
  exact fp_fX10_makeNext_101 hk41 h
theorem fp_fX10_makeNext_174 {σ0 : zSt} {σ : zSt} {x1 : Int32} {s0 : Int32} {s1 : Int32} (h : (zQ [30, 32, 5, 11, 12] [] [5, 46, 48] [(38, 0, 1), (38, 3, 6)]) σ0 σ) : zpc (fX10_makeNext_174 σ x1 s0 s1) (fun r => (zQ [30, 32, 5, 11, 12] [] [5, 46, 48] [(38, 0, 1), (38, 3, 6)]) σ0 (r)) := by
  unfold fX10_makeNext_174
  exact zpc_ck (zpc_bs (zQ.wi h rfl) (fun σ3 hσ3 => zpc_ck (zpc_bs (zQ.wi hσ3 rfl) (fun σ4 hσ4 => zpc_some hσ4))))
theorem fp_fX10_makeNext_41_body {σ0 : zSt} {k41 : zSt → Int32 → Int32 → Option (zSt)} (hk41 : ∀ (y0 : zSt) (y1 : Int32) (y2 : Int32), (zQ [30, 32, 5, 11, 12] [] [5, 46, 48] [(38, 0, 1), (38, 3, 6)]) σ0 y0 → zpc (k41 y0 y1 y2) (fun r => (zQ [30, 32, 5, 11, 12] [] [5, 46, 48] [(38, 0, 1), (38, 3, 6)]) σ0 (r))) {σ : zSt} {x1 : Int32} {x2 : Int32} (h : (zQ [30, 32, 5, 11, 12] [] [5, 46, 48] [(38, 0, 1), (38, 3, 6)]) σ0 σ) : zpc (fX10_makeNext_41_body k41 σ x1 x2) (fun r => (zQ [30, 32, 5, 11, 12] [] [5, 46, 48] [(38, 0, 1), (38, 3, 6)]) σ0 (r)) := by
  unfold fX10_makeNext_41_body
  exact zpc_if (fun _ => zpc_ck (zpc_bv (fun v5 _ => zpc_if (fun _ => fp_fX10_makeNext_174 h) (fun _ => fp_fX10_makeNext_174 h)))) (fun _ => zpc_bu (fp_fX10_takeChannel h) (fun σ6 hσ6 => zpc_bv (fun v7 _ => zpc_bu (fp_fX10_moveOperator hσ6) (fun σ8 hσ8 => zpc_bu (fp_fX10_moveOperator hσ8) (fun σ9 hσ9 => zpc_if (fun _ => fp_fX10_makeNext_100 hk41 hσ9) (fun _ => zpc_if (fun _ => fp_fX10_makeNext_100 hk41 hσ9) (fun _ => zpc_ck (fp_fX10_makeNext_101 hk41 hσ9))))))))
theorem fp_fX10_makeNext_41 {σ0 : zSt} : ∀ (n : Nat) (y0 : zSt) (y1 : Int32) (y2 : Int32), (zQ [30, 32, 5, 11, 12] [] [5, 46, 48] [(38, 0, 1), (38, 3, 6)]) σ0 y0 → zpc (fX10_makeNext_41 n y0 y1 y2) (fun r => (zQ [30, 32, 5, 11, 12] [] [5, 46, 48] [(38, 0, 1), (38, 3, 6)]) σ0 (r)) := by
  intro n
  induction n with
  | zero => intro y0 y1 y2 h; exact zpc_none
  | succ n ih => intro y0 y1 y2 h; exact fp_fX10_makeNext_41_body ih h
theorem fp_fX10_makeNext_30 {σ0 : zSt} {σ : zSt} {s0 : Int32} (h : (zQ [30, 32, 5, 11, 12] [] [5, 46, 48] [(38, 0, 1), (38, 3, 6)]) σ0 σ) : zpc (fX10_makeNext_30 σ s0) (fun r => (zQ [30, 32, 5, 11, 12] [] [5, 46, 48] [(38, 0, 1), (38, 3, 6)]) σ0 (r)) := by
  unfold fX10_makeNext_30
  exact zpc_ck (zpc_bs (zQ.wi h rfl) (fun σ10 hσ10 => zpc_bu (fp_fX10_takeOwnPatch hσ10) (fun σ11 hσ11 => fp_fX10_makeNext_41 _ _ _ _ hσ11)))
theorem fp_fX10_makeNext {σ0 : zSt} {σ : zSt} (h : (zQ [30, 32, 5, 11, 12] [] [5, 46, 48] [(38, 0, 1), (38, 3, 6)]) σ0 σ) : zpc (fX10_makeNext σ) (fun r => (zQ [30, 32, 5, 11, 12] [] [5, 46, 48] [(38, 0, 1), (38, 3, 6)]) σ0 (r)) := by
  unfold fX10_makeNext
  exact zpc_ck (zpc_ck (zpc_bs (zQ.wi h rfl) (fun σ12 hσ12 => zpc_ck (zpc_if (fun _ => fp_fX10_makeNext_30 hσ12) (fun _ => fp_fX10_makeNext_30 hσ12)))))
theorem fp_fX10_heard_24 {σ0 : zSt} {σ : zSt} {s0 : Int32} (h : (zQ [30, 32, 5, 11, 12] [] [5, 46, 48] [(38, 0, 1), (38, 3, 6)]) σ0 σ) : zpc (fX10_heard_24 σ s0) (fun r => (zQ [30, 32, 5, 11, 12] [] [5, 46, 48] [(38, 0, 1), (38, 3, 6)]) σ0 (r.1)) := by
  unfold fX10_heard_24
  exact zpc_some h
theorem fp_fX10_heard {σ0 : zSt} {σ : zSt} (h : (zQ [30, 32, 5, 11, 12] [] [5, 46, 48] [(38, 0, 1), (38, 3, 6)]) σ0 σ) : zpc (fX10_heard σ) (fun r => (zQ [30, 32, 5, 11, 12] [] [5, 46, 48] [(38, 0, 1), (38, 3, 6)]) σ0 (r.1)) := by
  unfold fX10_heard
  exact zpc_ck (zpc_if (fun _ => zpc_ck (fp_fX10_heard_24 h)) (fun _ => fp_fX10_heard_24 h))
theorem fp_fX6_add_k12_56 {σ0 : zSt} {σ : zSt} (h : (zQ [30, 32, 5, 11, 12] [] [5, 46, 48] [(38, 0, 1), (38, 3, 6)]) σ0 σ) : zpc (fX6_add_k12_56 σ) (fun r => (zQ [30, 32, 5, 11, 12] [] [5, 46, 48] [(38, 0, 1), (38, 3, 6)]) σ0 (r)) := by
  unfold fX6_add_k12_56
  exact zpc_some h
theorem fp_fX6_add_k12 {σ0 : zSt} {σ : zSt} {x1 : Int64} (h : (zQ [30, 32, 5, 11, 12] [] [5, 46, 48] [(38, 0, 1), (38, 3, 6)]) σ0 σ) : zpc (fX6_add_k12 σ x1) (fun r => (zQ [30, 32, 5, 11, 12] [] [5, 46, 48] [(38, 0, 1), (38, 3, 6)]) σ0 (r)) := by
  unfold fX6_add_k12
  exact zpc_ck (zpc_bs (zQ.wl h rfl) (fun σ1 hσ1 => zpc_if (fun _ => zpc_bs (zQ.wi hσ1 rfl) (fun σ2 hσ2 => fp_fX6_add_k12_56 hσ2)) (fun _ => zpc_bs (zQ.wi hσ1 rfl) (fun σ3 hσ3 => fp_fX6_add_k12_56 hσ3))))
theorem fp_fX0_addMix {σ0 : zSt} {σ : zSt} (h : (zQ [30, 32, 5, 11, 12] [] [5, 46, 48] [(38, 0, 1), (38, 3, 6)]) σ0 σ) : zpc (fX0_addMix σ) (fun r => (zQ [30, 32, 5, 11, 12] [] [5, 46, 48] [(38, 0, 1), (38, 3, 6)]) σ0 (r)) := by
  unfold fX0_addMix
  exact zpc_ck (zpc_bv (fun v1 _ => zpc_ck (zpc_ck (zpc_bi (fp_fX10_heard h) (fun σ2 v3 hσ2 => zpc_bv (fun v4 _ => zpc_ck (zpc_ck (zpc_bi (fp_fX10_heard hσ2) (fun σ5 v6 hσ5 => zpc_bv (fun v7 _ => zpc_bu (fp_fX6_add_k12 hσ5) (fun σ8 hσ8 => zpc_ck (zpc_bs (zQ.wl hσ8 rfl) (fun σ9 hσ9 => zpc_ck (zpc_bs (zQ.wl hσ9 rfl) (fun σ10 hσ10 => zpc_ck (zpc_bs (zQ.wl hσ10 rfl) (fun σ11 hσ11 => zpc_some hσ11)))))))))))))))))
theorem fp_fX0_pass_105_body {σ0 : zSt} {k105 : zSt → Int64 → Int64 → Option (zSt)} (hk105 : ∀ (y0 : zSt) (y1 : Int64) (y2 : Int64), (zQ [30, 32, 5, 11, 12] [] [5, 46, 48] [(38, 0, 1), (38, 3, 6)]) σ0 y0 → zpc (k105 y0 y1 y2) (fun r => (zQ [30, 32, 5, 11, 12] [] [5, 46, 48] [(38, 0, 1), (38, 3, 6)]) σ0 (r))) {σ : zSt} {x4 : Int64} {x6 : Int64} (h : (zQ [30, 32, 5, 11, 12] [] [5, 46, 48] [(38, 0, 1), (38, 3, 6)]) σ0 σ) : zpc (fX0_pass_105_body k105 σ x4 x6) (fun r => (zQ [30, 32, 5, 11, 12] [] [5, 46, 48] [(38, 0, 1), (38, 3, 6)]) σ0 (r)) := by
  unfold fX0_pass_105_body
  exact zpc_ck (zpc_if (fun _ => zpc_some h) (fun _ => zpc_bu (fp_fX0_addMix h) (fun σ1 hσ1 => zpc_bv (fun v2 _ => hk105 _ _ _ hσ1))))
theorem fp_fX0_pass_105 {σ0 : zSt} : ∀ (n : Nat) (y0 : zSt) (y1 : Int64) (y2 : Int64), (zQ [30, 32, 5, 11, 12] [] [5, 46, 48] [(38, 0, 1), (38, 3, 6)]) σ0 y0 → zpc (fX0_pass_105 n y0 y1 y2) (fun r => (zQ [30, 32, 5, 11, 12] [] [5, 46, 48] [(38, 0, 1), (38, 3, 6)]) σ0 (r)) := by
  intro n
  induction n with
  | zero => intro y0 y1 y2 h; exact zpc_none
  | succ n ih => intro y0 y1 y2 h; exact fp_fX0_pass_105_body ih h
theorem fp_fX0_pass_70_body {σ0 : zSt} {k70 : zSt → Int64 → Int64 → Int64 → Option (zSt)} (hk70 : ∀ (y0 : zSt) (y1 : Int64) (y2 : Int64) (y3 : Int64), (zQ [30, 32, 5, 11, 12] [] [5, 46, 48] [(38, 0, 1), (38, 3, 6)]) σ0 y0 → zpc (k70 y0 y1 y2 y3) (fun r => (zQ [30, 32, 5, 11, 12] [] [5, 46, 48] [(38, 0, 1), (38, 3, 6)]) σ0 (r))) {σ : zSt} {x2 : Int64} {x4 : Int64} {x6 : Int64} (h : (zQ [30, 32, 5, 11, 12] [] [5, 46, 48] [(38, 0, 1), (38, 3, 6)]) σ0 σ) : zpc (fX0_pass_70_body k70 σ x2 x4 x6) (fun r => (zQ [30, 32, 5, 11, 12] [] [5, 46, 48] [(38, 0, 1), (38, 3, 6)]) σ0 (r)) := by
  unfold fX0_pass_70_body
  exact zpc_ck (zpc_if (fun _ => zpc_ck (zpc_bv (fun v3 _ => fp_fX0_pass_105 _ _ _ _ h))) (fun _ => zpc_bu (fp_fX10_makeNext h) (fun σ4 hσ4 => zpc_bv (fun v5 _ => hk70 _ _ _ _ hσ4))))
theorem fp_fX0_pass_70 {σ0 : zSt} : ∀ (n : Nat) (y0 : zSt) (y1 : Int64) (y2 : Int64) (y3 : Int64), (zQ [30, 32, 5, 11, 12] [] [5, 46, 48] [(38, 0, 1), (38, 3, 6)]) σ0 y0 → zpc (fX0_pass_70 n y0 y1 y2 y3) (fun r => (zQ [30, 32, 5, 11, 12] [] [5, 46, 48] [(38, 0, 1), (38, 3, 6)]) σ0 (r)) := by
  intro n
  induction n with
  | zero => intro y0 y1 y2 y3 h; exact zpc_none
  | succ n ih => intro y0 y1 y2 y3 h; exact fp_fX0_pass_70_body ih h
theorem fp_fX0_pass_38_body {σ0 : zSt} {k38 : zSt → Int64 → Int64 → Int64 → Option (zSt)} (hk38 : ∀ (y0 : zSt) (y1 : Int64) (y2 : Int64) (y3 : Int64), (zQ [30, 32, 5, 11, 12] [] [5, 46, 48] [(38, 0, 1), (38, 3, 6)]) σ0 y0 → zpc (k38 y0 y1 y2 y3) (fun r => (zQ [30, 32, 5, 11, 12] [] [5, 46, 48] [(38, 0, 1), (38, 3, 6)]) σ0 (r))) {σ : zSt} {x2 : Int64} {x4 : Int64} {x6 : Int64} (h : (zQ [30, 32, 5, 11, 12] [] [5, 46, 48] [(38, 0, 1), (38, 3, 6)]) σ0 σ) : zpc (fX0_pass_38_body k38 σ x2 x4 x6) (fun r => (zQ [30, 32, 5, 11, 12] [] [5, 46, 48] [(38, 0, 1), (38, 3, 6)]) σ0 (r)) := by
  unfold fX0_pass_38_body
  exact zpc_ck (zpc_if (fun _ => zpc_ck (zpc_bv (fun v6 _ => fp_fX0_pass_70 _ _ _ _ _ h))) (fun _ => zpc_bu (fp_fX0_addSample h) (fun σ7 hσ7 => zpc_bv (fun v8 _ => hk38 _ _ _ _ hσ7))))
theorem fp_fX0_pass_38 {σ0 : zSt} : ∀ (n : Nat) (y0 : zSt) (y1 : Int64) (y2 : Int64) (y3 : Int64), (zQ [30, 32, 5, 11, 12] [] [5, 46, 48] [(38, 0, 1), (38, 3, 6)]) σ0 y0 → zpc (fX0_pass_38 n y0 y1 y2 y3) (fun r => (zQ [30, 32, 5, 11, 12] [] [5, 46, 48] [(38, 0, 1), (38, 3, 6)]) σ0 (r)) := by
  intro n
  induction n with
  | zero => intro y0 y1 y2 y3 h; exact zpc_none
  | succ n ih => intro y0 y1 y2 y3 h; exact fp_fX0_pass_38_body ih h
theorem fp_fX0_pass {σ0 : zSt} {σ : zSt} {x1 : Int32} (h : (zQ [30, 32, 5, 11, 12] [] [5, 46, 48] [(38, 0, 1), (38, 3, 6)]) σ0 σ) : zpc (fX0_pass σ x1) (fun r => (zQ [30, 32, 5, 11, 12] [] [5, 46, 48] [(38, 0, 1), (38, 3, 6)]) σ0 (r)) := by
  unfold fX0_pass
  exact zpc_ck (zpc_bv (fun v9 _ => zpc_bv (fun v10 _ => zpc_ck (zpc_bs (zQ.wl h rfl) (fun σ11 hσ11 => zpc_ck (zpc_ck (zpc_bs (zQ.wl hσ11 rfl) (fun σ12 hσ12 => zpc_ck (zpc_bv (fun v13 _ => fp_fX0_pass_38 _ _ _ _ _ hσ12))))))))))
end ZJN5
section ZJN6
theorem fD_fX12_bit {σ0 : zSt} {σ : zSt} {x1 : Int32} {x2 : Int32} (h : (zQ [22, 23, 24, 25, 9] [(3, 62, 62)] [] []) σ0 σ) : zpc (fX12_bit σ x1 x2) (fun r => (zQ [22, 23, 24, 25, 9] [(3, 62, 62)] [] []) σ0 (r.1)) := by
  unfold fX12_bit
  exact zpc_ck (zpc_some h)
theorem fD_fX12_mode_57 {σ0 : zSt} {σ : zSt} {s0 : Int32} (h : (zQ [22, 23, 24, 25, 9] [(3, 62, 62)] [] []) σ0 σ) : zpc (fX12_mode_57 σ s0) (fun r => (zQ [22, 23, 24, 25, 9] [(3, 62, 62)] [] []) σ0 (r.1)) := by
  unfold fX12_mode_57
  exact zpc_some h
theorem fD_fX12_mode {σ0 : zSt} {σ : zSt} (h : (zQ [22, 23, 24, 25, 9] [(3, 62, 62)] [] []) σ0 σ) : zpc (fX12_mode σ) (fun r => (zQ [22, 23, 24, 25, 9] [(3, 62, 62)] [] []) σ0 (r.1)) := by
  unfold fX12_mode
  exact zpc_bi (fD_fX12_bit h) (fun σ1 v2 hσ1 => zpc_if (fun _ => fD_fX12_mode_57 hσ1) (fun _ => zpc_bi (fD_fX12_bit hσ1) (fun σ3 v4 hσ3 => zpc_if (fun _ => fD_fX12_mode_57 hσ3) (fun _ => zpc_bi (fD_fX12_bit hσ3) (fun σ5 v6 hσ5 => zpc_if (fun _ => fD_fX12_mode_57 hσ5) (fun _ => zpc_bi (fD_fX12_bit hσ5) (fun σ7 v8 hσ7 => zpc_if (fun _ => fD_fX12_mode_57 hσ7) (fun _ => fD_fX12_mode_57 hσ7))))))))
theorem fD_fX12_height_32 {σ0 : zSt} {σ : zSt} (h : (zQ [22, 23, 24, 25, 9] [(3, 62, 62)] [] []) σ0 σ) : zpc (fX12_height_32 σ) (fun r => (zQ [22, 23, 24, 25, 9] [(3, 62, 62)] [] []) σ0 (r.1)) := by
  unfold fX12_height_32
  exact zpc_some h
theorem fD_fX12_height_55 {σ0 : zSt} {σ : zSt} {s0 : Int32} (h : (zQ [22, 23, 24, 25, 9] [(3, 62, 62)] [] []) σ0 σ) : zpc (fX12_height_55 σ s0) (fun r => (zQ [22, 23, 24, 25, 9] [(3, 62, 62)] [] []) σ0 (r.1)) := by
  unfold fX12_height_55
  exact zpc_some h
theorem fD_fX12_height {σ0 : zSt} {σ : zSt} (h : (zQ [22, 23, 24, 25, 9] [(3, 62, 62)] [] []) σ0 σ) : zpc (fX12_height σ) (fun r => (zQ [22, 23, 24, 25, 9] [(3, 62, 62)] [] []) σ0 (r.1)) := by
  unfold fX12_height
  exact zpc_bi (fD_fX12_mode h) (fun σ1 v2 hσ1 => zpc_if (fun _ => zpc_bi (fD_fX12_bit hσ1) (fun σ3 v4 hσ3 => zpc_if (fun _ => fD_fX12_height_32 hσ3) (fun _ => zpc_bi (fD_fX12_bit hσ3) (fun σ5 v6 hσ5 => zpc_bi (fD_fX12_bit hσ5) (fun σ7 v8 hσ7 => zpc_if (fun _ => fD_fX12_height_32 hσ7) (fun _ => zpc_bi (fD_fX12_bit hσ7) (fun σ9 v10 hσ9 => zpc_if (fun _ => fD_fX12_height_55 hσ9) (fun _ => fD_fX12_height_55 hσ9)))))))) (fun _ => fD_fX12_height_32 hσ1))
theorem fD_fX12_video8 {σ0 : zSt} {σ : zSt} {x1 : Int32} (h : (zQ [22, 23, 24, 25, 9] [(3, 62, 62)] [] []) σ0 σ) : zpc (fX12_video8 σ x1) (fun r => (zQ [22, 23, 24, 25, 9] [(3, 62, 62)] [] []) σ0 (r.1)) := by
  unfold fX12_video8
  exact zpc_ck (zpc_some h)
theorem fD_fX12_reg {σ0 : zSt} {σ : zSt} {x1 : Int32} (h : (zQ [22, 23, 24, 25, 9] [(3, 62, 62)] [] []) σ0 σ) : zpc (fX12_reg σ x1) (fun r => (zQ [22, 23, 24, 25, 9] [(3, 62, 62)] [] []) σ0 (r.1)) := by
  unfold fX12_reg
  exact zpc_ck (zpc_some h)
theorem fD_fX12_tileDot_6_body {σ0 : zSt} {k6 : zSt → Int32 → Int32 → Int32 → Int32 → Int32 → Option (zSt × Int32)} (hk6 : ∀ (y0 : zSt) (y1 : Int32) (y2 : Int32) (y3 : Int32) (y4 : Int32) (y5 : Int32), (zQ [22, 23, 24, 25, 9] [(3, 62, 62)] [] []) σ0 y0 → zpc (k6 y0 y1 y2 y3 y4 y5) (fun r => (zQ [22, 23, 24, 25, 9] [(3, 62, 62)] [] []) σ0 (r.1))) {σ : zSt} {x1 : Int32} {x2 : Int32} {x3 : Int32} {x4 : Int32} {x5 : Int32} (h : (zQ [22, 23, 24, 25, 9] [(3, 62, 62)] [] []) σ0 σ) : zpc (fX12_tileDot_6_body k6 σ x1 x2 x3 x4 x5) (fun r => (zQ [22, 23, 24, 25, 9] [(3, 62, 62)] [] []) σ0 (r.1)) := by
  unfold fX12_tileDot_6_body
  exact zpc_if (fun _ => zpc_some h) (fun _ => zpc_bi (fD_fX12_video8 h) (fun σ1 v2 hσ1 => zpc_bv (fun v3 _ => zpc_bv (fun v4 _ => hk6 _ _ _ _ _ _ hσ1))))
theorem fD_fX12_tileDot_6 {σ0 : zSt} : ∀ (n : Nat) (y0 : zSt) (y1 : Int32) (y2 : Int32) (y3 : Int32) (y4 : Int32) (y5 : Int32), (zQ [22, 23, 24, 25, 9] [(3, 62, 62)] [] []) σ0 y0 → zpc (fX12_tileDot_6 n y0 y1 y2 y3 y4 y5) (fun r => (zQ [22, 23, 24, 25, 9] [(3, 62, 62)] [] []) σ0 (r.1)) := by
  intro n
  induction n with
  | zero => intro y0 y1 y2 y3 y4 y5 h; exact zpc_none
  | succ n ih => intro y0 y1 y2 y3 y4 y5 h; exact fD_fX12_tileDot_6_body ih h
theorem fD_fX12_tileDot {σ0 : zSt} {σ : zSt} {x1 : Int32} {x2 : Int32} {x3 : Int32} (h : (zQ [22, 23, 24, 25, 9] [(3, 62, 62)] [] []) σ0 σ) : zpc (fX12_tileDot σ x1 x2 x3) (fun r => (zQ [22, 23, 24, 25, 9] [(3, 62, 62)] [] []) σ0 (r.1)) := by
  unfold fX12_tileDot
  exact fD_fX12_tileDot_6 _ _ _ _ _ _ _ h
theorem fD_fX12_tile_302 {σ0 : zSt} {σ : zSt} {s0 : Int32} {s1 : Int32} (h : (zQ [22, 23, 24, 25, 9] [(3, 62, 62)] [] []) σ0 σ) : zpc (fX12_tile_302 σ s0 s1) (fun r => (zQ [22, 23, 24, 25, 9] [(3, 62, 62)] [] []) σ0 (r)) := by
  unfold fX12_tile_302
  exact zpc_ck (zpc_bs (zQ.wi h rfl) (fun σ1 hσ1 => zpc_some hσ1))
theorem fD_fX12_tile_301 {σ0 : zSt} {σ : zSt} {s0 : Int32} (h : (zQ [22, 23, 24, 25, 9] [(3, 62, 62)] [] []) σ0 σ) : zpc (fX12_tile_301 σ s0) (fun r => (zQ [22, 23, 24, 25, 9] [(3, 62, 62)] [] []) σ0 (r)) := by
  unfold fX12_tile_301
  exact fD_fX12_tile_302 h
theorem fD_fX12_tile_276 {σ0 : zSt} {σ : zSt} {x2 : Int32} {x9 : Int32} {x12 : Int32} {s0 : Int32} {s1 : Int32} {s2 : Int32} (h : (zQ [22, 23, 24, 25, 9] [(3, 62, 62)] [] []) σ0 σ) : zpc (fX12_tile_276 σ x2 x9 x12 s0 s1 s2) (fun r => (zQ [22, 23, 24, 25, 9] [(3, 62, 62)] [] []) σ0 (r)) := by
  unfold fX12_tile_276
  exact zpc_ck (zpc_bs (zQ.wi h rfl) (fun σ2 hσ2 => zpc_if (fun _ => fD_fX12_tile_301 hσ2) (fun _ => zpc_if (fun _ => fD_fX12_tile_301 hσ2) (fun _ => fD_fX12_tile_302 hσ2))))
theorem fD_fX12_tile_236 {σ0 : zSt} {σ : zSt} {x2 : Int32} {x9 : Int32} {x10 : Int32} {s0 : Int32} (h : (zQ [22, 23, 24, 25, 9] [(3, 62, 62)] [] []) σ0 σ) : zpc (fX12_tile_236 σ x2 x9 x10 s0) (fun r => (zQ [22, 23, 24, 25, 9] [(3, 62, 62)] [] []) σ0 (r)) := by
  unfold fX12_tile_236
  exact zpc_bi (fD_fX12_tileDot h) (fun σ3 v4 hσ3 => zpc_if (fun _ => fD_fX12_tile_276 hσ3) (fun _ => fD_fX12_tile_276 hσ3))
theorem fD_fX12_tile_209 {σ0 : zSt} {σ : zSt} {x2 : Int32} {x7 : Int32} {x9 : Int32} {s0 : Int32} (h : (zQ [22, 23, 24, 25, 9] [(3, 62, 62)] [] []) σ0 σ) : zpc (fX12_tile_209 σ x2 x7 x9 s0) (fun r => (zQ [22, 23, 24, 25, 9] [(3, 62, 62)] [] []) σ0 (r)) := by
  unfold fX12_tile_209
  exact zpc_if (fun _ => zpc_ck (fD_fX12_tile_236 h)) (fun _ => zpc_ck (fD_fX12_tile_236 h))
theorem fD_fX12_tile_141 {σ0 : zSt} {σ : zSt} {x2 : Int32} {x4 : Int32} {x6 : Int32} {s0 : Int32} (h : (zQ [22, 23, 24, 25, 9] [(3, 62, 62)] [] []) σ0 σ) : zpc (fX12_tile_141 σ x2 x4 x6 s0) (fun r => (zQ [22, 23, 24, 25, 9] [(3, 62, 62)] [] []) σ0 (r)) := by
  unfold fX12_tile_141
  exact zpc_ck (zpc_ck (zpc_bv (fun v5 _ => zpc_bi (fD_fX12_video8 h) (fun σ6 v7 hσ6 => zpc_bi (fD_fX12_video8 hσ6) (fun σ8 v9 hσ8 => zpc_bv (fun v10 _ => zpc_if (fun _ => zpc_ck (fD_fX12_tile_209 hσ8)) (fun _ => zpc_ck (fD_fX12_tile_209 hσ8))))))))
theorem fD_fX12_tile_140 {σ0 : zSt} {σ : zSt} {x2 : Int32} {x4 : Int32} {x6 : Int32} {s0 : Int32} {s1 : Int32} (h : (zQ [22, 23, 24, 25, 9] [(3, 62, 62)] [] []) σ0 σ) : zpc (fX12_tile_140 σ x2 x4 x6 s0 s1) (fun r => (zQ [22, 23, 24, 25, 9] [(3, 62, 62)] [] []) σ0 (r)) := by
  unfold fX12_tile_140
  exact zpc_ck (fD_fX12_tile_141 h)
theorem fD_fX12_tile_118 {σ0 : zSt} {σ : zSt} {x1 : Int32} {x2 : Int32} {x3 : Int32} {x4 : Int32} {x6 : Int32} (h : (zQ [22, 23, 24, 25, 9] [(3, 62, 62)] [] []) σ0 σ) : zpc (fX12_tile_118 σ x1 x2 x3 x4 x6) (fun r => (zQ [22, 23, 24, 25, 9] [(3, 62, 62)] [] []) σ0 (r)) := by
  unfold fX12_tile_118
  exact zpc_ck (zpc_if (fun _ => fD_fX12_tile_140 h) (fun _ => fD_fX12_tile_140 h))
theorem fD_fX12_tile_84 {σ0 : zSt} {σ : zSt} {x1 : Int32} {x2 : Int32} {x3 : Int32} {x4 : Int32} {s0 : Int32} (h : (zQ [22, 23, 24, 25, 9] [(3, 62, 62)] [] []) σ0 σ) : zpc (fX12_tile_84 σ x1 x2 x3 x4 s0) (fun r => (zQ [22, 23, 24, 25, 9] [(3, 62, 62)] [] []) σ0 (r)) := by
  unfold fX12_tile_84
  exact zpc_bv (fun v11 _ => zpc_if (fun _ => fD_fX12_tile_118 h) (fun _ => zpc_bi (fD_fX12_bit h) (fun σ12 v13 hσ12 => zpc_if (fun _ => fD_fX12_tile_141 hσ12) (fun _ => fD_fX12_tile_118 hσ12))))
theorem fD_fX12_tile_78 {σ0 : zSt} {σ : zSt} {x1 : Int32} {x2 : Int32} {x3 : Int32} {x4 : Int32} (h : (zQ [22, 23, 24, 25, 9] [(3, 62, 62)] [] []) σ0 σ) : zpc (fX12_tile_78 σ x1 x2 x3 x4) (fun r => (zQ [22, 23, 24, 25, 9] [(3, 62, 62)] [] []) σ0 (r)) := by
  unfold fX12_tile_78
  exact zpc_bi (fD_fX12_reg h) (fun σ14 v15 hσ14 => fD_fX12_tile_84 hσ14)
theorem fD_fX12_tile_55 {σ0 : zSt} {σ : zSt} {x1 : Int32} {x2 : Int32} {x3 : Int32} {s0 : Int32} (h : (zQ [22, 23, 24, 25, 9] [(3, 62, 62)] [] []) σ0 σ) : zpc (fX12_tile_55 σ x1 x2 x3 s0) (fun r => (zQ [22, 23, 24, 25, 9] [(3, 62, 62)] [] []) σ0 (r)) := by
  unfold fX12_tile_55
  exact zpc_if (fun _ => fD_fX12_tile_78 h) (fun _ => zpc_bi (fD_fX12_bit h) (fun σ16 v17 hσ16 => zpc_if (fun _ => fD_fX12_tile_84 hσ16) (fun _ => fD_fX12_tile_78 hσ16)))
theorem fD_fX12_tile_15 {σ0 : zSt} {σ : zSt} {x1 : Int32} {x2 : Int32} {s0 : Int32} (h : (zQ [22, 23, 24, 25, 9] [(3, 62, 62)] [] []) σ0 σ) : zpc (fX12_tile_15 σ x1 x2 s0) (fun r => (zQ [22, 23, 24, 25, 9] [(3, 62, 62)] [] []) σ0 (r)) := by
  unfold fX12_tile_15
  exact zpc_if (fun _ => zpc_bi (fD_fX12_reg h) (fun σ18 v19 hσ18 => zpc_ck (zpc_ck (fD_fX12_tile_55 hσ18)))) (fun _ => zpc_bi (fD_fX12_reg h) (fun σ20 v21 hσ20 => zpc_ck (fD_fX12_tile_55 hσ20)))
theorem fD_fX12_tile {σ0 : zSt} {σ : zSt} {x1 : Int32} {x2 : Int32} (h : (zQ [22, 23, 24, 25, 9] [(3, 62, 62)] [] []) σ0 σ) : zpc (fX12_tile σ x1 x2) (fun r => (zQ [22, 23, 24, 25, 9] [(3, 62, 62)] [] []) σ0 (r)) := by
  unfold fX12_tile
  exact zpc_bi (fD_fX12_height h) (fun σ22 v23 hσ22 => zpc_if (fun _ => fD_fX12_tile_15 hσ22) (fun _ => fD_fX12_tile_15 hσ22))
theorem fD_fX12_sprites_349 {σ0 : zSt} {k73 : zSt → Int32 → Int32 → Int32 → Int32 → Int32 → Int32 → Int32 → Option (zSt)} (hk73 : ∀ (y0 : zSt) (y1 : Int32) (y2 : Int32) (y3 : Int32) (y4 : Int32) (y5 : Int32) (y6 : Int32) (y7 : Int32), (zQ [22, 23, 24, 25, 9] [(3, 62, 62)] [] []) σ0 y0 → zpc (k73 y0 y1 y2 y3 y4 y5 y6 y7) (fun r => (zQ [22, 23, 24, 25, 9] [(3, 62, 62)] [] []) σ0 (r))) {σ : zSt} {x1 : Int32} {x2 : Int32} {x3 : Int32} {x4 : Int32} {x5 : Int32} {x6 : Int32} {x7 : Int32} (h : (zQ [22, 23, 24, 25, 9] [(3, 62, 62)] [] []) σ0 σ) : zpc (fX12_sprites_349 k73 σ x1 x2 x3 x4 x5 x6 x7) (fun r => (zQ [22, 23, 24, 25, 9] [(3, 62, 62)] [] []) σ0 (r)) := by
  unfold fX12_sprites_349
  exact zpc_bv (fun v1 _ => hk73 _ _ _ _ _ _ _ _ h)
theorem fD_fX12_sprites_343 {σ0 : zSt} {k73 : zSt → Int32 → Int32 → Int32 → Int32 → Int32 → Int32 → Int32 → Option (zSt)} (hk73 : ∀ (y0 : zSt) (y1 : Int32) (y2 : Int32) (y3 : Int32) (y4 : Int32) (y5 : Int32) (y6 : Int32) (y7 : Int32), (zQ [22, 23, 24, 25, 9] [(3, 62, 62)] [] []) σ0 y0 → zpc (k73 y0 y1 y2 y3 y4 y5 y6 y7) (fun r => (zQ [22, 23, 24, 25, 9] [(3, 62, 62)] [] []) σ0 (r))) {k250 : zSt → Int32 → Int32 → Int32 → Int32 → Int32 → Int32 → Int32 → Int32 → Int32 → Int32 → Int32 → Option (zSt)} (hk250 : ∀ (y0 : zSt) (y1 : Int32) (y2 : Int32) (y3 : Int32) (y4 : Int32) (y5 : Int32) (y6 : Int32) (y7 : Int32) (y8 : Int32) (y9 : Int32) (y10 : Int32) (y11 : Int32), (zQ [22, 23, 24, 25, 9] [(3, 62, 62)] [] []) σ0 y0 → zpc (k250 y0 y1 y2 y3 y4 y5 y6 y7 y8 y9 y10 y11) (fun r => (zQ [22, 23, 24, 25, 9] [(3, 62, 62)] [] []) σ0 (r))) {σ : zSt} {x1 : Int32} {x2 : Int32} {x3 : Int32} {x4 : Int32} {x5 : Int32} {x6 : Int32} {x7 : Int32} {x9 : Int32} {x10 : Int32} {x11 : Int32} {x12 : Int32} (h : (zQ [22, 23, 24, 25, 9] [(3, 62, 62)] [] []) σ0 σ) : zpc (fX12_sprites_343 k73 k250 σ x1 x2 x3 x4 x5 x6 x7 x9 x10 x11 x12) (fun r => (zQ [22, 23, 24, 25, 9] [(3, 62, 62)] [] []) σ0 (r)) := by
  unfold fX12_sprites_343
  exact zpc_bv (fun v2 _ => hk250 _ _ _ _ _ _ _ _ _ _ _ _ h)
theorem fD_fX12_sprites_250_body {σ0 : zSt} {k73 : zSt → Int32 → Int32 → Int32 → Int32 → Int32 → Int32 → Int32 → Option (zSt)} (hk73 : ∀ (y0 : zSt) (y1 : Int32) (y2 : Int32) (y3 : Int32) (y4 : Int32) (y5 : Int32) (y6 : Int32) (y7 : Int32), (zQ [22, 23, 24, 25, 9] [(3, 62, 62)] [] []) σ0 y0 → zpc (k73 y0 y1 y2 y3 y4 y5 y6 y7) (fun r => (zQ [22, 23, 24, 25, 9] [(3, 62, 62)] [] []) σ0 (r))) {k250 : zSt → Int32 → Int32 → Int32 → Int32 → Int32 → Int32 → Int32 → Int32 → Int32 → Int32 → Int32 → Option (zSt)} (hk250 : ∀ (y0 : zSt) (y1 : Int32) (y2 : Int32) (y3 : Int32) (y4 : Int32) (y5 : Int32) (y6 : Int32) (y7 : Int32) (y8 : Int32) (y9 : Int32) (y10 : Int32) (y11 : Int32), (zQ [22, 23, 24, 25, 9] [(3, 62, 62)] [] []) σ0 y0 → zpc (k250 y0 y1 y2 y3 y4 y5 y6 y7 y8 y9 y10 y11) (fun r => (zQ [22, 23, 24, 25, 9] [(3, 62, 62)] [] []) σ0 (r))) {σ : zSt} {x1 : Int32} {x2 : Int32} {x3 : Int32} {x4 : Int32} {x5 : Int32} {x6 : Int32} {x7 : Int32} {x9 : Int32} {x10 : Int32} {x11 : Int32} {x12 : Int32} (h : (zQ [22, 23, 24, 25, 9] [(3, 62, 62)] [] []) σ0 σ) : zpc (fX12_sprites_250_body k73 k250 σ x1 x2 x3 x4 x5 x6 x7 x9 x10 x11 x12) (fun r => (zQ [22, 23, 24, 25, 9] [(3, 62, 62)] [] []) σ0 (r)) := by
  unfold fX12_sprites_250_body
  exact zpc_if (fun _ => fD_fX12_sprites_349 hk73 h) (fun _ => zpc_ck (zpc_ck (zpc_ck (zpc_bi (fD_fX12_tileDot h) (fun σ3 v4 hσ3 => zpc_bv (fun v5 _ => zpc_if (fun _ => fD_fX12_sprites_343 hk73 hk250 hσ3) (fun _ => zpc_if (fun _ => fD_fX12_sprites_343 hk73 hk250 hσ3) (fun _ => zpc_if (fun _ => zpc_ck (zpc_if (fun _ => zpc_ck (zpc_bs (zQ.wi hσ3 rfl) (fun σ6 hσ6 => fD_fX12_sprites_343 hk73 hk250 hσ6))) (fun _ => zpc_ck (zpc_ck (zpc_bs (zQ.wi hσ3 rfl) (fun σ7 hσ7 => fD_fX12_sprites_343 hk73 hk250 hσ7)))))) (fun _ => fD_fX12_sprites_343 hk73 hk250 hσ3)))))))))
theorem fD_fX12_sprites_250 {σ0 : zSt} {k73 : zSt → Int32 → Int32 → Int32 → Int32 → Int32 → Int32 → Int32 → Option (zSt)} (hk73 : ∀ (y0 : zSt) (y1 : Int32) (y2 : Int32) (y3 : Int32) (y4 : Int32) (y5 : Int32) (y6 : Int32) (y7 : Int32), (zQ [22, 23, 24, 25, 9] [(3, 62, 62)] [] []) σ0 y0 → zpc (k73 y0 y1 y2 y3 y4 y5 y6 y7) (fun r => (zQ [22, 23, 24, 25, 9] [(3, 62, 62)] [] []) σ0 (r))) : ∀ (n : Nat) (y0 : zSt) (y1 : Int32) (y2 : Int32) (y3 : Int32) (y4 : Int32) (y5 : Int32) (y6 : Int32) (y7 : Int32) (y8 : Int32) (y9 : Int32) (y10 : Int32) (y11 : Int32), (zQ [22, 23, 24, 25, 9] [(3, 62, 62)] [] []) σ0 y0 → zpc (fX12_sprites_250 k73 n y0 y1 y2 y3 y4 y5 y6 y7 y8 y9 y10 y11) (fun r => (zQ [22, 23, 24, 25, 9] [(3, 62, 62)] [] []) σ0 (r)) := by
  intro n
  induction n with
  | zero => intro y0 y1 y2 y3 y4 y5 y6 y7 y8 y9 y10 y11 h; exact zpc_none
  | succ n ih => intro y0 y1 y2 y3 y4 y5 y6 y7 y8 y9 y10 y11 h; exact fD_fX12_sprites_250_body hk73 ih h
theorem fD_fX12_sprites_244 {σ0 : zSt} {k73 : zSt → Int32 → Int32 → Int32 → Int32 → Int32 → Int32 → Int32 → Option (zSt)} (hk73 : ∀ (y0 : zSt) (y1 : Int32) (y2 : Int32) (y3 : Int32) (y4 : Int32) (y5 : Int32) (y6 : Int32) (y7 : Int32), (zQ [22, 23, 24, 25, 9] [(3, 62, 62)] [] []) σ0 y0 → zpc (k73 y0 y1 y2 y3 y4 y5 y6 y7) (fun r => (zQ [22, 23, 24, 25, 9] [(3, 62, 62)] [] []) σ0 (r))) {σ : zSt} {x1 : Int32} {x2 : Int32} {x3 : Int32} {x4 : Int32} {x5 : Int32} {x6 : Int32} {x7 : Int32} {x9 : Int32} {x10 : Int32} {s0 : Int32} {s1 : Int32} (h : (zQ [22, 23, 24, 25, 9] [(3, 62, 62)] [] []) σ0 σ) : zpc (fX12_sprites_244 k73 σ x1 x2 x3 x4 x5 x6 x7 x9 x10 s0 s1) (fun r => (zQ [22, 23, 24, 25, 9] [(3, 62, 62)] [] []) σ0 (r)) := by
  unfold fX12_sprites_244
  exact zpc_bv (fun v8 _ => fD_fX12_sprites_250 hk73 _ _ _ _ _ _ _ _ _ _ _ _ _ h)
theorem fD_fX12_sprites_212 {σ0 : zSt} {k73 : zSt → Int32 → Int32 → Int32 → Int32 → Int32 → Int32 → Int32 → Option (zSt)} (hk73 : ∀ (y0 : zSt) (y1 : Int32) (y2 : Int32) (y3 : Int32) (y4 : Int32) (y5 : Int32) (y6 : Int32) (y7 : Int32), (zQ [22, 23, 24, 25, 9] [(3, 62, 62)] [] []) σ0 y0 → zpc (k73 y0 y1 y2 y3 y4 y5 y6 y7) (fun r => (zQ [22, 23, 24, 25, 9] [(3, 62, 62)] [] []) σ0 (r))) {σ : zSt} {x1 : Int32} {x2 : Int32} {x3 : Int32} {x4 : Int32} {x5 : Int32} {x6 : Int32} {x7 : Int32} {x9 : Int32} {s0 : Int32} (h : (zQ [22, 23, 24, 25, 9] [(3, 62, 62)] [] []) σ0 σ) : zpc (fX12_sprites_212 k73 σ x1 x2 x3 x4 x5 x6 x7 x9 s0) (fun r => (zQ [22, 23, 24, 25, 9] [(3, 62, 62)] [] []) σ0 (r)) := by
  unfold fX12_sprites_212
  exact zpc_bi (fD_fX12_video8 h) (fun σ9 v10 hσ9 => zpc_bi (fD_fX12_bit hσ9) (fun σ11 v12 hσ11 => zpc_if (fun _ => fD_fX12_sprites_244 hk73 hσ11) (fun _ => fD_fX12_sprites_244 hk73 hσ11)))
theorem fD_fX12_sprites_183 {σ0 : zSt} {k73 : zSt → Int32 → Int32 → Int32 → Int32 → Int32 → Int32 → Int32 → Option (zSt)} (hk73 : ∀ (y0 : zSt) (y1 : Int32) (y2 : Int32) (y3 : Int32) (y4 : Int32) (y5 : Int32) (y6 : Int32) (y7 : Int32), (zQ [22, 23, 24, 25, 9] [(3, 62, 62)] [] []) σ0 y0 → zpc (k73 y0 y1 y2 y3 y4 y5 y6 y7) (fun r => (zQ [22, 23, 24, 25, 9] [(3, 62, 62)] [] []) σ0 (r))) {σ : zSt} {x1 : Int32} {x2 : Int32} {x3 : Int32} {x4 : Int32} {x5 : Int32} {x6 : Int32} {x7 : Int32} {x9 : Int32} {s0 : Int32} {s1 : Int32} (h : (zQ [22, 23, 24, 25, 9] [(3, 62, 62)] [] []) σ0 σ) : zpc (fX12_sprites_183 k73 σ x1 x2 x3 x4 x5 x6 x7 x9 s0 s1) (fun r => (zQ [22, 23, 24, 25, 9] [(3, 62, 62)] [] []) σ0 (r)) := by
  unfold fX12_sprites_183
  exact zpc_bv (fun v13 _ => zpc_if (fun _ => zpc_ck (zpc_ck (fD_fX12_sprites_212 hk73 h))) (fun _ => fD_fX12_sprites_212 hk73 h))
theorem fD_fX12_sprites_104 {σ0 : zSt} {k73 : zSt → Int32 → Int32 → Int32 → Int32 → Int32 → Int32 → Int32 → Option (zSt)} (hk73 : ∀ (y0 : zSt) (y1 : Int32) (y2 : Int32) (y3 : Int32) (y4 : Int32) (y5 : Int32) (y6 : Int32) (y7 : Int32), (zQ [22, 23, 24, 25, 9] [(3, 62, 62)] [] []) σ0 y0 → zpc (k73 y0 y1 y2 y3 y4 y5 y6 y7) (fun r => (zQ [22, 23, 24, 25, 9] [(3, 62, 62)] [] []) σ0 (r))) {σ : zSt} {x1 : Int32} {x2 : Int32} {x3 : Int32} {x4 : Int32} {x5 : Int32} {x6 : Int32} {x7 : Int32} {x8 : Int32} (h : (zQ [22, 23, 24, 25, 9] [(3, 62, 62)] [] []) σ0 σ) : zpc (fX12_sprites_104 k73 σ x1 x2 x3 x4 x5 x6 x7 x8) (fun r => (zQ [22, 23, 24, 25, 9] [(3, 62, 62)] [] []) σ0 (r)) := by
  unfold fX12_sprites_104
  exact zpc_bv (fun v14 _ => zpc_if (fun _ => zpc_if (fun _ => zpc_ck (zpc_ck (zpc_bs (zQ.wi h rfl) (fun σ20 hσ20 => zpc_some hσ20)))) (fun _ => zpc_bv (fun v15 _ => zpc_bi (fD_fX12_video8 h) (fun σ16 v17 hσ16 => zpc_bi (fD_fX12_bit hσ16) (fun σ18 v19 hσ18 => zpc_if (fun _ => fD_fX12_sprites_183 hk73 hσ18) (fun _ => fD_fX12_sprites_183 hk73 hσ18)))))) (fun _ => fD_fX12_sprites_349 hk73 h))
theorem fD_fX12_sprites_73_body {σ0 : zSt} {k73 : zSt → Int32 → Int32 → Int32 → Int32 → Int32 → Int32 → Int32 → Option (zSt)} (hk73 : ∀ (y0 : zSt) (y1 : Int32) (y2 : Int32) (y3 : Int32) (y4 : Int32) (y5 : Int32) (y6 : Int32) (y7 : Int32), (zQ [22, 23, 24, 25, 9] [(3, 62, 62)] [] []) σ0 y0 → zpc (k73 y0 y1 y2 y3 y4 y5 y6 y7) (fun r => (zQ [22, 23, 24, 25, 9] [(3, 62, 62)] [] []) σ0 (r))) {σ : zSt} {x1 : Int32} {x2 : Int32} {x3 : Int32} {x4 : Int32} {x5 : Int32} {x6 : Int32} {x7 : Int32} (h : (zQ [22, 23, 24, 25, 9] [(3, 62, 62)] [] []) σ0 σ) : zpc (fX12_sprites_73_body k73 σ x1 x2 x3 x4 x5 x6 x7) (fun r => (zQ [22, 23, 24, 25, 9] [(3, 62, 62)] [] []) σ0 (r)) := by
  unfold fX12_sprites_73_body
  exact zpc_if (fun _ => zpc_some h) (fun _ => zpc_bi (fD_fX12_video8 h) (fun σ21 v22 hσ21 => zpc_if (fun _ => fD_fX12_sprites_104 hk73 hσ21) (fun _ => zpc_if (fun _ => zpc_some hσ21) (fun _ => fD_fX12_sprites_104 hk73 hσ21))))
theorem fD_fX12_sprites_73 {σ0 : zSt} : ∀ (n : Nat) (y0 : zSt) (y1 : Int32) (y2 : Int32) (y3 : Int32) (y4 : Int32) (y5 : Int32) (y6 : Int32) (y7 : Int32), (zQ [22, 23, 24, 25, 9] [(3, 62, 62)] [] []) σ0 y0 → zpc (fX12_sprites_73 n y0 y1 y2 y3 y4 y5 y6 y7) (fun r => (zQ [22, 23, 24, 25, 9] [(3, 62, 62)] [] []) σ0 (r)) := by
  intro n
  induction n with
  | zero => intro y0 y1 y2 y3 y4 y5 y6 y7 h; exact zpc_none
  | succ n ih => intro y0 y1 y2 y3 y4 y5 y6 y7 h; exact fD_fX12_sprites_73_body ih h
theorem fD_fX12_sprites_68 {σ0 : zSt} {σ : zSt} {x1 : Int32} {x2 : Int32} {x3 : Int32} {x4 : Int32} {x5 : Int32} {s0 : Int32} (h : (zQ [22, 23, 24, 25, 9] [(3, 62, 62)] [] []) σ0 σ) : zpc (fX12_sprites_68 σ x1 x2 x3 x4 x5 s0) (fun r => (zQ [22, 23, 24, 25, 9] [(3, 62, 62)] [] []) σ0 (r)) := by
  unfold fX12_sprites_68
  exact fD_fX12_sprites_73 _ _ _ _ _ _ _ _ _ h
theorem fD_fX12_sprites_48 {σ0 : zSt} {σ : zSt} {x1 : Int32} {x2 : Int32} {x3 : Int32} {s0 : Int32} (h : (zQ [22, 23, 24, 25, 9] [(3, 62, 62)] [] []) σ0 σ) : zpc (fX12_sprites_48 σ x1 x2 x3 s0) (fun r => (zQ [22, 23, 24, 25, 9] [(3, 62, 62)] [] []) σ0 (r)) := by
  unfold fX12_sprites_48
  exact zpc_bi (fD_fX12_height h) (fun σ23 v24 hσ23 => zpc_if (fun _ => fD_fX12_sprites_68 hσ23) (fun _ => fD_fX12_sprites_68 hσ23))
theorem fD_fX12_sprites_30 {σ0 : zSt} {σ : zSt} {x1 : Int32} {x2 : Int32} {s0 : Int32} (h : (zQ [22, 23, 24, 25, 9] [(3, 62, 62)] [] []) σ0 σ) : zpc (fX12_sprites_30 σ x1 x2 s0) (fun r => (zQ [22, 23, 24, 25, 9] [(3, 62, 62)] [] []) σ0 (r)) := by
  unfold fX12_sprites_30
  exact zpc_bi (fD_fX12_bit h) (fun σ25 v26 hσ25 => zpc_if (fun _ => fD_fX12_sprites_48 hσ25) (fun _ => fD_fX12_sprites_48 hσ25))
theorem fD_fX12_sprites {σ0 : zSt} {σ : zSt} {x1 : Int32} (h : (zQ [22, 23, 24, 25, 9] [(3, 62, 62)] [] []) σ0 σ) : zpc (fX12_sprites σ x1) (fun r => (zQ [22, 23, 24, 25, 9] [(3, 62, 62)] [] []) σ0 (r)) := by
  unfold fX12_sprites
  exact zpc_bi (fD_fX12_reg h) (fun σ27 v28 hσ27 => zpc_ck (zpc_ck (zpc_bv (fun v29 _ => zpc_bi (fD_fX12_bit hσ27) (fun σ30 v31 hσ30 => zpc_if (fun _ => fD_fX12_sprites_30 hσ30) (fun _ => fD_fX12_sprites_30 hσ30))))))
theorem fD_fX12_colour_62 {σ0 : zSt} {σ : zSt} {s0 : Int32} (h : (zQ [22, 23, 24, 25, 9] [(3, 62, 62)] [] []) σ0 σ) : zpc (fX12_colour_62 σ s0) (fun r => (zQ [22, 23, 24, 25, 9] [(3, 62, 62)] [] []) σ0 (r.1)) := by
  unfold fX12_colour_62
  exact zpc_some h
theorem fD_fX12_colour_252 {σ0 : zSt} {σ : zSt} {s0 : Int32} (h : (zQ [22, 23, 24, 25, 9] [(3, 62, 62)] [] []) σ0 σ) : zpc (fX12_colour_252 σ s0) (fun r => (zQ [22, 23, 24, 25, 9] [(3, 62, 62)] [] []) σ0 (r.1)) := by
  unfold fX12_colour_252
  exact zpc_some h
theorem fD_fX12_colour_217 {σ0 : zSt} {σ : zSt} {x2 : Int32} (h : (zQ [22, 23, 24, 25, 9] [(3, 62, 62)] [] []) σ0 σ) : zpc (fX12_colour_217 σ x2) (fun r => (zQ [22, 23, 24, 25, 9] [(3, 62, 62)] [] []) σ0 (r.1)) := by
  unfold fX12_colour_217
  exact zpc_if (fun _ => zpc_ck (zpc_ck (zpc_ck (zpc_ck (fD_fX12_colour_252 h))))) (fun _ => fD_fX12_colour_252 h)
theorem fD_fX12_colour {σ0 : zSt} {σ : zSt} {x1 : Int32} (h : (zQ [22, 23, 24, 25, 9] [(3, 62, 62)] [] []) σ0 σ) : zpc (fX12_colour σ x1) (fun r => (zQ [22, 23, 24, 25, 9] [(3, 62, 62)] [] []) σ0 (r.1)) := by
  unfold fX12_colour
  exact zpc_bi (fD_fX12_mode h) (fun σ1 v2 hσ1 => zpc_if (fun _ => zpc_if (fun _ => zpc_ck (zpc_ck (zpc_ck (fD_fX12_colour_62 hσ1)))) (fun _ => zpc_ck (fD_fX12_colour_62 hσ1))) (fun _ => zpc_if (fun _ => fD_fX12_colour_217 hσ1) (fun _ => zpc_if (fun _ => fD_fX12_colour_217 hσ1) (fun _ => zpc_if (fun _ => fD_fX12_colour_217 hσ1) (fun _ => zpc_if (fun _ => fD_fX12_colour_217 hσ1) (fun _ => zpc_if (fun _ => fD_fX12_colour_217 hσ1) (fun _ => zpc_if (fun _ => fD_fX12_colour_217 hσ1) (fun _ => zpc_if (fun _ => fD_fX12_colour_217 hσ1) (fun _ => zpc_if (fun _ => fD_fX12_colour_217 hσ1) (fun _ => zpc_if (fun _ => fD_fX12_colour_217 hσ1) (fun _ => zpc_if (fun _ => fD_fX12_colour_217 hσ1) (fun _ => zpc_if (fun _ => fD_fX12_colour_217 hσ1) (fun _ => zpc_if (fun _ => fD_fX12_colour_217 hσ1) (fun _ => zpc_if (fun _ => fD_fX12_colour_217 hσ1) (fun _ => zpc_if (fun _ => fD_fX12_colour_217 hσ1) (fun _ => fD_fX12_colour_217 hσ1))))))))))))))))
theorem fD_fX12_old_48 {σ0 : zSt} {σ : zSt} (h : (zQ [22, 23, 24, 25, 9] [(3, 62, 62)] [] []) σ0 σ) : zpc (fX12_old_48 σ) (fun r => (zQ [22, 23, 24, 25, 9] [(3, 62, 62)] [] []) σ0 (r.1)) := by
  unfold fX12_old_48
  exact zpc_some h
theorem fD_fX12_old_131 {σ0 : zSt} {σ : zSt} {s0 : Int32} (h : (zQ [22, 23, 24, 25, 9] [(3, 62, 62)] [] []) σ0 σ) : zpc (fX12_old_131 σ s0) (fun r => (zQ [22, 23, 24, 25, 9] [(3, 62, 62)] [] []) σ0 (r.1)) := by
  unfold fX12_old_131
  exact zpc_some h
theorem fD_fX12_old_209 {σ0 : zSt} {σ : zSt} {s0 : Int32} (h : (zQ [22, 23, 24, 25, 9] [(3, 62, 62)] [] []) σ0 σ) : zpc (fX12_old_209 σ s0) (fun r => (zQ [22, 23, 24, 25, 9] [(3, 62, 62)] [] []) σ0 (r.1)) := by
  unfold fX12_old_209
  exact zpc_some h
theorem fD_fX12_old_395 {σ0 : zSt} {σ : zSt} {s0 : Int32} (h : (zQ [22, 23, 24, 25, 9] [(3, 62, 62)] [] []) σ0 σ) : zpc (fX12_old_395 σ s0) (fun r => (zQ [22, 23, 24, 25, 9] [(3, 62, 62)] [] []) σ0 (r.1)) := by
  unfold fX12_old_395
  exact zpc_some h
theorem fD_fX12_old_367 {σ0 : zSt} {σ : zSt} {x2 : Int32} {x6 : Int32} {x7 : Int32} (h : (zQ [22, 23, 24, 25, 9] [(3, 62, 62)] [] []) σ0 σ) : zpc (fX12_old_367 σ x2 x6 x7) (fun r => (zQ [22, 23, 24, 25, 9] [(3, 62, 62)] [] []) σ0 (r.1)) := by
  unfold fX12_old_367
  exact zpc_ck (zpc_if (fun _ => fD_fX12_old_395 h) (fun _ => fD_fX12_old_395 h))
theorem fD_fX12_old {σ0 : zSt} {σ : zSt} {x1 : Int32} {x2 : Int32} (h : (zQ [22, 23, 24, 25, 9] [(3, 62, 62)] [] []) σ0 σ) : zpc (fX12_old σ x1 x2) (fun r => (zQ [22, 23, 24, 25, 9] [(3, 62, 62)] [] []) σ0 (r.1)) := by
  unfold fX12_old
  exact zpc_bi (fD_fX12_reg h) (fun σ1 v2 hσ1 => zpc_ck (zpc_bv (fun v3 _ => zpc_bi (fD_fX12_reg hσ1) (fun σ4 v5 hσ4 => zpc_ck (zpc_bv (fun v6 _ => zpc_bi (fD_fX12_mode hσ4) (fun σ7 v8 hσ7 => zpc_if (fun _ => zpc_if (fun _ => fD_fX12_old_48 hσ7) (fun _ => zpc_if (fun _ => zpc_ck (zpc_ck (zpc_bi (fD_fX12_video8 hσ7) (fun σ38 v39 hσ38 => zpc_ck (zpc_bi (fD_fX12_video8 hσ38) (fun σ40 v41 hσ40 => zpc_ck (zpc_bv (fun v42 _ => zpc_if (fun _ => zpc_bi (fD_fX12_reg hσ40) (fun σ45 v46 hσ45 => fD_fX12_old_131 hσ45)) (fun _ => zpc_bi (fD_fX12_reg hσ40) (fun σ43 v44 hσ43 => fD_fX12_old_131 hσ43)))))))))) (fun _ => fD_fX12_old_48 hσ7))) (fun _ => zpc_ck (zpc_ck (zpc_bi (fD_fX12_video8 hσ7) (fun σ9 v10 hσ9 => zpc_bi (fD_fX12_mode hσ9) (fun σ11 v12 hσ11 => zpc_if (fun _ => zpc_ck (zpc_ck (zpc_ck (zpc_ck (zpc_bi (fD_fX12_video8 hσ11) (fun σ36 v37 hσ36 => zpc_ck (zpc_if (fun _ => fD_fX12_old_209 hσ36) (fun _ => fD_fX12_old_209 hσ36)))))))) (fun _ => zpc_bi (fD_fX12_mode hσ11) (fun σ13 v14 hσ13 => zpc_if (fun _ => zpc_ck (zpc_bi (fD_fX12_video8 hσ13) (fun σ30 v31 hσ30 => zpc_bi (fD_fX12_reg hσ30) (fun σ32 v33 hσ32 => zpc_ck (zpc_bi (fD_fX12_video8 hσ32) (fun σ34 v35 hσ34 => fD_fX12_old_367 hσ34)))))) (fun _ => zpc_ck (zpc_bv (fun v15 _ => zpc_bi (fD_fX12_reg hσ13) (fun σ16 v17 hσ16 => zpc_ck (zpc_bv (fun v18 _ => zpc_bi (fD_fX12_reg hσ16) (fun σ19 v20 hσ19 => zpc_ck (zpc_bv (fun v21 _ => zpc_bi (fD_fX12_bit hσ19) (fun σ22 v23 hσ22 => zpc_ck (zpc_bi (fD_fX12_video8 hσ22) (fun σ24 v25 hσ24 => zpc_bi (fD_fX12_bit hσ24) (fun σ26 v27 hσ26 => zpc_ck (zpc_bi (fD_fX12_video8 hσ26) (fun σ28 v29 hσ28 => fD_fX12_old_367 hσ28)))))))))))))))))))))))))))))
theorem fD_fX12_oldSprites_388 {σ0 : zSt} {k40 : zSt → Int32 → Int32 → Int32 → Int32 → Int32 → Option (zSt)} (hk40 : ∀ (y0 : zSt) (y1 : Int32) (y2 : Int32) (y3 : Int32) (y4 : Int32) (y5 : Int32), (zQ [22, 23, 24, 25, 9] [(3, 62, 62)] [] []) σ0 y0 → zpc (k40 y0 y1 y2 y3 y4 y5) (fun r => (zQ [22, 23, 24, 25, 9] [(3, 62, 62)] [] []) σ0 (r))) {σ : zSt} {x1 : Int32} {x2 : Int32} {x3 : Int32} {x4 : Int32} {x5 : Int32} (h : (zQ [22, 23, 24, 25, 9] [(3, 62, 62)] [] []) σ0 σ) : zpc (fX12_oldSprites_388 k40 σ x1 x2 x3 x4 x5) (fun r => (zQ [22, 23, 24, 25, 9] [(3, 62, 62)] [] []) σ0 (r)) := by
  unfold fX12_oldSprites_388
  exact zpc_bv (fun v1 _ => hk40 _ _ _ _ _ _ h)
theorem fD_fX12_oldSprites_150 {σ0 : zSt} {σ : zSt} (h : (zQ [22, 23, 24, 25, 9] [(3, 62, 62)] [] []) σ0 σ) : zpc (fX12_oldSprites_150 σ) (fun r => (zQ [22, 23, 24, 25, 9] [(3, 62, 62)] [] []) σ0 (r)) := by
  unfold fX12_oldSprites_150
  exact zpc_some h
theorem fD_fX12_oldSprites_382 {σ0 : zSt} {k40 : zSt → Int32 → Int32 → Int32 → Int32 → Int32 → Option (zSt)} (hk40 : ∀ (y0 : zSt) (y1 : Int32) (y2 : Int32) (y3 : Int32) (y4 : Int32) (y5 : Int32), (zQ [22, 23, 24, 25, 9] [(3, 62, 62)] [] []) σ0 y0 → zpc (k40 y0 y1 y2 y3 y4 y5) (fun r => (zQ [22, 23, 24, 25, 9] [(3, 62, 62)] [] []) σ0 (r))) {k231 : zSt → Int32 → Int32 → Int32 → Int32 → Int32 → Int32 → Int32 → Int32 → Int32 → Int32 → Option (zSt)} (hk231 : ∀ (y0 : zSt) (y1 : Int32) (y2 : Int32) (y3 : Int32) (y4 : Int32) (y5 : Int32) (y6 : Int32) (y7 : Int32) (y8 : Int32) (y9 : Int32) (y10 : Int32), (zQ [22, 23, 24, 25, 9] [(3, 62, 62)] [] []) σ0 y0 → zpc (k231 y0 y1 y2 y3 y4 y5 y6 y7 y8 y9 y10) (fun r => (zQ [22, 23, 24, 25, 9] [(3, 62, 62)] [] []) σ0 (r))) {σ : zSt} {x1 : Int32} {x2 : Int32} {x3 : Int32} {x4 : Int32} {x5 : Int32} {x8 : Int32} {x9 : Int32} {x10 : Int32} {x11 : Int32} {x12 : Int32} (h : (zQ [22, 23, 24, 25, 9] [(3, 62, 62)] [] []) σ0 σ) : zpc (fX12_oldSprites_382 k40 k231 σ x1 x2 x3 x4 x5 x8 x9 x10 x11 x12) (fun r => (zQ [22, 23, 24, 25, 9] [(3, 62, 62)] [] []) σ0 (r)) := by
  unfold fX12_oldSprites_382
  exact zpc_bv (fun v2 _ => hk231 _ _ _ _ _ _ _ _ _ _ _ h)
theorem fD_fX12_oldSprites_350 {σ0 : zSt} {k40 : zSt → Int32 → Int32 → Int32 → Int32 → Int32 → Option (zSt)} (hk40 : ∀ (y0 : zSt) (y1 : Int32) (y2 : Int32) (y3 : Int32) (y4 : Int32) (y5 : Int32), (zQ [22, 23, 24, 25, 9] [(3, 62, 62)] [] []) σ0 y0 → zpc (k40 y0 y1 y2 y3 y4 y5) (fun r => (zQ [22, 23, 24, 25, 9] [(3, 62, 62)] [] []) σ0 (r))) {k231 : zSt → Int32 → Int32 → Int32 → Int32 → Int32 → Int32 → Int32 → Int32 → Int32 → Int32 → Option (zSt)} (hk231 : ∀ (y0 : zSt) (y1 : Int32) (y2 : Int32) (y3 : Int32) (y4 : Int32) (y5 : Int32) (y6 : Int32) (y7 : Int32) (y8 : Int32) (y9 : Int32) (y10 : Int32), (zQ [22, 23, 24, 25, 9] [(3, 62, 62)] [] []) σ0 y0 → zpc (k231 y0 y1 y2 y3 y4 y5 y6 y7 y8 y9 y10) (fun r => (zQ [22, 23, 24, 25, 9] [(3, 62, 62)] [] []) σ0 (r))) {σ : zSt} {x1 : Int32} {x2 : Int32} {x3 : Int32} {x4 : Int32} {x5 : Int32} {x8 : Int32} {x9 : Int32} {x10 : Int32} {x11 : Int32} {x12 : Int32} {x15 : Int32} (h : (zQ [22, 23, 24, 25, 9] [(3, 62, 62)] [] []) σ0 σ) : zpc (fX12_oldSprites_350 k40 k231 σ x1 x2 x3 x4 x5 x8 x9 x10 x11 x12 x15) (fun r => (zQ [22, 23, 24, 25, 9] [(3, 62, 62)] [] []) σ0 (r)) := by
  unfold fX12_oldSprites_350
  exact zpc_ck (zpc_bs (zQ.wi h rfl) (fun σ3 hσ3 => zpc_if (fun _ => fD_fX12_oldSprites_382 hk40 hk231 hσ3) (fun _ => zpc_ck (zpc_if (fun _ => zpc_ck (zpc_bs (zQ.wi hσ3 rfl) (fun σ4 hσ4 => fD_fX12_oldSprites_382 hk40 hk231 hσ4))) (fun _ => fD_fX12_oldSprites_382 hk40 hk231 hσ3)))))
theorem fD_fX12_oldSprites_283 {σ0 : zSt} {k40 : zSt → Int32 → Int32 → Int32 → Int32 → Int32 → Option (zSt)} (hk40 : ∀ (y0 : zSt) (y1 : Int32) (y2 : Int32) (y3 : Int32) (y4 : Int32) (y5 : Int32), (zQ [22, 23, 24, 25, 9] [(3, 62, 62)] [] []) σ0 y0 → zpc (k40 y0 y1 y2 y3 y4 y5) (fun r => (zQ [22, 23, 24, 25, 9] [(3, 62, 62)] [] []) σ0 (r))) {k231 : zSt → Int32 → Int32 → Int32 → Int32 → Int32 → Int32 → Int32 → Int32 → Int32 → Int32 → Option (zSt)} (hk231 : ∀ (y0 : zSt) (y1 : Int32) (y2 : Int32) (y3 : Int32) (y4 : Int32) (y5 : Int32) (y6 : Int32) (y7 : Int32) (y8 : Int32) (y9 : Int32) (y10 : Int32), (zQ [22, 23, 24, 25, 9] [(3, 62, 62)] [] []) σ0 y0 → zpc (k231 y0 y1 y2 y3 y4 y5 y6 y7 y8 y9 y10) (fun r => (zQ [22, 23, 24, 25, 9] [(3, 62, 62)] [] []) σ0 (r))) {σ : zSt} {x1 : Int32} {x2 : Int32} {x3 : Int32} {x4 : Int32} {x5 : Int32} {x8 : Int32} {x9 : Int32} {x10 : Int32} {x11 : Int32} {x12 : Int32} {x13 : Int32} {s0 : Int32} {s1 : Int32} (h : (zQ [22, 23, 24, 25, 9] [(3, 62, 62)] [] []) σ0 σ) : zpc (fX12_oldSprites_283 k40 k231 σ x1 x2 x3 x4 x5 x8 x9 x10 x11 x12 x13 s0 s1) (fun r => (zQ [22, 23, 24, 25, 9] [(3, 62, 62)] [] []) σ0 (r)) := by
  unfold fX12_oldSprites_283
  exact zpc_bi (fD_fX12_video8 h) (fun σ5 v6 hσ5 => zpc_ck (zpc_bv (fun v7 _ => zpc_bv (fun v8 _ => zpc_if (fun _ => fD_fX12_oldSprites_382 hk40 hk231 hσ5) (fun _ => zpc_if (fun _ => fD_fX12_oldSprites_382 hk40 hk231 hσ5) (fun _ => zpc_if (fun _ => zpc_ck (zpc_if (fun _ => fD_fX12_oldSprites_350 hk40 hk231 hσ5) (fun _ => zpc_ck (zpc_ck (zpc_bs (zQ.wi hσ5 rfl) (fun σ9 hσ9 => fD_fX12_oldSprites_350 hk40 hk231 hσ9)))))) (fun _ => fD_fX12_oldSprites_382 hk40 hk231 hσ5)))))))
theorem fD_fX12_oldSprites_231_body {σ0 : zSt} {k40 : zSt → Int32 → Int32 → Int32 → Int32 → Int32 → Option (zSt)} (hk40 : ∀ (y0 : zSt) (y1 : Int32) (y2 : Int32) (y3 : Int32) (y4 : Int32) (y5 : Int32), (zQ [22, 23, 24, 25, 9] [(3, 62, 62)] [] []) σ0 y0 → zpc (k40 y0 y1 y2 y3 y4 y5) (fun r => (zQ [22, 23, 24, 25, 9] [(3, 62, 62)] [] []) σ0 (r))) {k231 : zSt → Int32 → Int32 → Int32 → Int32 → Int32 → Int32 → Int32 → Int32 → Int32 → Int32 → Option (zSt)} (hk231 : ∀ (y0 : zSt) (y1 : Int32) (y2 : Int32) (y3 : Int32) (y4 : Int32) (y5 : Int32) (y6 : Int32) (y7 : Int32) (y8 : Int32) (y9 : Int32) (y10 : Int32), (zQ [22, 23, 24, 25, 9] [(3, 62, 62)] [] []) σ0 y0 → zpc (k231 y0 y1 y2 y3 y4 y5 y6 y7 y8 y9 y10) (fun r => (zQ [22, 23, 24, 25, 9] [(3, 62, 62)] [] []) σ0 (r))) {σ : zSt} {x1 : Int32} {x2 : Int32} {x3 : Int32} {x4 : Int32} {x5 : Int32} {x8 : Int32} {x9 : Int32} {x10 : Int32} {x11 : Int32} {x12 : Int32} (h : (zQ [22, 23, 24, 25, 9] [(3, 62, 62)] [] []) σ0 σ) : zpc (fX12_oldSprites_231_body k40 k231 σ x1 x2 x3 x4 x5 x8 x9 x10 x11 x12) (fun r => (zQ [22, 23, 24, 25, 9] [(3, 62, 62)] [] []) σ0 (r)) := by
  unfold fX12_oldSprites_231_body
  exact zpc_if (fun _ => fD_fX12_oldSprites_388 hk40 h) (fun _ => zpc_ck (zpc_bv (fun v10 _ => zpc_bi (fD_fX12_reg h) (fun σ11 v12 hσ11 => zpc_ck (zpc_ck (zpc_if (fun _ => fD_fX12_oldSprites_283 hk40 hk231 hσ11) (fun _ => fD_fX12_oldSprites_283 hk40 hk231 hσ11)))))))
theorem fD_fX12_oldSprites_231 {σ0 : zSt} {k40 : zSt → Int32 → Int32 → Int32 → Int32 → Int32 → Option (zSt)} (hk40 : ∀ (y0 : zSt) (y1 : Int32) (y2 : Int32) (y3 : Int32) (y4 : Int32) (y5 : Int32), (zQ [22, 23, 24, 25, 9] [(3, 62, 62)] [] []) σ0 y0 → zpc (k40 y0 y1 y2 y3 y4 y5) (fun r => (zQ [22, 23, 24, 25, 9] [(3, 62, 62)] [] []) σ0 (r))) : ∀ (n : Nat) (y0 : zSt) (y1 : Int32) (y2 : Int32) (y3 : Int32) (y4 : Int32) (y5 : Int32) (y6 : Int32) (y7 : Int32) (y8 : Int32) (y9 : Int32) (y10 : Int32), (zQ [22, 23, 24, 25, 9] [(3, 62, 62)] [] []) σ0 y0 → zpc (fX12_oldSprites_231 k40 n y0 y1 y2 y3 y4 y5 y6 y7 y8 y9 y10) (fun r => (zQ [22, 23, 24, 25, 9] [(3, 62, 62)] [] []) σ0 (r)) := by
  intro n
  induction n with
  | zero => intro y0 y1 y2 y3 y4 y5 y6 y7 y8 y9 y10 h; exact zpc_none
  | succ n ih => intro y0 y1 y2 y3 y4 y5 y6 y7 y8 y9 y10 h; exact fD_fX12_oldSprites_231_body hk40 ih h
theorem fD_fX12_oldSprites_225 {σ0 : zSt} {k40 : zSt → Int32 → Int32 → Int32 → Int32 → Int32 → Option (zSt)} (hk40 : ∀ (y0 : zSt) (y1 : Int32) (y2 : Int32) (y3 : Int32) (y4 : Int32) (y5 : Int32), (zQ [22, 23, 24, 25, 9] [(3, 62, 62)] [] []) σ0 y0 → zpc (k40 y0 y1 y2 y3 y4 y5) (fun r => (zQ [22, 23, 24, 25, 9] [(3, 62, 62)] [] []) σ0 (r))) {σ : zSt} {x1 : Int32} {x2 : Int32} {x3 : Int32} {x4 : Int32} {x5 : Int32} {x8 : Int32} {x9 : Int32} {x10 : Int32} {s0 : Int32} {s1 : Int32} (h : (zQ [22, 23, 24, 25, 9] [(3, 62, 62)] [] []) σ0 σ) : zpc (fX12_oldSprites_225 k40 σ x1 x2 x3 x4 x5 x8 x9 x10 s0 s1) (fun r => (zQ [22, 23, 24, 25, 9] [(3, 62, 62)] [] []) σ0 (r)) := by
  unfold fX12_oldSprites_225
  exact zpc_bv (fun v13 _ => fD_fX12_oldSprites_231 hk40 _ _ _ _ _ _ _ _ _ _ _ _ h)
theorem fD_fX12_oldSprites_183 {σ0 : zSt} {k40 : zSt → Int32 → Int32 → Int32 → Int32 → Int32 → Option (zSt)} (hk40 : ∀ (y0 : zSt) (y1 : Int32) (y2 : Int32) (y3 : Int32) (y4 : Int32) (y5 : Int32), (zQ [22, 23, 24, 25, 9] [(3, 62, 62)] [] []) σ0 y0 → zpc (k40 y0 y1 y2 y3 y4 y5) (fun r => (zQ [22, 23, 24, 25, 9] [(3, 62, 62)] [] []) σ0 (r))) {σ : zSt} {x1 : Int32} {x2 : Int32} {x3 : Int32} {x4 : Int32} {x5 : Int32} {x6 : Int32} {x8 : Int32} {s0 : Int32} (h : (zQ [22, 23, 24, 25, 9] [(3, 62, 62)] [] []) σ0 σ) : zpc (fX12_oldSprites_183 k40 σ x1 x2 x3 x4 x5 x6 x8 s0) (fun r => (zQ [22, 23, 24, 25, 9] [(3, 62, 62)] [] []) σ0 (r)) := by
  unfold fX12_oldSprites_183
  exact zpc_bi (fD_fX12_video8 h) (fun σ14 v15 hσ14 => zpc_bv (fun v16 _ => zpc_bi (fD_fX12_video8 hσ14) (fun σ17 v18 hσ17 => zpc_bi (fD_fX12_video8 hσ17) (fun σ19 v20 hσ19 => zpc_if (fun _ => fD_fX12_oldSprites_225 hk40 hσ19) (fun _ => fD_fX12_oldSprites_225 hk40 hσ19)))))
theorem fD_fX12_oldSprites_40_body {σ0 : zSt} {k40 : zSt → Int32 → Int32 → Int32 → Int32 → Int32 → Option (zSt)} (hk40 : ∀ (y0 : zSt) (y1 : Int32) (y2 : Int32) (y3 : Int32) (y4 : Int32) (y5 : Int32), (zQ [22, 23, 24, 25, 9] [(3, 62, 62)] [] []) σ0 y0 → zpc (k40 y0 y1 y2 y3 y4 y5) (fun r => (zQ [22, 23, 24, 25, 9] [(3, 62, 62)] [] []) σ0 (r))) {σ : zSt} {x1 : Int32} {x2 : Int32} {x3 : Int32} {x4 : Int32} {x5 : Int32} (h : (zQ [22, 23, 24, 25, 9] [(3, 62, 62)] [] []) σ0 σ) : zpc (fX12_oldSprites_40_body k40 σ x1 x2 x3 x4 x5) (fun r => (zQ [22, 23, 24, 25, 9] [(3, 62, 62)] [] []) σ0 (r)) := by
  unfold fX12_oldSprites_40_body
  exact zpc_if (fun _ => zpc_some h) (fun _ => zpc_bi (fD_fX12_reg h) (fun σ21 v22 hσ21 => zpc_ck (zpc_bv (fun v23 _ => zpc_bi (fD_fX12_video8 hσ21) (fun σ24 v25 hσ24 => zpc_if (fun _ => zpc_some hσ24) (fun _ => zpc_bv (fun v26 _ => zpc_if (fun _ => zpc_if (fun _ => zpc_ck (zpc_if (fun _ => zpc_ck (zpc_ck (zpc_bs (zQ.wi hσ24 rfl) (fun σ32 hσ32 => fD_fX12_oldSprites_150 hσ32)))) (fun _ => fD_fX12_oldSprites_150 hσ24))) (fun _ => zpc_bv (fun v27 _ => zpc_if (fun _ => zpc_bi (fD_fX12_video8 hσ24) (fun σ30 v31 hσ30 => fD_fX12_oldSprites_183 hk40 hσ30)) (fun _ => zpc_bi (fD_fX12_video8 hσ24) (fun σ28 v29 hσ28 => fD_fX12_oldSprites_183 hk40 hσ28))))) (fun _ => fD_fX12_oldSprites_388 hk40 hσ24))))))))
theorem fD_fX12_oldSprites_40 {σ0 : zSt} : ∀ (n : Nat) (y0 : zSt) (y1 : Int32) (y2 : Int32) (y3 : Int32) (y4 : Int32) (y5 : Int32), (zQ [22, 23, 24, 25, 9] [(3, 62, 62)] [] []) σ0 y0 → zpc (fX12_oldSprites_40 n y0 y1 y2 y3 y4 y5) (fun r => (zQ [22, 23, 24, 25, 9] [(3, 62, 62)] [] []) σ0 (r)) := by
  intro n
  induction n with
  | zero => intro y0 y1 y2 y3 y4 y5 h; exact zpc_none
  | succ n ih => intro y0 y1 y2 y3 y4 y5 h; exact fD_fX12_oldSprites_40_body ih h
theorem fD_fX12_oldSprites_33 {σ0 : zSt} {σ : zSt} {x1 : Int32} {x2 : Int32} {s0 : Int32} (h : (zQ [22, 23, 24, 25, 9] [(3, 62, 62)] [] []) σ0 σ) : zpc (fX12_oldSprites_33 σ x1 x2 s0) (fun r => (zQ [22, 23, 24, 25, 9] [(3, 62, 62)] [] []) σ0 (r)) := by
  unfold fX12_oldSprites_33
  exact fD_fX12_oldSprites_40 _ _ _ _ _ _ _ h
theorem fD_fX12_oldSprites_15 {σ0 : zSt} {σ : zSt} {x1 : Int32} {s0 : Int32} (h : (zQ [22, 23, 24, 25, 9] [(3, 62, 62)] [] []) σ0 σ) : zpc (fX12_oldSprites_15 σ x1 s0) (fun r => (zQ [22, 23, 24, 25, 9] [(3, 62, 62)] [] []) σ0 (r)) := by
  unfold fX12_oldSprites_15
  exact zpc_bi (fD_fX12_bit h) (fun σ33 v34 hσ33 => zpc_if (fun _ => fD_fX12_oldSprites_33 hσ33) (fun _ => fD_fX12_oldSprites_33 hσ33))
theorem fD_fX12_oldSprites {σ0 : zSt} {σ : zSt} {x1 : Int32} (h : (zQ [22, 23, 24, 25, 9] [(3, 62, 62)] [] []) σ0 σ) : zpc (fX12_oldSprites σ x1) (fun r => (zQ [22, 23, 24, 25, 9] [(3, 62, 62)] [] []) σ0 (r)) := by
  unfold fX12_oldSprites
  exact zpc_bi (fD_fX12_bit h) (fun σ35 v36 hσ35 => zpc_if (fun _ => fD_fX12_oldSprites_15 hσ35) (fun _ => fD_fX12_oldSprites_15 hσ35))
theorem fD_fX12_draws_302_body {σ0 : zSt} {k302 : zSt → Int32 → Int32 → Option (zSt)} (hk302 : ∀ (y0 : zSt) (y1 : Int32) (y2 : Int32), (zQ [22, 23, 24, 25, 9] [(3, 62, 62)] [] []) σ0 y0 → zpc (k302 y0 y1 y2) (fun r => (zQ [22, 23, 24, 25, 9] [(3, 62, 62)] [] []) σ0 (r))) {σ : zSt} {x1 : Int32} {x3 : Int32} (h : (zQ [22, 23, 24, 25, 9] [(3, 62, 62)] [] []) σ0 σ) : zpc (fX12_draws_302_body k302 σ x1 x3) (fun r => (zQ [22, 23, 24, 25, 9] [(3, 62, 62)] [] []) σ0 (r)) := by
  unfold fX12_draws_302_body
  exact zpc_if (fun _ => zpc_some h) (fun _ => zpc_ck (zpc_bi (fD_fX12_colour h) (fun σ1 v2 hσ1 => zpc_ck (zpc_bs (zQ.wi hσ1 rfl) (fun σ3 hσ3 => zpc_bv (fun v4 _ => hk302 _ _ _ hσ3))))))
theorem fD_fX12_draws_302 {σ0 : zSt} : ∀ (n : Nat) (y0 : zSt) (y1 : Int32) (y2 : Int32), (zQ [22, 23, 24, 25, 9] [(3, 62, 62)] [] []) σ0 y0 → zpc (fX12_draws_302 n y0 y1 y2) (fun r => (zQ [22, 23, 24, 25, 9] [(3, 62, 62)] [] []) σ0 (r)) := by
  intro n
  induction n with
  | zero => intro y0 y1 y2 h; exact zpc_none
  | succ n ih => intro y0 y1 y2 h; exact fD_fX12_draws_302_body ih h
theorem fD_fX12_draws_300 {σ0 : zSt} {σ : zSt} {x1 : Int32} (h : (zQ [22, 23, 24, 25, 9] [(3, 62, 62)] [] []) σ0 σ) : zpc (fX12_draws_300 σ x1) (fun r => (zQ [22, 23, 24, 25, 9] [(3, 62, 62)] [] []) σ0 (r)) := by
  unfold fX12_draws_300
  exact fD_fX12_draws_302 _ _ _ _ h
theorem fD_fX12_draws_244 {σ0 : zSt} {k213 : zSt → Int32 → Int32 → Int32 → Option (zSt)} (hk213 : ∀ (y0 : zSt) (y1 : Int32) (y2 : Int32) (y3 : Int32), (zQ [22, 23, 24, 25, 9] [(3, 62, 62)] [] []) σ0 y0 → zpc (k213 y0 y1 y2 y3) (fun r => (zQ [22, 23, 24, 25, 9] [(3, 62, 62)] [] []) σ0 (r))) {σ : zSt} {x1 : Int32} {x2 : Int32} {x3 : Int32} {s0 : Int32} {s1 : Int32} (h : (zQ [22, 23, 24, 25, 9] [(3, 62, 62)] [] []) σ0 σ) : zpc (fX12_draws_244 k213 σ x1 x2 x3 s0 s1) (fun r => (zQ [22, 23, 24, 25, 9] [(3, 62, 62)] [] []) σ0 (r)) := by
  unfold fX12_draws_244
  exact zpc_ck (zpc_bs (zQ.wi h rfl) (fun σ5 hσ5 => zpc_bv (fun v6 _ => hk213 _ _ _ _ hσ5)))
theorem fD_fX12_draws_294 {σ0 : zSt} {k266 : zSt → Int32 → Int32 → Option (zSt)} (hk266 : ∀ (y0 : zSt) (y1 : Int32) (y2 : Int32), (zQ [22, 23, 24, 25, 9] [(3, 62, 62)] [] []) σ0 y0 → zpc (k266 y0 y1 y2) (fun r => (zQ [22, 23, 24, 25, 9] [(3, 62, 62)] [] []) σ0 (r))) {σ : zSt} {x1 : Int32} {x3 : Int32} (h : (zQ [22, 23, 24, 25, 9] [(3, 62, 62)] [] []) σ0 σ) : zpc (fX12_draws_294 k266 σ x1 x3) (fun r => (zQ [22, 23, 24, 25, 9] [(3, 62, 62)] [] []) σ0 (r)) := by
  unfold fX12_draws_294
  exact zpc_bv (fun v7 _ => hk266 _ _ _ h)
theorem fD_fX12_draws_266_body {σ0 : zSt} {k266 : zSt → Int32 → Int32 → Option (zSt)} (hk266 : ∀ (y0 : zSt) (y1 : Int32) (y2 : Int32), (zQ [22, 23, 24, 25, 9] [(3, 62, 62)] [] []) σ0 y0 → zpc (k266 y0 y1 y2) (fun r => (zQ [22, 23, 24, 25, 9] [(3, 62, 62)] [] []) σ0 (r))) {σ : zSt} {x1 : Int32} {x3 : Int32} (h : (zQ [22, 23, 24, 25, 9] [(3, 62, 62)] [] []) σ0 σ) : zpc (fX12_draws_266_body k266 σ x1 x3) (fun r => (zQ [22, 23, 24, 25, 9] [(3, 62, 62)] [] []) σ0 (r)) := by
  unfold fX12_draws_266_body
  exact zpc_if (fun _ => fD_fX12_draws_300 h) (fun _ => zpc_ck (zpc_if (fun _ => fD_fX12_draws_294 hk266 h) (fun _ => zpc_ck (zpc_ck (zpc_bs (zQ.wi h rfl) (fun σ8 hσ8 => fD_fX12_draws_294 hk266 hσ8))))))
theorem fD_fX12_draws_266 {σ0 : zSt} : ∀ (n : Nat) (y0 : zSt) (y1 : Int32) (y2 : Int32), (zQ [22, 23, 24, 25, 9] [(3, 62, 62)] [] []) σ0 y0 → zpc (fX12_draws_266 n y0 y1 y2) (fun r => (zQ [22, 23, 24, 25, 9] [(3, 62, 62)] [] []) σ0 (r)) := by
  intro n
  induction n with
  | zero => intro y0 y1 y2 h; exact zpc_none
  | succ n ih => intro y0 y1 y2 h; exact fD_fX12_draws_266_body ih h
theorem fD_fX12_draws_264 {σ0 : zSt} {σ : zSt} {x1 : Int32} (h : (zQ [22, 23, 24, 25, 9] [(3, 62, 62)] [] []) σ0 σ) : zpc (fX12_draws_264 σ x1) (fun r => (zQ [22, 23, 24, 25, 9] [(3, 62, 62)] [] []) σ0 (r)) := by
  unfold fX12_draws_264
  exact fD_fX12_draws_266 _ _ _ _ h
theorem fD_fX12_draws_213_body {σ0 : zSt} {k213 : zSt → Int32 → Int32 → Int32 → Option (zSt)} (hk213 : ∀ (y0 : zSt) (y1 : Int32) (y2 : Int32) (y3 : Int32), (zQ [22, 23, 24, 25, 9] [(3, 62, 62)] [] []) σ0 y0 → zpc (k213 y0 y1 y2 y3) (fun r => (zQ [22, 23, 24, 25, 9] [(3, 62, 62)] [] []) σ0 (r))) {σ : zSt} {x1 : Int32} {x2 : Int32} {x3 : Int32} (h : (zQ [22, 23, 24, 25, 9] [(3, 62, 62)] [] []) σ0 σ) : zpc (fX12_draws_213_body k213 σ x1 x2 x3) (fun r => (zQ [22, 23, 24, 25, 9] [(3, 62, 62)] [] []) σ0 (r)) := by
  unfold fX12_draws_213_body
  exact zpc_if (fun _ => zpc_bi (fD_fX12_mode h) (fun σ9 v10 hσ9 => zpc_if (fun _ => fD_fX12_draws_264 hσ9) (fun _ => zpc_bu (fD_fX12_oldSprites hσ9) (fun σ11 hσ11 => fD_fX12_draws_264 hσ11)))) (fun _ => zpc_bi (fD_fX12_old h) (fun σ12 v13 hσ12 => zpc_if (fun _ => fD_fX12_draws_244 hk213 hσ12) (fun _ => fD_fX12_draws_244 hk213 hσ12)))
theorem fD_fX12_draws_213 {σ0 : zSt} : ∀ (n : Nat) (y0 : zSt) (y1 : Int32) (y2 : Int32) (y3 : Int32), (zQ [22, 23, 24, 25, 9] [(3, 62, 62)] [] []) σ0 y0 → zpc (fX12_draws_213 n y0 y1 y2 y3) (fun r => (zQ [22, 23, 24, 25, 9] [(3, 62, 62)] [] []) σ0 (r)) := by
  intro n
  induction n with
  | zero => intro y0 y1 y2 y3 h; exact zpc_none
  | succ n ih => intro y0 y1 y2 y3 h; exact fD_fX12_draws_213_body ih h
theorem fD_fX12_draws_200 {σ0 : zSt} {σ : zSt} {x1 : Int32} {x2 : Int32} (h : (zQ [22, 23, 24, 25, 9] [(3, 62, 62)] [] []) σ0 σ) : zpc (fX12_draws_200 σ x1 x2) (fun r => (zQ [22, 23, 24, 25, 9] [(3, 62, 62)] [] []) σ0 (r)) := by
  unfold fX12_draws_200
  exact zpc_bi (fD_fX12_bit h) (fun σ14 v15 hσ14 => zpc_if (fun _ => fD_fX12_draws_213 _ _ _ _ _ hσ14) (fun _ => fD_fX12_draws_300 hσ14))
theorem fD_fX12_draws_160 {σ0 : zSt} {k123 : zSt → Int32 → Int32 → Int32 → Option (zSt)} (hk123 : ∀ (y0 : zSt) (y1 : Int32) (y2 : Int32) (y3 : Int32), (zQ [22, 23, 24, 25, 9] [(3, 62, 62)] [] []) σ0 y0 → zpc (k123 y0 y1 y2 y3) (fun r => (zQ [22, 23, 24, 25, 9] [(3, 62, 62)] [] []) σ0 (r))) {σ : zSt} {x1 : Int32} {x2 : Int32} {x3 : Int32} (h : (zQ [22, 23, 24, 25, 9] [(3, 62, 62)] [] []) σ0 σ) : zpc (fX12_draws_160 k123 σ x1 x2 x3) (fun r => (zQ [22, 23, 24, 25, 9] [(3, 62, 62)] [] []) σ0 (r)) := by
  unfold fX12_draws_160
  exact zpc_bv (fun v16 _ => hk123 _ _ _ _ h)
theorem fD_fX12_draws_197 {σ0 : zSt} {σ : zSt} {x1 : Int32} (h : (zQ [22, 23, 24, 25, 9] [(3, 62, 62)] [] []) σ0 σ) : zpc (fX12_draws_197 σ x1) (fun r => (zQ [22, 23, 24, 25, 9] [(3, 62, 62)] [] []) σ0 (r)) := by
  unfold fX12_draws_197
  exact fD_fX12_draws_300 h
theorem fD_fX12_draws_168_body {σ0 : zSt} {k168 : zSt → Int32 → Int32 → Int32 → Option (zSt)} (hk168 : ∀ (y0 : zSt) (y1 : Int32) (y2 : Int32) (y3 : Int32), (zQ [22, 23, 24, 25, 9] [(3, 62, 62)] [] []) σ0 y0 → zpc (k168 y0 y1 y2 y3) (fun r => (zQ [22, 23, 24, 25, 9] [(3, 62, 62)] [] []) σ0 (r))) {σ : zSt} {x1 : Int32} {x2 : Int32} {x3 : Int32} (h : (zQ [22, 23, 24, 25, 9] [(3, 62, 62)] [] []) σ0 σ) : zpc (fX12_draws_168_body k168 σ x1 x2 x3) (fun r => (zQ [22, 23, 24, 25, 9] [(3, 62, 62)] [] []) σ0 (r)) := by
  unfold fX12_draws_168_body
  exact zpc_if (fun _ => fD_fX12_draws_197 h) (fun _ => zpc_bi (fD_fX12_bit h) (fun σ17 v18 hσ17 => zpc_if (fun _ => zpc_ck (zpc_bs (zQ.wi hσ17 rfl) (fun σ19 hσ19 => zpc_bv (fun v20 _ => hk168 _ _ _ _ hσ19)))) (fun _ => fD_fX12_draws_197 hσ17)))
theorem fD_fX12_draws_168 {σ0 : zSt} : ∀ (n : Nat) (y0 : zSt) (y1 : Int32) (y2 : Int32) (y3 : Int32), (zQ [22, 23, 24, 25, 9] [(3, 62, 62)] [] []) σ0 y0 → zpc (fX12_draws_168 n y0 y1 y2 y3) (fun r => (zQ [22, 23, 24, 25, 9] [(3, 62, 62)] [] []) σ0 (r)) := by
  intro n
  induction n with
  | zero => intro y0 y1 y2 y3 h; exact zpc_none
  | succ n ih => intro y0 y1 y2 y3 h; exact fD_fX12_draws_168_body ih h
theorem fD_fX12_draws_123_body {σ0 : zSt} {k123 : zSt → Int32 → Int32 → Int32 → Option (zSt)} (hk123 : ∀ (y0 : zSt) (y1 : Int32) (y2 : Int32) (y3 : Int32), (zQ [22, 23, 24, 25, 9] [(3, 62, 62)] [] []) σ0 y0 → zpc (k123 y0 y1 y2 y3) (fun r => (zQ [22, 23, 24, 25, 9] [(3, 62, 62)] [] []) σ0 (r))) {σ : zSt} {x1 : Int32} {x2 : Int32} {x3 : Int32} (h : (zQ [22, 23, 24, 25, 9] [(3, 62, 62)] [] []) σ0 σ) : zpc (fX12_draws_123_body k123 σ x1 x2 x3) (fun r => (zQ [22, 23, 24, 25, 9] [(3, 62, 62)] [] []) σ0 (r)) := by
  unfold fX12_draws_123_body
  exact zpc_if (fun _ => fD_fX12_draws_168 _ _ _ _ _ h) (fun _ => zpc_ck (zpc_if (fun _ => fD_fX12_draws_160 hk123 h) (fun _ => zpc_ck (zpc_if (fun _ => zpc_ck (zpc_ck (zpc_bs (zQ.wi h rfl) (fun σ21 hσ21 => fD_fX12_draws_160 hk123 hσ21)))) (fun _ => fD_fX12_draws_160 hk123 h)))))
theorem fD_fX12_draws_123 {σ0 : zSt} : ∀ (n : Nat) (y0 : zSt) (y1 : Int32) (y2 : Int32) (y3 : Int32), (zQ [22, 23, 24, 25, 9] [(3, 62, 62)] [] []) σ0 y0 → zpc (fX12_draws_123 n y0 y1 y2 y3) (fun r => (zQ [22, 23, 24, 25, 9] [(3, 62, 62)] [] []) σ0 (r)) := by
  intro n
  induction n with
  | zero => intro y0 y1 y2 y3 h; exact zpc_none
  | succ n ih => intro y0 y1 y2 y3 h; exact fD_fX12_draws_123_body ih h
theorem fD_fX12_draws_97_body {σ0 : zSt} {k97 : zSt → Int32 → Int32 → Int32 → Option (zSt)} (hk97 : ∀ (y0 : zSt) (y1 : Int32) (y2 : Int32) (y3 : Int32), (zQ [22, 23, 24, 25, 9] [(3, 62, 62)] [] []) σ0 y0 → zpc (k97 y0 y1 y2 y3) (fun r => (zQ [22, 23, 24, 25, 9] [(3, 62, 62)] [] []) σ0 (r))) {σ : zSt} {x1 : Int32} {x2 : Int32} {x3 : Int32} (h : (zQ [22, 23, 24, 25, 9] [(3, 62, 62)] [] []) σ0 σ) : zpc (fX12_draws_97_body k97 σ x1 x2 x3) (fun r => (zQ [22, 23, 24, 25, 9] [(3, 62, 62)] [] []) σ0 (r)) := by
  unfold fX12_draws_97_body
  exact zpc_if (fun _ => zpc_bu (fD_fX12_sprites h) (fun σ22 hσ22 => fD_fX12_draws_123 _ _ _ _ _ hσ22)) (fun _ => zpc_bu (fD_fX12_tile h) (fun σ23 hσ23 => zpc_bv (fun v24 _ => hk97 _ _ _ _ hσ23)))
theorem fD_fX12_draws_97 {σ0 : zSt} : ∀ (n : Nat) (y0 : zSt) (y1 : Int32) (y2 : Int32) (y3 : Int32), (zQ [22, 23, 24, 25, 9] [(3, 62, 62)] [] []) σ0 y0 → zpc (fX12_draws_97 n y0 y1 y2 y3) (fun r => (zQ [22, 23, 24, 25, 9] [(3, 62, 62)] [] []) σ0 (r)) := by
  intro n
  induction n with
  | zero => intro y0 y1 y2 y3 h; exact zpc_none
  | succ n ih => intro y0 y1 y2 y3 h; exact fD_fX12_draws_97_body ih h
theorem fD_fX12_draws_35_body {σ0 : zSt} {k35 : zSt → Int32 → Int32 → Int32 → Option (zSt)} (hk35 : ∀ (y0 : zSt) (y1 : Int32) (y2 : Int32) (y3 : Int32), (zQ [22, 23, 24, 25, 9] [(3, 62, 62)] [] []) σ0 y0 → zpc (k35 y0 y1 y2 y3) (fun r => (zQ [22, 23, 24, 25, 9] [(3, 62, 62)] [] []) σ0 (r))) {σ : zSt} {x1 : Int32} {x2 : Int32} {x3 : Int32} (h : (zQ [22, 23, 24, 25, 9] [(3, 62, 62)] [] []) σ0 σ) : zpc (fX12_draws_35_body k35 σ x1 x2 x3) (fun r => (zQ [22, 23, 24, 25, 9] [(3, 62, 62)] [] []) σ0 (r)) := by
  unfold fX12_draws_35_body
  exact zpc_if (fun _ => zpc_bi (fD_fX12_bit h) (fun σ25 v26 hσ25 => zpc_if (fun _ => zpc_bi (fD_fX12_mode hσ25) (fun σ27 v28 hσ27 => zpc_if (fun _ => fD_fX12_draws_97 _ _ _ _ _ hσ27) (fun _ => fD_fX12_draws_200 hσ27))) (fun _ => fD_fX12_draws_200 hσ25))) (fun _ => zpc_ck (zpc_bs (zQ.wi h rfl) (fun σ29 hσ29 => zpc_ck (zpc_bs (zQ.wi hσ29 rfl) (fun σ30 hσ30 => zpc_ck (zpc_bs (zQ.wi hσ30 rfl) (fun σ31 hσ31 => zpc_ck (zpc_bs (zQ.wi hσ31 rfl) (fun σ32 hσ32 => zpc_bv (fun v33 _ => hk35 _ _ _ _ hσ32))))))))))
theorem fD_fX12_draws_35 {σ0 : zSt} : ∀ (n : Nat) (y0 : zSt) (y1 : Int32) (y2 : Int32) (y3 : Int32), (zQ [22, 23, 24, 25, 9] [(3, 62, 62)] [] []) σ0 y0 → zpc (fX12_draws_35 n y0 y1 y2 y3) (fun r => (zQ [22, 23, 24, 25, 9] [(3, 62, 62)] [] []) σ0 (r)) := by
  intro n
  induction n with
  | zero => intro y0 y1 y2 y3 h; exact zpc_none
  | succ n ih => intro y0 y1 y2 y3 h; exact fD_fX12_draws_35_body ih h
theorem fD_fX12_draws_32 {σ0 : zSt} {σ : zSt} {x1 : Int32} {s0 : Int32} (h : (zQ [22, 23, 24, 25, 9] [(3, 62, 62)] [] []) σ0 σ) : zpc (fX12_draws_32 σ x1 s0) (fun r => (zQ [22, 23, 24, 25, 9] [(3, 62, 62)] [] []) σ0 (r)) := by
  unfold fX12_draws_32
  exact fD_fX12_draws_35 _ _ _ _ _ h
theorem fD_fX12_draws {σ0 : zSt} {σ : zSt} {x1 : Int32} (h : (zQ [22, 23, 24, 25, 9] [(3, 62, 62)] [] []) σ0 σ) : zpc (fX12_draws σ x1) (fun r => (zQ [22, 23, 24, 25, 9] [(3, 62, 62)] [] []) σ0 (r)) := by
  unfold fX12_draws
  exact zpc_bi (fD_fX12_mode h) (fun σ34 v35 hσ34 => zpc_if (fun _ => zpc_bi (fD_fX12_reg hσ34) (fun σ38 v39 hσ38 => zpc_ck (fD_fX12_draws_32 hσ38))) (fun _ => zpc_bi (fD_fX12_reg hσ34) (fun σ36 v37 hσ36 => zpc_ck (fD_fX12_draws_32 hσ36))))
end ZJN6
