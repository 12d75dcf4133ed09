/-! frames: what calls leave as it is -/
theorem zpc_bs {β : Type} {x : zSt} {f : zSt → Option β} {Q : β → Prop} {I : zSt → Prop} (hx : I x) (h : ∀ y, I y → zpc (f y) Q) : zpc (zbv x f) Q := h x hx
theorem zpc_bll {α : Type} {o : Option (zSt × Int64)} {f : zSt → Int64 → Option α} {P : zSt × Int64 → Prop} {Q : α → Prop} (h : zpc o P) (k : ∀ σ v, P (σ, v) → zpc (f σ v) Q) : zpc (zbl o f) Q := by
  cases o with
  | none => exact zpc_none
  | some a => exact k a.1 a.2 (h a rfl)
theorem zpc_bk {α : Type} {o : Option (zSt × Nat)} {f : zSt → Nat → Option α} {P : zSt × Nat → Prop} {Q : α → Prop} (h : zpc o P) (k : ∀ σ v, P (σ, v) → zpc (f σ v) Q) : zpc (zbk o f) Q := by
  cases o with
  | none => exact zpc_none
  | some a => exact k a.1 a.2 (h a rfl)
/-! bytes -/
theorem z_255 {i : Nat} (h : 8 ≤ i) : (255#32).getLsbD i = false := by
  by_cases hi : i < 32
  · have k : ∀ j : Fin 32, 8 ≤ j.val → (255#32).getLsbD j.val = false := by decide
    exact k ⟨i, hi⟩ h
  · exact BitVec.getLsbD_of_ge _ _ (by omega)
theorem z_and255 {x y : Int32} (h : ∀ i, i < 8 → x.toBitVec.getLsbD i = y.toBitVec.getLsbD i) : x &&& 255 = y &&& 255 := by
  refine Int32.toBitVec_inj.1 (BitVec.eq_of_getLsbD_eq (fun i hi => ?_))
  rw [Int32.toBitVec_and, Int32.toBitVec_and, BitVec.getLsbD_and, BitVec.getLsbD_and]
  by_cases q : i < 8
  · rw [h i q]
  · rw [show (255 : Int32).toBitVec = 255#32 from rfl, z_255 (by omega), Bool.and_false, Bool.and_false]
theorem z_nar {x : Int32} : vp_nar .byte x &&& 255 = x &&& 255 := by
  refine z_and255 (fun i hi => ?_)
  have e : (vp_nar .byte x).toBitVec = (x.toBitVec.signExtend 8).signExtend 32 := rfl
  rw [e, BitVec.getLsbD_signExtend, if_pos hi, decide_eq_true (show i < 32 by omega), Bool.true_and, BitVec.getLsbD_signExtend, if_pos (show i < 32 by omega), decide_eq_true hi, Bool.true_and]
theorem z_i8 {x : Int32} : x.toInt8.toInt32 &&& 255 = x &&& 255 := z_nar (x := x)
theorem z_sh1 : ∀ i : Fin 8, (((8 * Int32.ofNat i.val).toInt64 &&& 63).toBitVec.smod 64).toNat = 8 * i.val := by decide +kernel
theorem z_sh2 : ∀ i : Fin 8, (UInt64.mod ((8 * Int32.ofNat i.val).toInt64.toUInt64 &&& Int64.toUInt64 63) 64).toBitVec.toNat = 8 * i.val := by decide +kernel
theorem z_shb {s : Int64} {i : Nat} (hi : i < 8) : (zlshr s (8 * Int32.ofNat i)).toInt32 &&& 255 = (zlushr s (8 * Int32.ofNat i)).toInt32 &&& 255 := by
  refine z_and255 (fun j hj => ?_)
  have s1 : (((8 * Int32.ofNat i).toInt64 &&& 63).toBitVec.smod 64).toNat = 8 * i := z_sh1 ⟨i, hi⟩
  have s2 : (UInt64.mod ((8 * Int32.ofNat i).toInt64.toUInt64 &&& Int64.toUInt64 63) 64).toBitVec.toNat = 8 * i := z_sh2 ⟨i, hi⟩
  have e1 : (zlshr s (8 * Int32.ofNat i)).toInt32.toBitVec = (s.toBitVec.sshiftRight (((8 * Int32.ofNat i).toInt64 &&& 63).toBitVec.smod 64).toNat).signExtend 32 := rfl
  have e2 : (zlushr s (8 * Int32.ofNat i)).toInt32.toBitVec = (s.toBitVec >>> (UInt64.mod ((8 * Int32.ofNat i).toInt64.toUInt64 &&& Int64.toUInt64 63) 64).toBitVec.toNat).signExtend 32 := rfl
  rw [e1, e2, s1, s2]
  simp only [BitVec.getLsbD_signExtend, BitVec.getLsbD_sshiftRight, BitVec.getLsbD_ushiftRight, if_pos (show j < 64 by omega), if_pos (show 8 * i + j < 64 by omega), decide_eq_false (show ¬ 64 ≤ j by omega), Bool.not_false, Bool.true_and]
theorem z_x24 : ∀ i : Fin 24, zrem (Int32.ofNat i.val) 8 = Int32.ofNat (i.val % 8) ∧ Int32.ofNat i.val &&& 7 = Int32.ofNat (i.val % 8) := by decide +kernel
theorem z_ofN {x : Int32} {i : Nat} (h : x.toInt = i) : x = Int32.ofNat i := by
  have l := Int32.toInt_lt x
  exact Int32.toInt_inj.mp (by rw [Int32.toInt_ofNat_of_lt (by omega), h])
/-- the byte that feed lays, on both sides -/
theorem z_feedb {s : Int64} {x : Int32} (h : zr 0 23 x) : ((zlushr s (8 * (x &&& 7))).toInt32) &&& 255 = vp_nar .byte (((zlshr s (8 * (zrem x 8))).toInt32).toInt8.toInt32) &&& 255 := by
  obtain ⟨h1, h2⟩ := h
  obtain ⟨i, hi⟩ : ∃ i : Nat, x.toInt = i := ⟨x.toInt.toNat, by omega⟩
  have e := z_ofN hi
  have k1 : zrem (Int32.ofNat i) 8 = Int32.ofNat (i % 8) := (z_x24 ⟨i, by omega⟩).1
  have k2 : Int32.ofNat i &&& 7 = Int32.ofNat (i % 8) := (z_x24 ⟨i, by omega⟩).2
  rw [z_nar, z_i8, e, k1, k2]
  exact (z_shb (by omega)).symm
theorem z_patchb {s : Int64} {x : Int32} (h : zr 0 7 x) : ((zlushr s (8 * x)).toInt32) &&& 255 = vp_nar .byte (((zlshr s (8 * x)).toInt32).toInt8.toInt32) &&& 255 := by
  obtain ⟨h1, h2⟩ := h
  obtain ⟨i, hi⟩ : ∃ i : Nat, x.toInt = i := ⟨x.toInt.toNat, by omega⟩
  have e := z_ofN hi
  rw [z_nar, z_i8, e]
  exact (z_shb (by omega)).symm
/-! two computations side by side -/
def zp2 {α β : Type} (o : Option α) (p : Option β) (Q : α → β → Prop) : Prop := ∀ a b, o = some a → p = some b → Q a b
theorem zp2_nl {α β : Type} {p : Option β} {Q : α → β → Prop} : zp2 (none : Option α) p Q := fun a b e _ => by cases e
theorem zp2_nr {α β : Type} {o : Option α} {Q : α → β → Prop} : zp2 o (none : Option β) Q := fun a b _ e => by cases e
theorem zp2_some {α β : Type} {a : α} {b : β} {Q : α → β → Prop} (h : Q a b) : zp2 (some a) (some b) Q := fun x y e f => by cases e; cases f; exact h
theorem zp2_ckl {α β : Type} {c : Bool} {o : Option α} {p : Option β} {Q : α → β → Prop} (h : zp2 o p Q) : zp2 (zck c o) p Q := by
  cases c
  · exact zp2_nl
  · exact h
theorem zp2_ckr {α β : Type} {c : Bool} {o : Option α} {p : Option β} {Q : α → β → Prop} (h : zp2 o p Q) : zp2 o (zck c p) Q := by
  cases c
  · exact zp2_nr
  · exact h
theorem zp2_ifl {α β : Type} {c : Prop} {d : Decidable c} {x y : Option α} {p : Option β} {Q : α → β → Prop} (h1 : c → zp2 x p Q) (h2 : ¬ c → zp2 y p Q) : zp2 (@ite _ c d x y) p Q := by
  by_cases q : c
  · rw [if_pos q]; exact h1 q
  · rw [if_neg q]; exact h2 q
theorem zp2_ifr {α β : Type} {c : Prop} {d : Decidable c} {o : Option α} {x y : Option β} {Q : α → β → Prop} (h1 : c → zp2 o x Q) (h2 : ¬ c → zp2 o y Q) : zp2 o (@ite _ c d x y) Q := by
  by_cases q : c
  · rw [if_pos q]; exact h1 q
  · rw [if_neg q]; exact h2 q
/-- both ask the same -/
theorem zp2_if {α β : Type} {c : Prop} {d d' : Decidable c} {x y : Option α} {x' y' : Option β} {Q : α → β → Prop} (h1 : c → zp2 x x' Q) (h2 : ¬ c → zp2 y y' Q) : zp2 (@ite _ c d x y) (@ite _ c d' x' y') Q := zp2_ifl (fun q => zp2_ifr (fun _ => h1 q) (fun r => absurd q r)) (fun q => zp2_ifr (fun r => absurd r q) (fun _ => h2 q))
theorem zp2_bvl {α β γ : Type} {x : γ} {f : γ → Option α} {p : Option β} {Q : α → β → Prop} (h : ∀ y, y = x → zp2 (f y) p Q) : zp2 (zbv x f) p Q := h x rfl
theorem zp2_bvr {α β γ : Type} {x : γ} {o : Option α} {f : γ → Option β} {Q : α → β → Prop} (h : ∀ y, y = x → zp2 o (f y) Q) : zp2 o (zbv x f) Q := h x rfl
theorem zp2_bul {α β : Type} {o : Option zSt} {f : zSt → Option α} {p : Option β} {P : zSt → Prop} {Q : α → β → Prop} (h : zpc o P) (k : ∀ σ, P σ → zp2 (f σ) p Q) : zp2 (zbu o f) p Q := by
  cases o with
  | none => exact zp2_nl
  | some a => exact k a (h a rfl)
theorem zp2_of {α β : Type} {o : Option α} {p : Option β} {P : α → Prop} {P' : β → Prop} {Q : α → β → Prop} (h : zpc o P) (h' : zpc p P') (k : ∀ a b, P a → P' b → Q a b) : zp2 o p Q := fun a b e f => k a b (h a e) (h' b f)
/-! tape and cartridge of both sides -/
def zSm (b : Nat → Int32) : Nat → Nat → Int32 → Int32
  | 0, _, a => a
  | n + 1, i, a => zSm b n (i + 1) (a + b i)
/-- the sum over a cartridge's bytes: size, header, bytes -/
def zSum (z h : Int32) (b : Nat → Int32) : Int32 := (if 13 < b (h.toNatClampNeg + 15) &&& 15 then zSm b (z.toNatClampNeg - 32768) 32768 (zSm b h.toNatClampNeg 0 0) else if 3 ≤ b (h.toNatClampNeg + 15) &&& 15 then zSm b h.toNatClampNeg 0 0 else zSm b (z.toNatClampNeg - 32768) 32768 (zSm b h.toNatClampNeg 0 0)) &&& 65535
def zCart (σ μ : zSt) : Prop := σ.1 1 4 = μ.1 0 5 ∧ σ.1 1 5 = μ.1 0 6 ∧ σ.1 1 6 = μ.1 0 7 ∧ σ.1 1 7 = μ.1 0 8 ∧ (∀ j : Nat, (j : Int) < (μ.1 0 5).toInt → σ.1 (ztp (σ.1 1 1)) ((σ.1 1 3).toNatClampNeg + j) = μ.1 2 j &&& 255) ∧ (0 ≤ (μ.1 0 8).toInt → (μ.1 0 8).toInt + 16 ≤ (μ.1 0 5).toInt ∧ μ.1 0 9 = zSum (μ.1 0 5) (μ.1 0 8) (fun j => μ.1 2 j &&& 255))
theorem zCart.keep {σ σ' μ μ' : zSt} (h : zCart σ μ) (a : ∀ j, j ∈ [1, 3, 4, 5, 6, 7] → σ'.1 1 j = σ.1 1 j) (a2 : σ'.1 (ztp (σ.1 1 1)) = σ.1 (ztp (σ.1 1 1))) (b : ∀ j, j ∈ [5, 6, 7, 8, 9] → μ'.1 0 j = μ.1 0 j) (b2 : μ'.1 2 = μ.1 2) : zCart σ' μ' := by
  unfold zCart at h ⊢
  rw [a 1 (by decide), a 3 (by decide), a 4 (by decide), a 5 (by decide), a 6 (by decide), a 7 (by decide), a2, b 5 (by decide), b 6 (by decide), b 7 (by decide), b 8 (by decide), b 9 (by decide), b2]
  exact h
def zR6L (L : Int) (σ μ : zSt) : Prop := (∀ j : Nat, (j : Int) < L → σ.1 (ztp (σ.1 1 0)) j = μ.1 1 j &&& 255) ∧ ¬ ztp (σ.1 1 0) = ztp (σ.1 1 1) ∧ zCart σ μ
def zR6 (σ μ : zSt) : Prop := σ.1 1 2 = μ.1 0 2 ∧ zR6L (μ.1 0 2).toInt σ μ
theorem z_tp13 (x : Int32) : ztp x = 13 ∨ ztp x = 14 := by
  unfold ztp
  split
  · exact Or.inl rfl
  · exact Or.inr rfl
/-- one byte of the tape on both sides -/
theorem zR6L.set {L L' : Int} {σ μ : zSt} (h : zR6L L σ μ) {i : Nat} {x y : Int32} (hx : x = y &&& 255) (hL : ∀ j : Nat, (j : Int) < L' → ¬ j = i → (j : Int) < L) : zR6L L' (zsi σ (ztp (σ.1 1 0)) i x) (zsi μ 1 i y) := by
  obtain ⟨h1, h2, h3⟩ := h
  have n1 : ¬ 1 = ztp (σ.1 1 0) := z_tp1 _
  have r1 : (zsi σ (ztp (σ.1 1 0)) i x).1 1 = σ.1 1 := zsi_ne n1
  refine ⟨fun j hj => ?_, by rw [r1]; exact h2, h3.keep (fun j _ => by rw [r1]) (zsi_ne (fun r => h2 r.symm)) (fun j _ => by rw [zsi_ne (by decide)]) (zsi_ne (by decide))⟩
  rw [r1]
  by_cases q : j = i
  · subst q
    rw [zsi_ej, zsi_ej]
    exact hx
  · rw [zsi_nj q, zsi_nj q]
    exact h1 j (hL j hj q)
theorem zR6L.lenC {L : Int} {σ μ : zSt} (h : zR6L L σ μ) {v : Int32} : zR6L L (zsi σ 1 2 v) μ := by
  obtain ⟨h1, h2, h3⟩ := h
  have k : ∀ j, ¬ j = 2 → (zsi σ 1 2 v).1 1 j = σ.1 1 j := fun j q => zsi_nj q
  have r : ∀ w, (zsi σ 1 2 v).1 (ztp w) = σ.1 (ztp w) := fun w => zsi_ne (fun e => z_tp1 w e.symm)
  refine ⟨fun j hj => ?_, by rw [k 0 (by decide), k 1 (by decide)]; exact h2, h3.keep (fun j hj => k j (fun e => by subst e; revert hj; decide)) (r _) (fun j _ => rfl) rfl⟩
  rw [k 0 (by decide), r]
  exact h1 j hj
theorem zR6L.wM {L : Int} {σ μ : zSt} (h : zR6L L σ μ) {j : Nat} {v : Int32} (c : [5, 6, 7, 8, 9].contains j = false) : zR6L L σ (zsi μ 0 j v) := by
  obtain ⟨h1, h2, h3⟩ := h
  refine ⟨fun i hi => ?_, h2, h3.keep (fun _ _ => rfl) rfl (fun i hi => ?_) (zsi_ne (by decide))⟩
  · rw [zsi_ne (by decide)]
    exact h1 i hi
  · exact zsi_nj (fun e => by rw [← e, List.contains_iff_mem.mpr hi] at c; exact absurd c (by decide))
/-! feed -/
theorem p_add {σ : zSt} {x : Int32} (hr : (zgi σ 1 2).toInt ≤ 262655) : zpc (fX2_addToTape σ x) (fun r => r = zsi (zsi σ (ztp (σ.1 1 0)) (zgi σ 1 2).toNatClampNeg x) 1 2 (zgi σ 1 2 + 1)) := by
  unfold fX2_addToTape fX2_addToTape_29
  have c2 : (262656 : Int32).toInt = 262656 := rfl
  refine zpc_if (fun q => ?_) (fun q => zpc_ck (zpc_bv (fun σ1 e1 => zpc_bv (fun σ2 e2 => zpc_some ?_))))
  · have q1 := Int32.le_iff_toInt_le.mp q
    exfalso
    omega
  · have a2 : zgi σ1 1 2 = zgi σ 1 2 := by
      subst e1
      show (zsi σ (ztp _) _ _).1 1 2 = σ.1 1 2
      rw [zsi_off (fun r => z_tp1 _ r.1)]
    rw [e2, a2, e1]
    rfl
theorem z_clamp {x : Int32} (h : 0 ≤ x.toInt) : (x.toNatClampNeg : Int) = x.toInt := by
  have : x.toNatClampNeg = x.toInt.toNat := rfl
  omega
theorem z2_feed_48 {x1 : Int32} {x2 x4 x6 : Int64} (hx : zr 1 24 x1) : ∀ (n m : Nat) (σ μ : zSt) (x8 : Int32), zR6 σ μ → zr 0 24 x8 → x8.toInt ≤ x1.toInt → 0 ≤ (μ.1 0 2).toInt → (μ.1 0 2).toInt + (x1.toInt - x8.toInt) ≤ 262656 → zp2 (fX11_feed_48 n σ x1 x2 x4 x6 x8) (fX12_feed_54 m μ x1 x2 x4 x6 x8) (fun r r' => zR6 (zRis r) r'.1) := by
  intro n
  induction n with
  | zero => intro m σ μ x8 _ _ _ _ _; exact zp2_nl
  | succ n ih =>
    intro m σ μ x8 hR h8 hle h0 hb
    cases m with
    | zero => exact zp2_nr
    | succ m =>
      show zp2 (fX11_feed_48_body (fX11_feed_48 n) σ x1 x2 x4 x6 x8) (fX12_feed_54_body (fX12_feed_54 m) μ x1 x2 x4 x6 x8) _
      unfold fX11_feed_48_body fX12_feed_54_body
      have b8 := h8.1
      have bx := hx.2
      refine zp2_if (fun q => zp2_some hR) (fun q => ?_)
      have q1 := Int32.lt_iff_toInt_lt.mp (z_nle q)
      have f : ∀ s0, zp2 (fX11_feed_79 (fX11_feed_48 n) σ x1 x2 x4 x6 x8 s0) (fX12_feed_93 (fX12_feed_54 m) μ x1 x2 x4 x6 x8 s0 (zgi μ 0 2)) (fun r r' => zR6 (zRis r) r'.1) := fun s0 => by
        unfold fX11_feed_79 fX12_feed_93
        have e12 : zgi σ 1 2 = zgi μ 0 2 := hR.1
        have hl : (zgi μ 0 2).toInt ≤ 262655 := by show (μ.1 0 2).toInt ≤ 262655; omega
        refine zp2_bul (p_add (by rw [e12]; exact hl)) (fun σ1 s1 => zp2_bvl (fun v2 e2 => zp2_ckr (zp2_ckr (zp2_bvr (fun μ1 m1 => zp2_bvr (fun μ2 m2 => zp2_bvr (fun v3 e3 => ?_)))))))
        have a2 : zgi μ1 0 2 = zgi μ 0 2 := by
          subst m1
          show (zsi μ 1 _ _).1 0 2 = μ.1 0 2
          rw [zsi_off (by omega)]
        have c1 : (1 : Int32).toInt = 1 := rfl
        have r1 : zr 1 1 (1 : Int32) := zr_c (by decide)
        have t3 : (zgi μ 0 2 + 1).toInt = (zgi μ 0 2).toInt + (1 : Int32).toInt := z_tadd (a := 0) (b := 262655) ⟨h0, hl⟩ r1 (by decide)
        have l2 : (μ2.1 0 2) = zgi μ 0 2 + 1 := by rw [m2, a2, zsi_ej]
        have cl : ((zgi μ 0 2).toNatClampNeg : Int) = (zgi μ 0 2).toInt := z_clamp h0
        have g2 : (zgi μ 0 2).toInt = (μ.1 0 2).toInt := rfl
        have R1 : zR6L ((μ.1 0 2).toInt + 1) (zsi σ (ztp (σ.1 1 0)) (zgi μ 0 2).toNatClampNeg ((((zlushr s0 (8 * (x8 &&& 7))).toInt32) &&& 255))) μ1 := by
          rw [m1]
          exact hR.2.set (z_feedb ⟨b8, by omega⟩) (fun j hj nj => by omega)
        have R2 : zR6 σ1 μ2 := by
          refine ⟨?_, ?_⟩
          · rw [s1, zsi_ej, l2, e12]
          · rw [l2, t3, c1, g2, s1, e12, m2]
            exact (R1.lenC).wM (by decide)
        have t8 : (x8 + 1).toInt = x8.toInt + (1 : Int32).toInt := z_tadd h8 r1 (by decide)
        have t : v3.toInt = x8.toInt + 1 := by rw [e3, t8, c1]
        have e23 : v2 = v3 := by rw [e2, e3]
        rw [e23]
        have l3 : (μ2.1 0 2).toInt = (μ.1 0 2).toInt + 1 := by rw [l2, t3, c1, g2]
        exact ih m σ1 μ2 v3 R2 ⟨by omega, by omega⟩ (by omega) (by omega) (by omega)
      exact zp2_if (fun _ => zp2_if (fun _ => f _) (fun _ => f _)) (fun _ => f _)
theorem zp2_within {α β : Type} {o : Option α} {σ : zSt} {a l h : Int64} {f : zSt → Int32 → Option β} {Q : α → β → Prop} (k1 : l.toInt ≤ a.toInt → a.toInt ≤ h.toInt → zp2 o (f σ 1) Q) (k0 : (a.toInt < l.toInt ∨ h.toInt < a.toInt) → zp2 o (f σ 0) Q) : zp2 o (zbi (fX12_within σ a l h) f) Q := by
  unfold fX12_within
  by_cases q1 : lg_cmp a l < 0
  · rw [if_pos q1]; exact k0 (Or.inl (z_cmp_lt.mp q1))
  · rw [if_neg q1]
    by_cases q2 : 0 < lg_cmp a h
    · rw [if_pos q2]; exact k0 (Or.inr (z_cmp_gt.mp q2))
    · rw [if_neg q2]
      exact k1 (Int.not_lt.mp (fun r => q1 (z_cmp_lt.mpr r))) (Int.not_lt.mp (fun r => q2 (z_cmp_gt.mpr r)))
theorem zp2_fails0 {α β : Type} {o : Option α} {σ : zSt} {c : Int32} {f : zSt → Int32 → Option β} {Q : α → β → Prop} (k : ∀ σ1, σ1 = zsi σ 0 0 0 → zp2 o (f σ1 0) Q) : zp2 o (zbi (fX12_fails σ 0 c) f) Q := by
  unfold fX12_fails
  rw [if_pos rfl]
  exact k _ rfl
theorem zp2_fails1 {α β : Type} {o : Option α} {σ : zSt} {c : Int32} {f : zSt → Int32 → Option β} {Q : α → β → Prop} (k : ∀ σ1, σ1 = zsi σ 0 0 c → zp2 o (f σ1 1) Q) : zp2 o (zbi (fX12_fails σ 1 c) f) Q := by
  unfold fX12_fails
  rw [if_neg (by decide)]
  exact k _ rfl
theorem zok_biE {α : Type} {o : Option (zSt × Int32)} {f : zSt → Int32 → Option α} {Q : zSt × Int32 → Prop} {P : α → Prop} (h : zok o Q) (k : ∀ σ v, o = some (σ, v) → Q (σ, v) → zok (f σ v) P) : zok (zbi o f) P := by
  obtain ⟨a, e, q⟩ := h
  subst e
  exact k a.1 a.2 rfl q
theorem zok_bllE {α : Type} {o : Option (zSt × Int64)} {f : zSt → Int64 → Option α} {Q : zSt × Int64 → Prop} {P : α → Prop} (h : zok o Q) (k : ∀ σ v, o = some (σ, v) → Q (σ, v) → zok (f σ v) P) : zok (zbl o f) P := by
  obtain ⟨a, e, q⟩ := h
  subst e
  exact k a.1 a.2 rfl q
theorem zok_buE {α : Type} {o : Option zSt} {f : zSt → Option α} {Q : zSt → Prop} {P : α → Prop} (h : zok o Q) (k : ∀ σ, o = some σ → Q σ → zok (f σ) P) : zok (zbu o f) P := by
  obtain ⟨a, e, q⟩ := h
  subst e
  exact k a rfl q
theorem zok_bhE {α : Type} {q : Option (zHs × Int32)} {f : (Nat → Int64) → zSt → Int32 → Option α} {Q : zHs × Int32 → Prop} {P : α → Prop} (h : zok q Q) (k : ∀ o σ v, q = some ((o, σ), v) → Q ((o, σ), v) → zok (f o σ v) P) : zok (zbh q f) P := by
  obtain ⟨a, e, r⟩ := h
  subst e
  exact k a.1.1 a.1.2 a.2 rfl r
/-! masks and shifts as remainders and quotients -/
theorem z_mask {x m : Int32} {k : Nat} (hx : 0 ≤ x.toInt) (hm : m.toBitVec.toNat = 2 ^ k - 1) (hk : k < 31) : (x &&& m).toInt = x.toInt % ((2 ^ k : Nat) : Int) := by
  have nx := z_tN hx
  have p : 2 ^ k < 2147483648 := by
    have : (2 : Nat) ^ k ≤ 2 ^ 30 := Nat.pow_le_pow_right (by decide) (by omega)
    omega
  have p0 : 0 < 2 ^ k := Nat.pow_pos (by decide)
  have e : (x &&& m).toBitVec.toNat = x.toBitVec.toNat % 2 ^ k := by rw [Int32.toBitVec_and, BitVec.toNat_and, hm, Nat.and_two_pow_sub_one_eq_mod]
  have l := Nat.mod_lt x.toBitVec.toNat p0
  rw [z_Nt e (by omega), ← nx]
  exact Int.natCast_emod _ _
theorem z_quo {x s : Int32} {k : Nat} (hx : 0 ≤ x.toInt) (hs : (s.toBitVec.smod 32).toNat = k) : (x >>> s).toInt = x.toInt / ((2 ^ k : Nat) : Int) := by
  have e : (x >>> s).toBitVec = x.toBitVec.sshiftRight (s.toBitVec.smod 32).toNat := rfl
  have e2 : (x >>> s).toInt = ((x >>> s).toBitVec).toInt := rfl
  rw [e2, e, hs, BitVec.toInt_sshiftRight, Int.shiftRight_eq_div_pow]
  rfl
/-! memory of both sides -/
def zFil (μ : zSt) : Prop := ∀ j : Nat, (μ.1 0 5).toInt ≤ (j : Int) → (j : Int) < 16384 * (μ.1 0 6).toInt → μ.1 2 j &&& 255 = 255
def zMe (σ μ : zSt) : Prop := (∀ j : Nat, j < 8192 → σ.1 15 j = μ.1 5 j &&& 255) ∧ (∀ j : Nat, j < 32768 → σ.1 17 j = μ.1 6 j &&& 255) ∧ (∀ j : Nat, j < 3 → σ.1 19 j = μ.1 3 (29 + j)) ∧ σ.1 19 3 = μ.1 3 32 ∧ zCart σ μ ∧ zFil μ
/-- ranges that reading wants -/
def zMr (σ μ : zSt) : Prop := zr 0 512 (σ.1 1 3) ∧ zr 0 262144 (σ.1 1 4) ∧ zr 0 16 (μ.1 0 6) ∧ zr 0 3 (μ.1 0 7) ∧ ((μ.1 0 7).toInt = 0 ∨ 1 ≤ (μ.1 0 6).toInt) ∧ (∀ j : Nat, 29 ≤ j → j ≤ 32 → zr 0 255 (μ.1 3 j))
theorem z_16 {v : Int32} (h : 0 ≤ v.toInt) : (v &&& 16383).toInt = v.toInt % 16384 := z_mask (k := 14) h rfl (by decide)
theorem z_8 {v : Int32} (h : 0 ≤ v.toInt) : (v &&& 8191).toInt = v.toInt % 8192 := z_mask (k := 13) h rfl (by decide)
theorem z2_bank {σ μ : zSt} {v b : Int32} (h : zMe σ μ) (hr : zMr σ μ) (hv : zr 0 49151 v) (hb : zr 0 255 b) (hp : 1 ≤ (μ.1 0 6).toInt) : zp2 (fX2_read_126 σ v b) (fX12_ofBank μ b v) (fun r r' => r.1 = σ ∧ r'.1 = μ ∧ r.2 = r'.2) := by
  obtain ⟨_, _, _, _, hc, hf⟩ := h
  obtain ⟨r3, r4, r6, r7, _, _⟩ := hr
  obtain ⟨c4, c5, c6, c7, cb, _⟩ := hc
  unfold fX2_read_126 fX12_ofBank fX2_read_144 fX2_read_169
  have v0 := hv.1
  have v1 := hv.2
  have g5 : zgi σ 1 5 = μ.1 0 6 := c5
  have b6 := r6.2
  have tr := z_trem (y := μ.1 0 6) (μ.1 0 6).toInt rfl hb ⟨by decide, by omega⟩
  have m0 := Int.emod_nonneg b.toInt (b := (μ.1 0 6).toInt) (by omega)
  have m1 := Int.emod_lt_of_pos b.toInt (b := (μ.1 0 6).toInt) (by omega)
  have rr : zr 0 15 (zrem b (μ.1 0 6)) := ⟨by omega, by omega⟩
  have k4 : (16384 : Int32).toInt = 16384 := rfl
  have q4 : zr 16384 16384 (16384 : Int32) := zr_c (by decide)
  have t1 := z_tmul rr q4 (by decide)
  have t2 := z_tmul q4 rr (by decide)
  have s1 := zr_mul (lo := 0) (hi := 245760) rr q4 (by decide)
  have s2 := zr_mul (lo := 0) (hi := 245760) q4 rr (by decide)
  have e16 := z_16 v0
  have n0 := Int.emod_nonneg v.toInt (b := 16384) (by decide)
  have n1 := Int.emod_lt_of_pos v.toInt (b := 16384) (by decide)
  have ra : zr 0 16383 (v &&& 16383) := ⟨by omega, by omega⟩
  have t3 := z_tadd s1 ra (by decide)
  have tv := z_trem (y := (16384 : Int32)) 16384 rfl hv (by decide)
  have rb : zr 0 16383 (zrem v 16384) := ⟨by omega, by omega⟩
  have t4 := z_tadd s2 rb (by decide)
  have same : ((zrem b (μ.1 0 6)) * 16384) + (v &&& 16383) = (16384 * (zrem b (μ.1 0 6))) + (zrem v 16384) := Int32.toInt_inj.mp (by rw [t3, t4, t1, t2, e16, tv, k4]; omega)
  have pb : ((16384 * (zrem b (μ.1 0 6))) + (zrem v 16384)).toInt < 16384 * (μ.1 0 6).toInt := by
    rw [t4, t2, tv, tr, k4]
    have : 16384 * (b.toInt % (μ.1 0 6).toInt) ≤ 16384 * ((μ.1 0 6).toInt - 1) := Int.mul_le_mul_of_nonneg_left (by omega) (by decide)
    omega
  have p0 : 0 ≤ ((16384 * (zrem b (μ.1 0 6))) + (zrem v 16384)).toInt := by
    rw [t4, t2, tv, tr, k4]
    have : 0 ≤ 16384 * (b.toInt % (μ.1 0 6).toInt) := Int.mul_nonneg (by decide) m0
    omega
  rw [g5]
  refine zp2_ckl (zp2_bvl (fun p ep => zp2_ckr (zp2_ckr (zp2_ckr ?_))))
  rw [same] at ep
  subst ep
  have kp := z_clamp p0
  have g4 : zgi σ 1 4 = μ.1 0 5 := c4
  rw [g4]
  refine zp2_ifl (fun q => zp2_some ⟨rfl, rfl, ?_⟩) (fun q => zp2_ckl (zp2_some ⟨rfl, rfl, ?_⟩))
  · have q1 := Int32.le_iff_toInt_le.mp q
    exact (hf ((16384 * (zrem b (μ.1 0 6))) + (zrem v 16384)).toNatClampNeg (by omega) (by omega)).symm
  · have q1 := Int32.lt_iff_toInt_lt.mp (z_nle q)
    have b0 := r3.1
    have z4 := r4.2
    rw [c4] at z4
    have t5 : (σ.1 1 3 + ((16384 * (zrem b (μ.1 0 6))) + (zrem v 16384))).toInt = (σ.1 1 3).toInt + ((16384 * (zrem b (μ.1 0 6))) + (zrem v 16384)).toInt := z_tadd (c := 0) (d := 262144) r3 ⟨p0, by omega⟩ (by decide)
    have k5 := z_clamp (x := σ.1 1 3 + ((16384 * (zrem b (μ.1 0 6))) + (zrem v 16384))) (by omega)
    have k6 := z_clamp b0
    have e := cb ((16384 * (zrem b (μ.1 0 6))) + (zrem v 16384)).toNatClampNeg (by omega)
    show σ.1 (ztp (σ.1 1 1)) (σ.1 1 3 + ((16384 * (zrem b (μ.1 0 6))) + (zrem v 16384))).toNatClampNeg = μ.1 2 ((16384 * (zrem b (μ.1 0 6))) + (zrem v 16384)).toNatClampNeg &&& 255
    rw [show (σ.1 1 3 + ((16384 * (zrem b (μ.1 0 6))) + (zrem v 16384))).toNatClampNeg = (σ.1 1 3).toNatClampNeg + ((16384 * (zrem b (μ.1 0 6))) + (zrem v 16384)).toNatClampNeg by omega]
    exact e
