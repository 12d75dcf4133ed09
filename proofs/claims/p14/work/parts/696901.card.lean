/-! bytes -/
theorem z_255 {i : Nat} (h : 8 ≤ i) : (255#32).getLsbD i = false := by
  by_cases hi : i < 32
  · have k : ∀ j : Fin 32, 8 ≤ j.val → (255#32).getLsbD j.val = false := by decide
    exact k ⟨i, hi⟩ h
  · exact BitVec.getLsbD_of_ge _ _ (by omega)
theorem z_and255 {x y : Int32} (h : ∀ i, i < 8 → x.toBitVec.getLsbD i = y.toBitVec.getLsbD i) : x &&& 255 = y &&& 255 := by
  refine Int32.toBitVec_inj.1 (BitVec.eq_of_getLsbD_eq (fun i hi => ?_))
  rw [Int32.toBitVec_and, Int32.toBitVec_and, BitVec.getLsbD_and, BitVec.getLsbD_and]
  by_cases q : i < 8
  · rw [h i q]
  · rw [show (255 : Int32).toBitVec = 255#32 from rfl, z_255 (by omega), Bool.and_false, Bool.and_false]
theorem z_nar {x : Int32} : vp_nar .byte x &&& 255 = x &&& 255 := by
  refine z_and255 (fun i hi => ?_)
  have e : (vp_nar .byte x).toBitVec = (x.toBitVec.signExtend 8).signExtend 32 := rfl
  rw [e, BitVec.getLsbD_signExtend, if_pos hi, decide_eq_true (show i < 32 by omega), Bool.true_and, BitVec.getLsbD_signExtend, if_pos (show i < 32 by omega), decide_eq_true hi, Bool.true_and]
theorem z_i8 {x : Int32} : x.toInt8.toInt32 &&& 255 = x &&& 255 := z_nar (x := x)
theorem z_sh1 : ∀ i : Fin 8, (((8 * Int32.ofNat i.val).toInt64 &&& 63).toBitVec.smod 64).toNat = 8 * i.val := by decide +kernel
theorem z_sh2 : ∀ i : Fin 8, (UInt64.mod ((8 * Int32.ofNat i.val).toInt64.toUInt64 &&& Int64.toUInt64 63) 64).toBitVec.toNat = 8 * i.val := by decide +kernel
theorem z_shb {s : Int64} {i : Nat} (hi : i < 8) : (zlshr s (8 * Int32.ofNat i)).toInt32 &&& 255 = (zlushr s (8 * Int32.ofNat i)).toInt32 &&& 255 := by
  refine z_and255 (fun j hj => ?_)
  have s1 : (((8 * Int32.ofNat i).toInt64 &&& 63).toBitVec.smod 64).toNat = 8 * i := z_sh1 ⟨i, hi⟩
  have s2 : (UInt64.mod ((8 * Int32.ofNat i).toInt64.toUInt64 &&& Int64.toUInt64 63) 64).toBitVec.toNat = 8 * i := z_sh2 ⟨i, hi⟩
  have e1 : (zlshr s (8 * Int32.ofNat i)).toInt32.toBitVec = (s.toBitVec.sshiftRight (((8 * Int32.ofNat i).toInt64 &&& 63).toBitVec.smod 64).toNat).signExtend 32 := rfl
  have e2 : (zlushr s (8 * Int32.ofNat i)).toInt32.toBitVec = (s.toBitVec >>> (UInt64.mod ((8 * Int32.ofNat i).toInt64.toUInt64 &&& Int64.toUInt64 63) 64).toBitVec.toNat).signExtend 32 := rfl
  rw [e1, e2, s1, s2]
  simp only [BitVec.getLsbD_signExtend, BitVec.getLsbD_sshiftRight, BitVec.getLsbD_ushiftRight, if_pos (show j < 64 by omega), if_pos (show 8 * i + j < 64 by omega), decide_eq_false (show ¬ 64 ≤ j by omega), Bool.not_false, Bool.true_and]
theorem z_x24 : ∀ i : Fin 24, zrem (Int32.ofNat i.val) 8 = Int32.ofNat (i.val % 8) ∧ Int32.ofNat i.val &&& 7 = Int32.ofNat (i.val % 8) := by decide +kernel
theorem z_ofN {x : Int32} {i : Nat} (h : x.toInt = i) : x = Int32.ofNat i := by
  have l := Int32.toInt_lt x
  exact Int32.toInt_inj.mp (by rw [Int32.toInt_ofNat_of_lt (by omega), h])
/-- the byte that feed lays, on both sides -/
theorem z_feedb {s : Int64} {x : Int32} (h : zr 0 23 x) : ((zlushr s (8 * (x &&& 7))).toInt32) &&& 255 = vp_nar .byte (((zlshr s (8 * (zrem x 8))).toInt32).toInt8.toInt32) &&& 255 := by
  obtain ⟨h1, h2⟩ := h
  obtain ⟨i, hi⟩ : ∃ i : Nat, x.toInt = i := ⟨x.toInt.toNat, by omega⟩
  have e := z_ofN hi
  have k1 : zrem (Int32.ofNat i) 8 = Int32.ofNat (i % 8) := (z_x24 ⟨i, by omega⟩).1
  have k2 : Int32.ofNat i &&& 7 = Int32.ofNat (i % 8) := (z_x24 ⟨i, by omega⟩).2
  rw [z_nar, z_i8, e, k1, k2]
  exact (z_shb (by omega)).symm
theorem z_patchb {s : Int64} {x : Int32} (h : zr 0 7 x) : ((zlushr s (8 * x)).toInt32) &&& 255 = vp_nar .byte (((zlshr s (8 * x)).toInt32).toInt8.toInt32) &&& 255 := by
  obtain ⟨h1, h2⟩ := h
  obtain ⟨i, hi⟩ : ∃ i : Nat, x.toInt = i := ⟨x.toInt.toNat, by omega⟩
  have e := z_ofN hi
  rw [z_nar, z_i8, e]
  exact (z_shb (by omega)).symm
/-! two computations side by side -/
def zp2 {α β : Type} (o : Option α) (p : Option β) (Q : α → β → Prop) : Prop := ∀ a b, o = some a → p = some b → Q a b
theorem zp2_nl {α β : Type} {p : Option β} {Q : α → β → Prop} : zp2 (none : Option α) p Q := fun a b e _ => by cases e
theorem zp2_nr {α β : Type} {o : Option α} {Q : α → β → Prop} : zp2 o (none : Option β) Q := fun a b _ e => by cases e
theorem zp2_some {α β : Type} {a : α} {b : β} {Q : α → β → Prop} (h : Q a b) : zp2 (some a) (some b) Q := fun x y e f => by cases e; cases f; exact h
theorem zp2_ckl {α β : Type} {c : Bool} {o : Option α} {p : Option β} {Q : α → β → Prop} (h : zp2 o p Q) : zp2 (zck c o) p Q := by
  cases c
  · exact zp2_nl
  · exact h
theorem zp2_ckr {α β : Type} {c : Bool} {o : Option α} {p : Option β} {Q : α → β → Prop} (h : zp2 o p Q) : zp2 o (zck c p) Q := by
  cases c
  · exact zp2_nr
  · exact h
theorem zp2_ifl {α β : Type} {c : Prop} {d : Decidable c} {x y : Option α} {p : Option β} {Q : α → β → Prop} (h1 : c → zp2 x p Q) (h2 : ¬ c → zp2 y p Q) : zp2 (@ite _ c d x y) p Q := by
  by_cases q : c
  · rw [if_pos q]; exact h1 q
  · rw [if_neg q]; exact h2 q
theorem zp2_ifr {α β : Type} {c : Prop} {d : Decidable c} {o : Option α} {x y : Option β} {Q : α → β → Prop} (h1 : c → zp2 o x Q) (h2 : ¬ c → zp2 o y Q) : zp2 o (@ite _ c d x y) Q := by
  by_cases q : c
  · rw [if_pos q]; exact h1 q
  · rw [if_neg q]; exact h2 q
/-- both ask the same -/
theorem zp2_if {α β : Type} {c : Prop} {d d' : Decidable c} {x y : Option α} {x' y' : Option β} {Q : α → β → Prop} (h1 : c → zp2 x x' Q) (h2 : ¬ c → zp2 y y' Q) : zp2 (@ite _ c d x y) (@ite _ c d' x' y') Q := zp2_ifl (fun q => zp2_ifr (fun _ => h1 q) (fun r => absurd q r)) (fun q => zp2_ifr (fun r => absurd r q) (fun _ => h2 q))
theorem zp2_bvl {α β γ : Type} {x : γ} {f : γ → Option α} {p : Option β} {Q : α → β → Prop} (h : ∀ y, y = x → zp2 (f y) p Q) : zp2 (zbv x f) p Q := h x rfl
theorem zp2_bvr {α β γ : Type} {x : γ} {o : Option α} {f : γ → Option β} {Q : α → β → Prop} (h : ∀ y, y = x → zp2 o (f y) Q) : zp2 o (zbv x f) Q := h x rfl
theorem zp2_bul {α β : Type} {o : Option zSt} {f : zSt → Option α} {p : Option β} {P : zSt → Prop} {Q : α → β → Prop} (h : zpc o P) (k : ∀ σ, P σ → zp2 (f σ) p Q) : zp2 (zbu o f) p Q := by
  cases o with
  | none => exact zp2_nl
  | some a => exact k a (h a rfl)
theorem zp2_of {α β : Type} {o : Option α} {p : Option β} {P : α → Prop} {P' : β → Prop} {Q : α → β → Prop} (h : zpc o P) (h' : zpc p P') (k : ∀ a b, P a → P' b → Q a b) : zp2 o p Q := fun a b e f => k a b (h a e) (h' b f)
/-! tape and cartridge of both sides -/
def zSm (b : Nat → Int32) : Nat → Nat → Int32 → Int32
  | 0, _, a => a
  | n + 1, i, a => zSm b n (i + 1) (a + b i)
/-- the sum over a cartridge's bytes: size, header, bytes -/
def zSum (z h : Int32) (b : Nat → Int32) : Int32 := (if 13 < b (h.toNatClampNeg + 15) &&& 15 then zSm b (z.toNatClampNeg - 32768) 32768 (zSm b h.toNatClampNeg 0 0) else if 3 ≤ b (h.toNatClampNeg + 15) &&& 15 then zSm b h.toNatClampNeg 0 0 else zSm b (z.toNatClampNeg - 32768) 32768 (zSm b h.toNatClampNeg 0 0)) &&& 65535
def zCart (σ μ : zSt) : Prop := σ.1 1 4 = μ.1 0 5 ∧ σ.1 1 5 = μ.1 0 6 ∧ σ.1 1 6 = μ.1 0 7 ∧ σ.1 1 7 = μ.1 0 8 ∧ (∀ j : Nat, (j : Int) < (μ.1 0 5).toInt → σ.1 (ztp (σ.1 1 1)) ((σ.1 1 3).toNatClampNeg + j) = μ.1 2 j &&& 255) ∧ (0 ≤ (μ.1 0 8).toInt → (μ.1 0 8).toInt + 16 ≤ (μ.1 0 5).toInt ∧ μ.1 0 9 = zSum (μ.1 0 5) (μ.1 0 8) (fun j => μ.1 2 j &&& 255))
theorem zCart.keep {σ σ' μ μ' : zSt} (h : zCart σ μ) (a : ∀ j, j ∈ [1, 3, 4, 5, 6, 7] → σ'.1 1 j = σ.1 1 j) (a2 : σ'.1 (ztp (σ.1 1 1)) = σ.1 (ztp (σ.1 1 1))) (b : ∀ j, j ∈ [5, 6, 7, 8, 9] → μ'.1 0 j = μ.1 0 j) (b2 : μ'.1 2 = μ.1 2) : zCart σ' μ' := by
  unfold zCart at h ⊢
  rw [a 1 (by decide), a 3 (by decide), a 4 (by decide), a 5 (by decide), a 6 (by decide), a 7 (by decide), a2, b 5 (by decide), b 6 (by decide), b 7 (by decide), b 8 (by decide), b 9 (by decide), b2]
  exact h
def zR6L (L : Int) (σ μ : zSt) : Prop := (∀ j : Nat, (j : Int) < L → σ.1 (ztp (σ.1 1 0)) j = μ.1 1 j &&& 255) ∧ ¬ ztp (σ.1 1 0) = ztp (σ.1 1 1) ∧ zCart σ μ
def zR6 (σ μ : zSt) : Prop := σ.1 1 2 = μ.1 0 2 ∧ zR6L (μ.1 0 2).toInt σ μ
theorem z_tp13 (x : Int32) : ztp x = 13 ∨ ztp x = 14 := by
  unfold ztp
  split
  · exact Or.inl rfl
  · exact Or.inr rfl
theorem zKeC.row {σ σ' : zSt} (a : zKeC σ σ') (w : Int32) : σ'.1 (ztp w) = σ.1 (ztp w) := by
  rcases z_tp13 w with e | e <;> rw [e]
  · exact a.2.1
  · exact a.2.2
theorem zR6.keep {σ σ' μ μ' : zSt} (h : zR6 σ μ) (a : zKeC σ σ') (b : zKeM μ μ') : zR6 σ' μ' := by
  obtain ⟨h1, h2, h3, h4⟩ := h
  have c : zCart σ' μ' := h4.keep (fun j _ => by rw [a.1]) (a.row _) (fun j hj => b.2.2 j (by revert hj; simp only [List.mem_cons, List.not_mem_nil, or_false]; omega)) b.2.1
  unfold zR6 zR6L
  rw [a.1, a.row, b.2.2 2 (by decide), b.1]
  exact ⟨h1, h2, h3, c⟩
/-- one byte of the tape on both sides -/
theorem zR6L.set {L L' : Int} {σ μ : zSt} (h : zR6L L σ μ) {i : Nat} {x y : Int32} (hx : x = y &&& 255) (hL : ∀ j : Nat, (j : Int) < L' → ¬ j = i → (j : Int) < L) : zR6L L' (zsi σ (ztp (σ.1 1 0)) i x) (zsi μ 1 i y) := by
  obtain ⟨h1, h2, h3⟩ := h
  have n1 : ¬ 1 = ztp (σ.1 1 0) := z_tp1 _
  have r1 : (zsi σ (ztp (σ.1 1 0)) i x).1 1 = σ.1 1 := zsi_ne n1
  refine ⟨fun j hj => ?_, by rw [r1]; exact h2, h3.keep (fun j _ => by rw [r1]) (zsi_ne (fun r => h2 r.symm)) (fun j _ => by rw [zsi_ne (by decide)]) (zsi_ne (by decide))⟩
  rw [r1]
  by_cases q : j = i
  · subst q
    rw [zsi_ej, zsi_ej]
    exact hx
  · rw [zsi_nj q, zsi_nj q]
    exact h1 j (hL j hj q)
theorem zR6L.lenC {L : Int} {σ μ : zSt} (h : zR6L L σ μ) {v : Int32} : zR6L L (zsi σ 1 2 v) μ := by
  obtain ⟨h1, h2, h3⟩ := h
  have k : ∀ j, ¬ j = 2 → (zsi σ 1 2 v).1 1 j = σ.1 1 j := fun j q => zsi_nj q
  have r : ∀ w, (zsi σ 1 2 v).1 (ztp w) = σ.1 (ztp w) := fun w => zsi_ne (fun e => z_tp1 w e.symm)
  refine ⟨fun j hj => ?_, by rw [k 0 (by decide), k 1 (by decide)]; exact h2, h3.keep (fun j hj => k j (fun e => by subst e; revert hj; decide)) (r _) (fun j _ => rfl) rfl⟩
  rw [k 0 (by decide), r]
  exact h1 j hj
theorem zR6L.wM {L : Int} {σ μ : zSt} (h : zR6L L σ μ) {j : Nat} {v : Int32} (c : [5, 6, 7, 8, 9].contains j = false) : zR6L L σ (zsi μ 0 j v) := by
  obtain ⟨h1, h2, h3⟩ := h
  refine ⟨fun i hi => ?_, h2, h3.keep (fun _ _ => rfl) rfl (fun i hi => ?_) (zsi_ne (by decide))⟩
  · rw [zsi_ne (by decide)]
    exact h1 i hi
  · exact zsi_nj (fun e => by rw [← e, List.contains_iff_mem.mpr hi] at c; exact absurd c (by decide))
/-! feed -/
theorem p_add {σ : zSt} {x : Int32} (hr : (zgi σ 1 2).toInt ≤ 262655) : zpc (fX2_addToTape σ x) (fun r => r = zsi (zsi σ (ztp (σ.1 1 0)) (zgi σ 1 2).toNatClampNeg x) 1 2 (zgi σ 1 2 + 1)) := by
  unfold fX2_addToTape fX2_addToTape_29
  have c2 : (262656 : Int32).toInt = 262656 := rfl
  refine zpc_if (fun q => ?_) (fun q => zpc_ck (zpc_bv (fun σ1 e1 => zpc_bv (fun σ2 e2 => zpc_some ?_))))
  · have q1 := Int32.le_iff_toInt_le.mp q
    exfalso
    omega
  · have a2 : zgi σ1 1 2 = zgi σ 1 2 := by
      subst e1
      show (zsi σ (ztp _) _ _).1 1 2 = σ.1 1 2
      rw [zsi_off (fun r => z_tp1 _ r.1)]
    rw [e2, a2, e1]
    rfl
theorem z_clamp {x : Int32} (h : 0 ≤ x.toInt) : (x.toNatClampNeg : Int) = x.toInt := by
  have : x.toNatClampNeg = x.toInt.toNat := rfl
  omega
theorem z2_feed_48 {x1 : Int32} {x2 x4 x6 : Int64} (hx : zr 1 24 x1) : ∀ (n m : Nat) (σ μ : zSt) (x8 : Int32), zR6 σ μ → zr 0 24 x8 → x8.toInt ≤ x1.toInt → 0 ≤ (μ.1 0 2).toInt → (μ.1 0 2).toInt + (x1.toInt - x8.toInt) ≤ 262656 → zp2 (fX11_feed_48 n σ x1 x2 x4 x6 x8) (fX12_feed_54 m μ x1 x2 x4 x6 x8) (fun r r' => zR6 (zRis r) r'.1) := by
  intro n
  induction n with
  | zero => intro m σ μ x8 _ _ _ _ _; exact zp2_nl
  | succ n ih =>
    intro m σ μ x8 hR h8 hle h0 hb
    cases m with
    | zero => exact zp2_nr
    | succ m =>
      show zp2 (fX11_feed_48_body (fX11_feed_48 n) σ x1 x2 x4 x6 x8) (fX12_feed_54_body (fX12_feed_54 m) μ x1 x2 x4 x6 x8) _
      unfold fX11_feed_48_body fX12_feed_54_body
      have b8 := h8.1
      have bx := hx.2
      refine zp2_if (fun q => zp2_some hR) (fun q => ?_)
      have q1 := Int32.lt_iff_toInt_lt.mp (z_nle q)
      have f : ∀ s0, zp2 (fX11_feed_79 (fX11_feed_48 n) σ x1 x2 x4 x6 x8 s0) (fX12_feed_93 (fX12_feed_54 m) μ x1 x2 x4 x6 x8 s0 (zgi μ 0 2)) (fun r r' => zR6 (zRis r) r'.1) := fun s0 => by
        unfold fX11_feed_79 fX12_feed_93
        have e12 : zgi σ 1 2 = zgi μ 0 2 := hR.1
        have hl : (zgi μ 0 2).toInt ≤ 262655 := by show (μ.1 0 2).toInt ≤ 262655; omega
        refine zp2_bul (p_add (by rw [e12]; exact hl)) (fun σ1 s1 => zp2_bvl (fun v2 e2 => zp2_ckr (zp2_ckr (zp2_bvr (fun μ1 m1 => zp2_bvr (fun μ2 m2 => zp2_bvr (fun v3 e3 => ?_)))))))
        have a2 : zgi μ1 0 2 = zgi μ 0 2 := by
          subst m1
          show (zsi μ 1 _ _).1 0 2 = μ.1 0 2
          rw [zsi_off (by omega)]
        have c1 : (1 : Int32).toInt = 1 := rfl
        have r1 : zr 1 1 (1 : Int32) := zr_c (by decide)
        have t3 : (zgi μ 0 2 + 1).toInt = (zgi μ 0 2).toInt + (1 : Int32).toInt := z_tadd (a := 0) (b := 262655) ⟨h0, hl⟩ r1 (by decide)
        have l2 : (μ2.1 0 2) = zgi μ 0 2 + 1 := by rw [m2, a2, zsi_ej]
        have cl : ((zgi μ 0 2).toNatClampNeg : Int) = (zgi μ 0 2).toInt := z_clamp h0
        have g2 : (zgi μ 0 2).toInt = (μ.1 0 2).toInt := rfl
        have R1 : zR6L ((μ.1 0 2).toInt + 1) (zsi σ (ztp (σ.1 1 0)) (zgi μ 0 2).toNatClampNeg ((((zlushr s0 (8 * (x8 &&& 7))).toInt32) &&& 255))) μ1 := by
          rw [m1]
          exact hR.2.set (z_feedb ⟨b8, by omega⟩) (fun j hj nj => by omega)
        have R2 : zR6 σ1 μ2 := by
          refine ⟨?_, ?_⟩
          · rw [s1, zsi_ej, l2, e12]
          · rw [l2, t3, c1, g2, s1, e12, m2]
            exact (R1.lenC).wM (by decide)
        have t8 : (x8 + 1).toInt = x8.toInt + (1 : Int32).toInt := z_tadd h8 r1 (by decide)
        have t : v3.toInt = x8.toInt + 1 := by rw [e3, t8, c1]
        have e23 : v2 = v3 := by rw [e2, e3]
        rw [e23]
        have l3 : (μ2.1 0 2).toInt = (μ.1 0 2).toInt + 1 := by rw [l2, t3, c1, g2]
        exact ih m σ1 μ2 v3 R2 ⟨by omega, by omega⟩ (by omega) (by omega) (by omega)
      exact zp2_if (fun _ => zp2_if (fun _ => f _) (fun _ => f _)) (fun _ => f _)
