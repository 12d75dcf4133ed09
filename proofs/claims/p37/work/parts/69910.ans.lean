section ZJN0
/-! ANSWERS of both sides, from states whose cells belong together -/
theorem zq_lt {x c : Int32} {a b k : Int} (h : zr a b x) (hc : c.toInt = k) (l : k ≤ a) : ¬ x < c := fun q => by
  have := Int32.lt_iff_toInt_lt.mp q; have := h.1; omega
theorem zq_ltt {x c : Int32} {a b k : Int} (h : zr a b x) (hc : c.toInt = k) (l : b < k) : x < c := Int32.lt_iff_toInt_lt.mpr (by have := h.2; omega)
theorem zq_le {x c : Int32} {a b k : Int} (h : zr a b x) (hc : c.toInt = k) (l : b ≤ k) : x ≤ c := Int32.le_iff_toInt_le.mpr (by have := h.2; omega)
theorem zq_lef {x c : Int32} {a b k : Int} (h : zr a b x) (hc : c.toInt = k) (l : k < a) : ¬ x ≤ c := fun q => by
  have := Int32.le_iff_toInt_le.mp q; have := h.1; omega
theorem zq_gef {x c : Int32} {a b k : Int} (h : zr a b x) (hc : c.toInt = k) (l : b < k) : ¬ c ≤ x := fun q => by
  have := Int32.le_iff_toInt_le.mp q; have := h.2; omega
theorem zq_ne {x c : Int32} {a b k : Int} (h : zr a b x) (hc : c.toInt = k) (l : k < a ∨ b < k) : ¬ x = c := fun q => by
  subst q; have := h.1; have := h.2; omega
theorem zr_lt {x c : Int32} {a b k : Int} (h : zr a b x) (hc : c.toInt = k) (q : x < c) : zr a (k - 1) x := ⟨h.1, by have := Int32.lt_iff_toInt_lt.mp q; omega⟩
theorem z_nin {x : Int32} {a b : Int} {l h : Int64} (w : x.toInt64.toInt < l.toInt ∨ h.toInt < x.toInt64.toInt) (hl : l.toInt = a) (hh : h.toInt = b) : x.toInt < a ∨ b < x.toInt := by
  rw [Int32.toInt_toInt64, hl, hh] at w
  exact w
/-- a cell that lies behind another by a constant -/
theorem z_off {x c : Int32} {k : Nat} {a b : Int} (h : zr a b x) (hc : c.toInt = k) (l : 0 ≤ a ∧ b + k ≤ 2147483647) : (c + x).toNatClampNeg = k + x.toNatClampNeg := by
  have t := z_tadd (x := c) (y := x) (a := k) (b := k) ⟨by omega, by omega⟩ h ⟨by omega, by omega⟩
  have h1 := h.1
  have k1 := z_clamp (x := c + x) (by omega)
  have k2 := z_clamp (x := x) (by omega)
  omega
noncomputable def zAns (K : Nat) (r : zRi) (b : zSt × Int32) : Prop := (∃ s, r = Sum.inr (s, K) ∧ zTh 1 b.1) ∨ (∃ s, r = Sum.inl (s, b.2) ∧ zTh 0 b.1)
noncomputable def zAnl (K : Nat) (r : zRl) (b : zSt × Int64) : Prop := (∃ s, r = Sum.inr (s, K) ∧ zTh 1 b.1) ∨ (∃ s, r = Sum.inl (s, b.2) ∧ zTh 0 b.1)
noncomputable def zCv (a : zHs × Int32) (b : zSt × Int32) : Prop := zgi b.1 0 0 = a.2 ∧ (a.2 = 0 → (a.1.1 0).toInt = b.2.toInt)
noncomputable def zCl (a : zHs × Int32) (b : zSt × Int64) : Prop := zgi b.1 0 0 = a.2 ∧ (a.2 = 0 → (a.1.1 0).toInt = b.2.toInt)
theorem zAns.h {K : Nat} {o : Nat → Int64} {q : Option zRi} {p : Option (zSt × Int32)} (h : zp2 q p (zAns K)) : zp2 (zbr q (zhi o (zh1 K))) p zCv := by
  intro a c ea ec
  cases e : q with
  | none => rw [e] at ea; cases ea
  | some r =>
    have i := h r c e ec
    rw [e] at ea
    have ea : zhi o (zh1 K) r = some a := ea
    rcases i with ⟨s, e1, t⟩ | ⟨s, e1, t⟩
    · subst e1
      have ea : (if K = K then some ((o, s), (1 : Int32)) else none) = some a := ea
      rw [if_pos rfl] at ea
      cases ea
      exact ⟨t, fun z => absurd (show (1 : Int32) = 0 from z) (by decide)⟩
    · subst e1
      have ea : some ((vp_updL o 0 c.2.toInt64, s), (0 : Int32)) = some a := ea
      cases ea
      refine ⟨t, fun _ => ?_⟩
      show (if (0 : Nat) = 0 then c.2.toInt64 else o 0).toInt = _
      rw [if_pos rfl, Int32.toInt_toInt64]
theorem zAnl.h {K : Nat} {o : Nat → Int64} {q : Option zRl} {p : Option (zSt × Int64)} (h : zp2 q p (zAnl K)) : zp2 (zbr q (zhl o (zh1 K))) p zCl := by
  intro a c ea ec
  cases e : q with
  | none => rw [e] at ea; cases ea
  | some r =>
    have i := h r c e ec
    rw [e] at ea
    have ea : zhl o (zh1 K) r = some a := ea
    rcases i with ⟨s, e1, t⟩ | ⟨s, e1, t⟩
    · subst e1
      have ea : (if K = K then some ((o, s), (1 : Int32)) else none) = some a := ea
      rw [if_pos rfl] at ea
      cases ea
      exact ⟨t, fun z => absurd (show (1 : Int32) = 0 from z) (by decide)⟩
    · subst e1
      have ea : some ((vp_updL o 0 c.2, s), (0 : Int32)) = some a := ea
      cases ea
      exact ⟨t, fun _ => rfl⟩
/-! cells that belong together -/
noncomputable def zRk (σ μ : zSt) : Prop := zr 0 2 (μ.1 0 3) ∧ σ.1 0 0 = (if μ.1 0 3 = 2 then 1 else 0) ∧ σ.1 2 0 = (if μ.1 0 3 = 2 then 1 else 0) ∧ σ.1 3 1 = (if μ.1 0 3 = 2 then 1 else 0) ∧ σ.1 6 0 = (if μ.1 0 3 = 2 then 1 else 0) ∧ σ.1 2 1 = (if μ.1 0 3 = 1 then 313 else 262)
noncomputable def zRs (σ μ : zSt) : Prop := (∀ j : Nat, j ≤ 17 → σ.1 30 j = μ.1 3 (69 + j)) ∧ σ.1 30 18 = μ.1 3 34
noncomputable def zRg (o v a b w : Nat) (σ μ : zSt) : Prop := σ.1 o 2 = μ.1 3 a ∧ σ.1 o 3 = μ.1 3 b ∧ (∀ j : Nat, j < 4096 → σ.2 v j = μ.2 w j) ∧ zr 0 4095 (μ.1 3 a) ∧ zr 0 4096 (μ.1 3 b)
section ZANS
variable {σ μ : zSt} {o : Nat → Int64}
end ZANS
end ZJN0
section ZJN1
/-! bits, modes, heights; answers at literal arguments -/
theorem z_byteF {b : Int32} (h : zr 0 255 b) : ∃ i : Fin 256, b = Int32.ofNat i.val := by
  obtain ⟨h0, h1⟩ := h
  obtain ⟨i, hi⟩ : ∃ i : Nat, b.toInt = i := ⟨b.toInt.toNat, by omega⟩
  exact ⟨⟨i, by omega⟩, z_ofN hi⟩
theorem z_b0f : ∀ i : Fin 256, ((Int32.ofNat i.val) >>> ((0 : Int32) &&& 31)) &&& 1 = if (Int32.ofNat i.val) &&& 1 = 0 then 0 else 1 := by decide +kernel
theorem z_b0 {b : Int32} (h : zr 0 255 b) : (b >>> ((0 : Int32) &&& 31)) &&& 1 = if b &&& 1 = 0 then 0 else 1 := by
  obtain ⟨i, e⟩ := z_byteF h
  rw [e]
  exact z_b0f i
theorem z_b1f : ∀ i : Fin 256, ((Int32.ofNat i.val) >>> ((1 : Int32) &&& 31)) &&& 1 = if (Int32.ofNat i.val) &&& 2 = 0 then 0 else 1 := by decide +kernel
theorem z_b1 {b : Int32} (h : zr 0 255 b) : (b >>> ((1 : Int32) &&& 31)) &&& 1 = if b &&& 2 = 0 then 0 else 1 := by
  obtain ⟨i, e⟩ := z_byteF h
  rw [e]
  exact z_b1f i
theorem z_b2f : ∀ i : Fin 256, ((Int32.ofNat i.val) >>> ((2 : Int32) &&& 31)) &&& 1 = if (Int32.ofNat i.val) &&& 4 = 0 then 0 else 1 := by decide +kernel
theorem z_b2 {b : Int32} (h : zr 0 255 b) : (b >>> ((2 : Int32) &&& 31)) &&& 1 = if b &&& 4 = 0 then 0 else 1 := by
  obtain ⟨i, e⟩ := z_byteF h
  rw [e]
  exact z_b2f i
theorem z_b3f : ∀ i : Fin 256, ((Int32.ofNat i.val) >>> ((3 : Int32) &&& 31)) &&& 1 = if (Int32.ofNat i.val) &&& 8 = 0 then 0 else 1 := by decide +kernel
theorem z_b3 {b : Int32} (h : zr 0 255 b) : (b >>> ((3 : Int32) &&& 31)) &&& 1 = if b &&& 8 = 0 then 0 else 1 := by
  obtain ⟨i, e⟩ := z_byteF h
  rw [e]
  exact z_b3f i
theorem z_b4f : ∀ i : Fin 256, ((Int32.ofNat i.val) >>> ((4 : Int32) &&& 31)) &&& 1 = if (Int32.ofNat i.val) &&& 16 = 0 then 0 else 1 := by decide +kernel
theorem z_b4 {b : Int32} (h : zr 0 255 b) : (b >>> ((4 : Int32) &&& 31)) &&& 1 = if b &&& 16 = 0 then 0 else 1 := by
  obtain ⟨i, e⟩ := z_byteF h
  rw [e]
  exact z_b4f i
theorem z_b5f : ∀ i : Fin 256, ((Int32.ofNat i.val) >>> ((5 : Int32) &&& 31)) &&& 1 = if (Int32.ofNat i.val) &&& 32 = 0 then 0 else 1 := by decide +kernel
theorem z_b5 {b : Int32} (h : zr 0 255 b) : (b >>> ((5 : Int32) &&& 31)) &&& 1 = if b &&& 32 = 0 then 0 else 1 := by
  obtain ⟨i, e⟩ := z_byteF h
  rw [e]
  exact z_b5f i
theorem z_b6f : ∀ i : Fin 256, ((Int32.ofNat i.val) >>> ((6 : Int32) &&& 31)) &&& 1 = if (Int32.ofNat i.val) &&& 64 = 0 then 0 else 1 := by decide +kernel
theorem z_b6 {b : Int32} (h : zr 0 255 b) : (b >>> ((6 : Int32) &&& 31)) &&& 1 = if b &&& 64 = 0 then 0 else 1 := by
  obtain ⟨i, e⟩ := z_byteF h
  rw [e]
  exact z_b6f i
theorem z_b7f : ∀ i : Fin 256, ((Int32.ofNat i.val) >>> ((7 : Int32) &&& 31)) &&& 1 = if (Int32.ofNat i.val) &&& 128 = 0 then 0 else 1 := by decide +kernel
theorem z_b7 {b : Int32} (h : zr 0 255 b) : (b >>> ((7 : Int32) &&& 31)) &&& 1 = if b &&& 128 = 0 then 0 else 1 := by
  obtain ⟨i, e⟩ := z_byteF h
  rw [e]
  exact z_b7f i
theorem z_s7f : ∀ i : Fin 256, (127 < Int32.ofNat i.val ↔ ¬ (Int32.ofNat i.val) &&& 128 = 0) := by decide +kernel
theorem z_s7 {b : Int32} (h : zr 0 255 b) : 127 < b ↔ ¬ b &&& 128 = 0 := by
  obtain ⟨i, e⟩ := z_byteF h
  rw [e]
  exact z_s7f i
theorem z_46f : ∀ i : Fin 256, ((Int32.ofNat i.val) &&& 6 = 6 ↔ (¬ (Int32.ofNat i.val) &&& 4 = 0 ∧ ¬ (Int32.ofNat i.val) &&& 2 = 0)) := by decide +kernel
theorem z_46 {b : Int32} (h : zr 0 255 b) : b &&& 6 = 6 ↔ (¬ b &&& 4 = 0 ∧ ¬ b &&& 2 = 0) := by
  obtain ⟨i, e⟩ := z_byteF h
  rw [e]
  exact z_46f i
theorem z_24f : ∀ i : Fin 256, ((Int32.ofNat i.val) &&& 24 = 8 ↔ ((Int32.ofNat i.val) &&& 16 = 0 ∧ ¬ (Int32.ofNat i.val) &&& 8 = 0)) ∧ ((Int32.ofNat i.val) &&& 24 = 16 ↔ (¬ (Int32.ofNat i.val) &&& 16 = 0 ∧ (Int32.ofNat i.val) &&& 8 = 0)) := by decide +kernel
theorem z_24 {b : Int32} (h : zr 0 255 b) : (b &&& 24 = 8 ↔ (b &&& 16 = 0 ∧ ¬ b &&& 8 = 0)) ∧ (b &&& 24 = 16 ↔ (¬ b &&& 16 = 0 ∧ b &&& 8 = 0)) := by
  obtain ⟨i, e⟩ := z_byteF h
  rw [e]
  exact z_24f i
theorem p_bit_0_1 {μ : zSt} (h : zr 0 255 (μ.1 3 47)) : zpc (fX12_bit μ 0 1) (fun x => x = (μ, if μ.1 3 47 &&& 2 = 0 then 0 else 1)) := by
  unfold fX12_bit
  refine zpc_ck (zpc_some ?_)
  show (μ, (μ.1 3 47 >>> ((1 : Int32) &&& 31)) &&& 1) = _
  rw [z_b1 h]
theorem p_bit_0_2 {μ : zSt} (h : zr 0 255 (μ.1 3 47)) : zpc (fX12_bit μ 0 2) (fun x => x = (μ, if μ.1 3 47 &&& 4 = 0 then 0 else 1)) := by
  unfold fX12_bit
  refine zpc_ck (zpc_some ?_)
  show (μ, (μ.1 3 47 >>> ((2 : Int32) &&& 31)) &&& 1) = _
  rw [z_b2 h]
theorem p_bit_0_3 {μ : zSt} (h : zr 0 255 (μ.1 3 47)) : zpc (fX12_bit μ 0 3) (fun x => x = (μ, if μ.1 3 47 &&& 8 = 0 then 0 else 1)) := by
  unfold fX12_bit
  refine zpc_ck (zpc_some ?_)
  show (μ, (μ.1 3 47 >>> ((3 : Int32) &&& 31)) &&& 1) = _
  rw [z_b3 h]
theorem p_bit_0_4 {μ : zSt} (h : zr 0 255 (μ.1 3 47)) : zpc (fX12_bit μ 0 4) (fun x => x = (μ, if μ.1 3 47 &&& 16 = 0 then 0 else 1)) := by
  unfold fX12_bit
  refine zpc_ck (zpc_some ?_)
  show (μ, (μ.1 3 47 >>> ((4 : Int32) &&& 31)) &&& 1) = _
  rw [z_b4 h]
theorem p_bit_0_5 {μ : zSt} (h : zr 0 255 (μ.1 3 47)) : zpc (fX12_bit μ 0 5) (fun x => x = (μ, if μ.1 3 47 &&& 32 = 0 then 0 else 1)) := by
  unfold fX12_bit
  refine zpc_ck (zpc_some ?_)
  show (μ, (μ.1 3 47 >>> ((5 : Int32) &&& 31)) &&& 1) = _
  rw [z_b5 h]
theorem p_bit_0_6 {μ : zSt} (h : zr 0 255 (μ.1 3 47)) : zpc (fX12_bit μ 0 6) (fun x => x = (μ, if μ.1 3 47 &&& 64 = 0 then 0 else 1)) := by
  unfold fX12_bit
  refine zpc_ck (zpc_some ?_)
  show (μ, (μ.1 3 47 >>> ((6 : Int32) &&& 31)) &&& 1) = _
  rw [z_b6 h]
theorem p_bit_0_7 {μ : zSt} (h : zr 0 255 (μ.1 3 47)) : zpc (fX12_bit μ 0 7) (fun x => x = (μ, if μ.1 3 47 &&& 128 = 0 then 0 else 1)) := by
  unfold fX12_bit
  refine zpc_ck (zpc_some ?_)
  show (μ, (μ.1 3 47 >>> ((7 : Int32) &&& 31)) &&& 1) = _
  rw [z_b7 h]
theorem p_bit_1_0 {μ : zSt} (h : zr 0 255 (μ.1 3 48)) : zpc (fX12_bit μ 1 0) (fun x => x = (μ, if μ.1 3 48 &&& 1 = 0 then 0 else 1)) := by
  unfold fX12_bit
  refine zpc_ck (zpc_some ?_)
  show (μ, (μ.1 3 48 >>> ((0 : Int32) &&& 31)) &&& 1) = _
  rw [z_b0 h]
theorem p_bit_1_1 {μ : zSt} (h : zr 0 255 (μ.1 3 48)) : zpc (fX12_bit μ 1 1) (fun x => x = (μ, if μ.1 3 48 &&& 2 = 0 then 0 else 1)) := by
  unfold fX12_bit
  refine zpc_ck (zpc_some ?_)
  show (μ, (μ.1 3 48 >>> ((1 : Int32) &&& 31)) &&& 1) = _
  rw [z_b1 h]
theorem p_bit_1_3 {μ : zSt} (h : zr 0 255 (μ.1 3 48)) : zpc (fX12_bit μ 1 3) (fun x => x = (μ, if μ.1 3 48 &&& 8 = 0 then 0 else 1)) := by
  unfold fX12_bit
  refine zpc_ck (zpc_some ?_)
  show (μ, (μ.1 3 48 >>> ((3 : Int32) &&& 31)) &&& 1) = _
  rw [z_b3 h]
theorem p_bit_1_4 {μ : zSt} (h : zr 0 255 (μ.1 3 48)) : zpc (fX12_bit μ 1 4) (fun x => x = (μ, if μ.1 3 48 &&& 16 = 0 then 0 else 1)) := by
  unfold fX12_bit
  refine zpc_ck (zpc_some ?_)
  show (μ, (μ.1 3 48 >>> ((4 : Int32) &&& 31)) &&& 1) = _
  rw [z_b4 h]
theorem p_bit_1_5 {μ : zSt} (h : zr 0 255 (μ.1 3 48)) : zpc (fX12_bit μ 1 5) (fun x => x = (μ, if μ.1 3 48 &&& 32 = 0 then 0 else 1)) := by
  unfold fX12_bit
  refine zpc_ck (zpc_some ?_)
  show (μ, (μ.1 3 48 >>> ((5 : Int32) &&& 31)) &&& 1) = _
  rw [z_b5 h]
theorem p_bit_1_6 {μ : zSt} (h : zr 0 255 (μ.1 3 48)) : zpc (fX12_bit μ 1 6) (fun x => x = (μ, if μ.1 3 48 &&& 64 = 0 then 0 else 1)) := by
  unfold fX12_bit
  refine zpc_ck (zpc_some ?_)
  show (μ, (μ.1 3 48 >>> ((6 : Int32) &&& 31)) &&& 1) = _
  rw [z_b6 h]
theorem p_bit_3_7 {μ : zSt} (h : zr 0 255 (μ.1 3 50)) : zpc (fX12_bit μ 3 7) (fun x => x = (μ, if μ.1 3 50 &&& 128 = 0 then 0 else 1)) := by
  unfold fX12_bit
  refine zpc_ck (zpc_some ?_)
  show (μ, (μ.1 3 50 >>> ((7 : Int32) &&& 31)) &&& 1) = _
  rw [z_b7 h]
theorem p_bit_4_2 {μ : zSt} (h : zr 0 255 (μ.1 3 51)) : zpc (fX12_bit μ 4 2) (fun x => x = (μ, if μ.1 3 51 &&& 4 = 0 then 0 else 1)) := by
  unfold fX12_bit
  refine zpc_ck (zpc_some ?_)
  show (μ, (μ.1 3 51 >>> ((2 : Int32) &&& 31)) &&& 1) = _
  rw [z_b2 h]
theorem p_bit_6_2 {μ : zSt} (h : zr 0 255 (μ.1 3 53)) : zpc (fX12_bit μ 6 2) (fun x => x = (μ, if μ.1 3 53 &&& 4 = 0 then 0 else 1)) := by
  unfold fX12_bit
  refine zpc_ck (zpc_some ?_)
  show (μ, (μ.1 3 53 >>> ((2 : Int32) &&& 31)) &&& 1) = _
  rw [z_b2 h]
noncomputable def zmd (a b : Int32) : Int32 := if a &&& 4 = 0 then (if b &&& 16 = 0 then (if b &&& 8 = 0 then (if a &&& 2 = 0 then 0 else 2) else 3) else 1) else 4
noncomputable def zht (a b : Int32) : Int32 := if a &&& 4 = 0 then 192 else (if a &&& 2 = 0 then 192 else (if b &&& 16 = 0 then (if b &&& 8 = 0 then 192 else 240) else (if b &&& 8 = 0 then 224 else 192)))
section ZMH
variable {σ μ : zSt}
theorem p_modeC : zpc (fX9_mode σ ) (fun r => r = (σ, zmd (σ.1 23 0) (σ.1 23 1))) := by
  unfold fX9_mode fX9_mode_57 zmd
  refine zpc_ck (zpc_if (fun q1 => zpc_ck (zpc_if (fun q2 => zpc_ck (zpc_if (fun q3 => zpc_ck (zpc_if (fun q4 => zpc_some ?_) (fun q4 => zpc_some ?_))) (fun q3 => zpc_some ?_))) (fun q2 => zpc_some ?_))) (fun q1 => zpc_some ?_))
  · rw [if_pos (show σ.1 23 0 &&& 4 = 0 from q1), if_pos (show σ.1 23 1 &&& 16 = 0 from q2), if_pos (show σ.1 23 1 &&& 8 = 0 from q3), if_pos (show σ.1 23 0 &&& 2 = 0 from q4)]
  · rw [if_pos (show σ.1 23 0 &&& 4 = 0 from q1), if_pos (show σ.1 23 1 &&& 16 = 0 from q2), if_pos (show σ.1 23 1 &&& 8 = 0 from q3), if_neg (show ¬ σ.1 23 0 &&& 2 = 0 from q4)]
  · rw [if_pos (show σ.1 23 0 &&& 4 = 0 from q1), if_pos (show σ.1 23 1 &&& 16 = 0 from q2), if_neg (show ¬ σ.1 23 1 &&& 8 = 0 from q3)]
  · rw [if_pos (show σ.1 23 0 &&& 4 = 0 from q1), if_neg (show ¬ σ.1 23 1 &&& 16 = 0 from q2)]
  · rw [if_neg (show ¬ σ.1 23 0 &&& 4 = 0 from q1)]
theorem zpc_bit {α : Type} {c : Prop} {d : Decidable c} {q : Option (zSt × Int32)} {f : zSt → Int32 → Option α} {Q : α → Prop} (h : zpc q (fun x => x = (μ, @ite _ c d 0 1))) (k0 : c → zpc (f μ 0) Q) (k1 : ¬ c → zpc (f μ 1) Q) : zpc (zbi q f) Q := by
  refine zpc_bi h (fun s v e => ?_)
  by_cases g : c
  · rw [if_pos g] at e; cases e; exact k0 g
  · rw [if_neg g] at e; cases e; exact k1 g
theorem p_modeM (h0 : zr 0 255 (μ.1 3 47)) (h1 : zr 0 255 (μ.1 3 48)) : zpc (fX12_mode μ ) (fun r => r = (μ, zmd (μ.1 3 47) (μ.1 3 48))) := by
  unfold fX12_mode fX12_mode_57 zmd
  refine zpc_bit (p_bit_0_2 h0) (fun q1 => ?_) (fun q1 => zpc_if (fun _ => zpc_some (by rw [if_neg q1])) (fun r => absurd rfl r))
  refine zpc_if (fun r => absurd r (by decide)) (fun _ => ?_)
  refine zpc_bit (p_bit_1_4 h1) (fun q2 => ?_) (fun q2 => zpc_if (fun _ => zpc_some (by rw [if_pos q1, if_neg q2])) (fun r => absurd rfl r))
  refine zpc_if (fun r => absurd r (by decide)) (fun _ => ?_)
  refine zpc_bit (p_bit_1_3 h1) (fun q3 => ?_) (fun q3 => zpc_if (fun _ => zpc_some (by rw [if_pos q1, if_pos q2, if_neg q3])) (fun r => absurd rfl r))
  refine zpc_if (fun r => absurd r (by decide)) (fun _ => ?_)
  refine zpc_bit (p_bit_0_1 h0) (fun q4 => ?_) (fun q4 => zpc_if (fun _ => zpc_some (by rw [if_pos q1, if_pos q2, if_pos q3, if_neg q4])) (fun r => absurd rfl r))
  exact zpc_if (fun r => absurd r (by decide)) (fun _ => zpc_some (by rw [if_pos q1, if_pos q2, if_pos q3, if_pos q4]))
theorem zmd4 {a b : Int32} : zmd a b = 4 ↔ ¬ a &&& 4 = 0 := by
  unfold zmd
  constructor
  · intro h q
    rw [if_pos q] at h
    split at h
    · split at h
      · split at h <;> exact absurd h (by decide)
      · exact absurd h (by decide)
    · exact absurd h (by decide)
  · intro q; rw [if_neg q]
theorem p_heightC (h0 : zr 0 255 (σ.1 23 0)) (h1 : zr 0 255 (σ.1 23 1)) : zpc (fX9_height σ ) (fun r => r = (σ, zht (σ.1 23 0) (σ.1 23 1))) := by
  unfold fX9_height zht
  have e6 := z_46 h0
  have e24 := z_24 h1
  refine zpc_ck (zpc_if (fun q => zpc_ck (zpc_if (fun r => zpc_some ?_) (fun r => zpc_if (fun t => zpc_some ?_) (fun t => zpc_some ?_)))) (fun q => zpc_some ?_))
  · obtain ⟨a, b⟩ := e6.mp q
    obtain ⟨c, d⟩ := e24.1.mp r
    rw [if_neg a, if_neg b, if_pos c, if_neg d]
  · obtain ⟨a, b⟩ := e6.mp q
    obtain ⟨c, d⟩ := e24.2.mp t
    rw [if_neg a, if_neg b, if_neg c, if_pos d]
  · obtain ⟨a, b⟩ := e6.mp q
    rw [if_neg a, if_neg b]
    by_cases c : σ.1 23 1 &&& 16 = 0
    · by_cases d : σ.1 23 1 &&& 8 = 0
      · rw [if_pos c, if_pos d]
      · exact absurd (e24.1.mpr ⟨c, d⟩) r
    · by_cases d : σ.1 23 1 &&& 8 = 0
      · exact absurd (e24.2.mpr ⟨c, d⟩) t
      · rw [if_neg c, if_neg d]
  · by_cases a : σ.1 23 0 &&& 4 = 0
    · rw [if_pos a]
    · by_cases b : σ.1 23 0 &&& 2 = 0
      · rw [if_neg a, if_pos b]
      · exact absurd (e6.mpr ⟨a, b⟩) q
theorem p_heightM (h0 : zr 0 255 (μ.1 3 47)) (h1 : zr 0 255 (μ.1 3 48)) : zpc (fX12_height μ ) (fun r => r = (μ, zht (μ.1 3 47) (μ.1 3 48))) := by
  unfold fX12_height fX12_height_32 fX12_height_55 zht
  refine zpc_bi (p_modeM h0 h1) (fun μ1 v e => ?_)
  cases e
  refine zpc_if (fun q => ?_) (fun q => zpc_some ?_)
  · have a := zmd4.mp q
    rw [if_neg a]
    refine zpc_bit (p_bit_0_1 h0) (fun b => zpc_if (fun _ => zpc_some (by rw [if_pos b])) (fun r => absurd rfl r)) (fun b => ?_)
    refine zpc_if (fun r => absurd r (by decide)) (fun _ => ?_)
    rw [if_neg b]
    refine zpc_bit (p_bit_1_4 h1) (fun c => ?_) (fun c => ?_)
    · rw [if_pos c]
      refine zpc_bit (p_bit_1_3 h1) (fun d => zpc_if (fun _ => zpc_some (by rw [if_pos d])) (fun r => absurd rfl r)) (fun d => ?_)
      refine zpc_if (fun r => absurd r (by decide)) (fun _ => ?_)
      refine zpc_bit (p_bit_1_4 h1) (fun _ => ?_) (fun c' => absurd c c')
      exact zpc_if (fun r => absurd r (by decide)) (fun _ => zpc_some (by rw [if_neg d]))
    · rw [if_neg c]
      refine zpc_bit (p_bit_1_3 h1) (fun d => ?_) (fun d => zpc_if (fun _ => zpc_some (by rw [if_neg d])) (fun r => absurd rfl r))
      refine zpc_if (fun r => absurd r (by decide)) (fun _ => ?_)
      refine zpc_bit (p_bit_1_4 h1) (fun c' => absurd c' c) (fun _ => ?_)
      exact zpc_if (fun _ => zpc_some (by rw [if_pos d])) (fun r => absurd rfl r)
  · have a : μ.1 3 47 &&& 4 = 0 := by
      by_cases a : μ.1 3 47 &&& 4 = 0
      · exact a
      · exact absurd (zmd4.mpr a) q
    rw [if_pos a]
noncomputable def zhc (b : Int32) : Int32 := if (b * 3) / 4 < 148 then (b * 3) / 4 else (b * 3) / 4 + 85
theorem p_hCountC : zpc (fX9_hCount σ ) (fun r => r = (σ, zhc (σ.1 23 21))) := by
  unfold fX9_hCount fX9_hCount_27 zhc
  refine zpc_ck (zpc_ck (zpc_bv (fun v e => ?_)))
  subst e
  exact zpc_if (fun q => zpc_some (by rw [if_pos (show (σ.1 23 21 * 3) / 4 < 148 from q)]; rfl)) (fun q => zpc_some (by rw [if_neg (show ¬ (σ.1 23 21 * 3) / 4 < 148 from q)]; rfl))
theorem p_hCountM : zpc (fX12_hCount μ ) (fun r => r = (μ, zhc (μ.1 3 67))) := by
  unfold fX12_hCount fX12_hCount_27 zhc
  refine zpc_ck (zpc_ck (zpc_bv (fun v e => ?_)))
  subst e
  exact zpc_if (fun q => zpc_some (by rw [if_neg (show ¬ (μ.1 3 67 * 3) / 4 < 148 from fun r => absurd (Int32.lt_iff_toInt_lt.mp r) (Int.not_lt.mpr (Int32.le_iff_toInt_le.mp q)))]; rfl)) (fun q => zpc_some (by rw [if_pos (show (μ.1 3 67 * 3) / 4 < 148 from z_nle q)]; rfl))
noncomputable def zvc (l h k : Int32) : Int32 := (if (if k = 1 then (if h = 192 then 243 else if h = 224 then 259 else 267) else (if h = 192 then 219 else if h = 224 then 235 else (262 : Int32))) ≤ l then l - (if k = 1 then 57 else 6) else l) &&& 255
theorem p_vCountC {k : Int32} (h0 : zr 0 255 (σ.1 23 0)) (h1 : zr 0 255 (σ.1 23 1)) (hk : σ.1 2 1 = if k = 1 then 313 else 262) : zpc (fX9_vCount σ ) (fun r => r = (σ, zvc (σ.1 23 20) (zht (σ.1 23 0) (σ.1 23 1)) k)) := by
  unfold fX9_vCount
  refine zpc_bi (p_heightC h0 h1) (fun σ1 v e => ?_)
  cases e
  generalize zht (σ.1 23 0) (σ.1 23 1) = h
  have fin : ∀ f m : Int32, zpc (fX9_vCount_97 σ m f) (fun r => r = (σ, (if f ≤ σ.1 23 20 then σ.1 23 20 - (if m = 0 then 6 else 57) else σ.1 23 20) &&& 255)) := fun f m => by
    unfold fX9_vCount_97 fX9_vCount_136 fX9_vCount_137
    refine zpc_ck (zpc_if (fun q => zpc_ck (zpc_if (fun r => zpc_some ?_) (fun r => zpc_some ?_))) (fun q => zpc_ck (zpc_some ?_)))
    · rw [if_pos (show f ≤ σ.1 23 20 from q), if_pos r]; rfl
    · rw [if_pos (show f ≤ σ.1 23 20 from q), if_neg r]; rfl
    · rw [if_neg (show ¬ f ≤ σ.1 23 20 from q)]; rfl
  unfold fX9_vCount_20 fX9_vCount_61 fX9_vCount_78 fX9_vCount_96 zvc
  by_cases k1 : k = 1
  · rw [if_pos k1] at hk
    rw [if_pos k1, if_pos k1]
    refine zpc_if (fun _ => ?_) (fun q => absurd hk q)
    refine zpc_if (fun a => zpc_if (fun r => absurd r (by decide)) (fun _ => ?_)) (fun a => zpc_if (fun b => zpc_if (fun r => absurd r (by decide)) (fun _ => ?_)) (fun b => zpc_if (fun r => absurd r (by decide)) (fun _ => ?_)))
    · rw [if_pos a]; exact fin 243 1
    · rw [if_neg a, if_pos b]; exact fin 259 1
    · rw [if_neg a, if_neg b]; exact fin 267 1
  · rw [if_neg k1] at hk
    rw [if_neg k1, if_neg k1]
    refine zpc_if (fun q => absurd (hk.symm.trans q) (by decide)) (fun _ => ?_)
    refine zpc_if (fun a => zpc_if (fun _ => ?_) (fun r => absurd rfl r)) (fun a => zpc_if (fun b => zpc_if (fun _ => ?_) (fun r => absurd rfl r)) (fun b => zpc_if (fun _ => ?_) (fun r => absurd rfl r)))
    · rw [if_pos a]; exact fin 219 0
    · rw [if_neg a, if_pos b]; exact fin 235 0
    · rw [if_neg a, if_neg b, show zgi σ 2 1 = 262 from hk]; exact fin 262 0
theorem p_vCountM (h0 : zr 0 255 (μ.1 3 47)) (h1 : zr 0 255 (μ.1 3 48)) (hl : zr 0 312 (μ.1 3 66)) (hl2 : ¬ μ.1 0 3 = 1 → zr 0 261 (μ.1 3 66)) : zpc (fX12_vCount μ ) (fun r => r = (μ, zvc (μ.1 3 66) (zht (μ.1 3 47) (μ.1 3 48)) (μ.1 0 3))) := by
  unfold fX12_vCount
  refine zpc_ck (zpc_bv (fun v e => ?_))
  subst e
  refine zpc_bi (p_heightM h0 h1) (fun μ1 w e => ?_)
  cases e
  generalize zht (μ.1 3 47) (μ.1 3 48) = h
  have fin : ∀ f : Int32, zpc (fX12_vCount_82 μ (μ.1 3 66) f) (fun r => r = (μ, (if f ≤ μ.1 3 66 then μ.1 3 66 - (if μ.1 0 3 = 1 then 57 else 6) else μ.1 3 66) &&& 255)) := fun f => by
    unfold fX12_vCount_82 fX12_vCount_108 fX12_vCount_109
    refine zpc_if (fun q => zpc_if (fun r => zpc_some ?_) (fun r => zpc_some ?_)) (fun q => zpc_some ?_)
    · rw [if_pos q, if_pos (show μ.1 0 3 = 1 from r)]
    · rw [if_pos q, if_neg (show ¬ μ.1 0 3 = 1 from r)]
    · rw [if_neg q]
  unfold zvc
  refine zpc_if (fun k1 => ?_) (fun k1 => ?_)
  · rw [if_pos (show μ.1 0 3 = 1 from k1)]
    refine zpc_if (fun a => ?_) (fun a => zpc_if (fun b => ?_) (fun b => ?_))
    · rw [if_pos a]; exact fin 243
    · rw [if_neg a, if_pos b]; exact fin 259
    · rw [if_neg a, if_neg b]; exact fin 267
  · rw [if_neg (show ¬ μ.1 0 3 = 1 from k1)]
    refine zpc_if (fun a => ?_) (fun a => zpc_if (fun b => ?_) (fun b => ?_))
    · rw [if_pos a]; exact fin 219
    · rw [if_neg a, if_pos b]; exact fin 235
    · rw [if_neg a, if_neg b]
      have f := fin 1000
      rw [if_neg (zq_gef (hl2 k1) (k := 1000) rfl (by decide))] at f
      rw [if_neg (zq_gef (hl2 k1) (k := 262) rfl (by decide))]
      exact f
noncomputable def zak (a b c d : Int32) : Int32 := if b &&& 32 = 0 then (if a &&& 16 = 0 then 0 else if d = 1 then 1 else 0) else (if c &&& 128 = 0 then (if a &&& 16 = 0 then 0 else if d = 1 then 1 else 0) else 1)
theorem p_asksC : zpc (fX9_asks σ ) (fun r => r = (σ, zak (σ.1 23 0) (σ.1 23 1) (σ.1 23 15) (σ.1 23 16))) := by
  unfold fX9_asks
  have fin : zpc (fX9_asks_26 σ ) (fun r => r = (σ, if σ.1 23 0 &&& 16 = 0 then 0 else if σ.1 23 16 = 1 then 1 else 0)) := by
    unfold fX9_asks_26 fX9_asks_49 fX9_asks_53 fX9_asks_54
    refine zpc_ck (zpc_if (fun q => zpc_ck (zpc_some ?_)) (fun q => zpc_ck (zpc_if (fun r => zpc_ck (zpc_some ?_)) (fun r => zpc_ck (zpc_some ?_)))))
    · rw [if_pos (show σ.1 23 0 &&& 16 = 0 from q)]
    · rw [if_neg (show ¬ σ.1 23 0 &&& 16 = 0 from q), if_pos (show σ.1 23 16 = 1 from r)]
    · rw [if_neg (show ¬ σ.1 23 0 &&& 16 = 0 from q), if_neg (show ¬ σ.1 23 16 = 1 from r)]
  unfold fX9_asks_49 fX9_asks_54 zak
  refine zpc_ck (zpc_if (fun q => ?_) (fun q => zpc_ck (zpc_if (fun r => ?_) (fun r => zpc_ck (zpc_some ?_)))))
  · rw [if_pos (show σ.1 23 1 &&& 32 = 0 from q)]; exact fin
  · rw [if_neg (show ¬ σ.1 23 1 &&& 32 = 0 from q), if_pos (show σ.1 23 15 &&& 128 = 0 from r)]; exact fin
  · rw [if_neg (show ¬ σ.1 23 1 &&& 32 = 0 from q), if_neg (show ¬ σ.1 23 15 &&& 128 = 0 from r)]
theorem p_asksM (h0 : zr 0 255 (μ.1 3 47)) (h1 : zr 0 255 (μ.1 3 48)) (h2 : zr 0 255 (μ.1 3 62)) : zpc (fX12_asks μ ) (fun r => r = (μ, zak (μ.1 3 47) (μ.1 3 48) (μ.1 3 62) (μ.1 3 63))) := by
  unfold fX12_asks
  have fin : zpc (fX12_asks_22 μ ) (fun r => r = (μ, if μ.1 3 47 &&& 16 = 0 then 0 else if μ.1 3 63 = 1 then 1 else 0)) := by
    unfold fX12_asks_22 fX12_asks_43 fX12_asks_47 fX12_asks_48
    refine zpc_bit (p_bit_0_4 h0) (fun q => zpc_if (fun r => absurd r (by decide)) (fun _ => zpc_ck (zpc_some (by rw [if_pos q])))) (fun q => ?_)
    refine zpc_if (fun _ => zpc_ck (zpc_if (fun r => zpc_ck (zpc_some ?_)) (fun r => zpc_ck (zpc_some ?_)))) (fun r => absurd rfl r)
    · rw [if_neg q, if_pos (show μ.1 3 63 = 1 from r)]
    · rw [if_neg q, if_neg (show ¬ μ.1 3 63 = 1 from r)]
  unfold fX12_asks_43 fX12_asks_48 zak
  refine zpc_bit (p_bit_1_5 h1) (fun q => zpc_if (fun r => absurd r (by decide)) (fun _ => by rw [if_pos q]; exact fin)) (fun q => ?_)
  refine zpc_if (fun _ => zpc_ck (zpc_if (fun r => zpc_ck (zpc_some ?_)) (fun r => ?_))) (fun r => absurd rfl r)
  · rw [if_neg q, if_neg ((z_s7 h2).mp r)]
  · have n : μ.1 3 62 &&& 128 = 0 := by
      by_cases n : μ.1 3 62 &&& 128 = 0
      · exact n
      · exact absurd ((z_s7 h2).mpr n) r
    rw [if_neg q, if_pos n]; exact fin
end ZMH
end ZJN1
section ZJN2
/-! FLAGS -/
theorem zpc_j {α : Type} {c : Prop} {d : Decidable c} {K : Int32 → Option α} {a b : Int32} {Q : α → Prop} (h : ∀ v, v = @ite _ c d a b → zpc (K v) Q) : zpc (@ite _ c d (K a) (K b)) Q := by
  by_cases q : c
  · rw [if_pos q]; exact h a (if_pos q).symm
  · rw [if_neg q]; exact h b (if_neg q).symm
theorem zsi_own {ν : zSt} {k j : Nat} : zsi ν k j (ν.1 k j) = ν := by
  refine Prod.ext (funext fun a => funext fun b => ?_) rfl
  rw [zsi_at]
  by_cases q : a = k ∧ b = j
  · rw [if_pos q, q.1, q.2]
  · rw [if_neg q]
theorem zsi_ow {ν : zSt} {k j : Nat} {v w : Int32} : zsi (zsi ν k j v) k j w = zsi ν k j w := by
  refine Prod.ext (funext fun a => funext fun b => ?_) rfl
  rw [zsi_at, zsi_at, zsi_at]
  by_cases q : a = k ∧ b = j
  · rw [if_pos q, if_pos q]
  · rw [if_neg q, if_neg q, if_neg q]
/-- the reference: a flag is put -/
noncomputable def pt (f b v : Int32) : Int32 := if v = 0 then f &&& ((1 <<< (b &&& 31)) ^^^ (-1)) else f ||| (1 <<< (b &&& 31))
noncomputable def gxy (f x : Int32) : Int32 := pt (pt f 5 (if x &&& 32 = 0 then 0 else 1)) 3 (if x &&& 8 = 0 then 0 else 1)
noncomputable def gby (f x : Int32) : Int32 := gxy (pt (pt f 7 (if x &&& 128 = 0 then 0 else 1)) 6 (if x = 0 then 1 else 0)) x
noncomputable def gsm (v : Int32) : Int32 := 0 + ((v >>> ((0 : Int32) &&& 31)) &&& 1) + ((v >>> ((1 : Int32) &&& 31)) &&& 1) + ((v >>> ((2 : Int32) &&& 31)) &&& 1) + ((v >>> ((3 : Int32) &&& 31)) &&& 1) + ((v >>> ((4 : Int32) &&& 31)) &&& 1) + ((v >>> ((5 : Int32) &&& 31)) &&& 1) + ((v >>> ((6 : Int32) &&& 31)) &&& 1) + ((v >>> ((7 : Int32) &&& 31)) &&& 1)
noncomputable def gev (v : Int32) : Int32 := if zrem (gsm v) 2 = 0 then 1 else 0
section ZFL
variable {μ σ : zSt} {f b v x : Int32}
theorem p_put : zpc (fX12_put (zsi μ 3 1 f) b v) (fun r => r = zsi μ 3 1 (pt f b v)) := by
  unfold fX12_put fX12_put_34 pt
  refine zpc_if (fun q => zpc_ck (zpc_ck (zpc_bv (fun s e => zpc_some ?_)))) (fun q => zpc_ck (zpc_ck (zpc_bv (fun s e => zpc_some ?_))))
  · rw [if_pos q, e]; exact zsi_ow
  · rw [if_neg q, e]; exact zsi_ow
theorem p_xy : zpc (fX12_xy (zsi μ 3 1 f) x) (fun r => r = zsi μ 3 1 (gxy f x)) := by
  unfold fX12_xy
  refine zpc_j (K := fun v => fX12_xy_14 (zsi μ 3 1 f) x v 5) (a := 0) (b := 1) (fun v ev => ?_)
  unfold fX12_xy_14
  refine zpc_bu p_put (fun s e => ?_)
  subst e
  refine zpc_j (K := fun w => fX12_xy_31 (zsi μ 3 1 (pt f 5 v)) w 3) (a := 0) (b := 1) (fun w ew => ?_)
  unfold fX12_xy_31
  refine zpc_bu p_put (fun s e => zpc_some ?_)
  rw [e, ev, ew]
  rfl
theorem p_by : zpc (fX12_by (zsi μ 3 1 f) x) (fun r => r = zsi μ 3 1 (gby f x)) := by
  unfold fX12_by
  refine zpc_j (K := fun v => fX12_by_16 (zsi μ 3 1 f) x v 7) (a := 0) (b := 1) (fun v ev => ?_)
  unfold fX12_by_16
  refine zpc_bu p_put (fun s e => ?_)
  subst e
  refine zpc_j (K := fun w => fX12_by_31 (zsi μ 3 1 (pt f 7 v)) x w 6) (a := 1) (b := 0) (fun w ew => ?_)
  unfold fX12_by_31
  refine zpc_bu p_put (fun s e => ?_)
  subst e
  refine zpc_bu p_xy (fun s e => zpc_some ?_)
  rw [e, ev, ew]
  rfl
theorem p_flag : zpc (fX12_flag μ b) (fun r => r = (μ, (μ.1 3 1 >>> (b &&& 31)) &&& 1)) := by
  unfold fX12_flag
  exact zpc_ck (zpc_some rfl)
theorem e_even (n : Nat) : fX12_isEven_4 (n + 9) μ v 0 0 = zck (decide (¬ (2 : Int32) = 0)) (if zrem (gsm v) 2 = 0 then fX12_isEven_35 μ 1 else fX12_isEven_35 μ 0) := rfl
theorem p_even : zpc (fX12_isEven μ v) (fun r => r = (μ, gev v)) := by
  unfold fX12_isEven
  have e : fX12_isEven_4 zfuel μ v 0 0 = _ := e_even (μ := μ) (v := v) 1999991
  rw [e]
  unfold fX12_isEven_35 gev
  refine zpc_ck (zpc_if (fun q => zpc_ck (zpc_some ?_)) (fun q => zpc_ck (zpc_some ?_)))
  · rw [if_pos q]
  · rw [if_neg q]
theorem p_signed : zpc (fX12_signed μ v) (fun r => r = (μ, if 128 ≤ v then v - 256 else v)) := by
  unfold fX12_signed fX12_signed_16
  exact zpc_if (fun q => zpc_some (by rw [if_pos q])) (fun q => zpc_some (by rw [if_neg q]))
/-! the class -/
noncomputable def cby (x : Int32) : Int32 := (x &&& 168) ||| (if x = 0 then 64 else 0)
noncomputable def gbc (x : Int32) : Int32 :=
  let v1 := x - ((zush x 1) &&& 1431655765)
  let v2 := (v1 &&& 858993459) + ((zush v1 2) &&& 858993459)
  let v3 := (v2 + (zush v2 4)) &&& 252645135
  let v4 := v3 + (zush v3 8)
  (v4 + (zush v4 16)) &&& 63
noncomputable def cpar (x : Int32) : Int32 := if (gbc x) &&& 1 = 0 then 4 else 0
theorem p_byC : zpc (fX5_by σ x) (fun r => r = (σ, cby x)) := by
  unfold fX5_by fX5_by_15 cby
  exact zpc_if (fun q => zpc_some (by rw [if_pos q])) (fun q => zpc_some (by rw [if_neg q]))
theorem p_parC : zpc (fX5_parity σ x) (fun r => r = (σ, cpar x)) := by
  unfold fX5_parity fX5_parity_14 cpar
  refine zpc_bi (P := fun r => r = (σ, gbc x)) (fun r e => ?_) (fun s w e => ?_)
  · have e : some (σ, gbc x) = some r := e
    cases e
    rfl
  · cases e
    exact zpc_if (fun q => zpc_some (by rw [if_pos q])) (fun q => zpc_some (by rw [if_neg q]))
end ZFL
noncomputable def zfl (b7 b6 b5 b4 b3 b2 b1 b0 : Bool) : Int32 := (bif b7 then 128 else 0) ||| (bif b6 then 64 else 0) ||| (bif b5 then 32 else 0) ||| (bif b4 then 16 else 0) ||| (bif b3 then 8 else 0) ||| (bif b2 then 4 else 0) ||| (bif b1 then 2 else 0) ||| (bif b0 then 1 else 0)
theorem pt_0 {b7 b6 b5 b4 b3 b2 b1 b0 : Bool} {v : Int32} : pt (zfl b7 b6 b5 b4 b3 b2 b1 b0) 0 v = zfl b7 b6 b5 b4 b3 b2 b1 (decide (¬ v = 0)) := by
  unfold pt
  by_cases h : v = 0
  · rw [if_pos h, show decide (¬ v = 0) = false from decide_eq_false (fun r => r h)]
    revert b7 b6 b5 b4 b3 b2 b1 b0
    decide
  · rw [if_neg h, show decide (¬ v = 0) = true from decide_eq_true h]
    revert b7 b6 b5 b4 b3 b2 b1 b0
    decide
theorem pt_1 {b7 b6 b5 b4 b3 b2 b1 b0 : Bool} {v : Int32} : pt (zfl b7 b6 b5 b4 b3 b2 b1 b0) 1 v = zfl b7 b6 b5 b4 b3 b2 (decide (¬ v = 0)) b0 := by
  unfold pt
  by_cases h : v = 0
  · rw [if_pos h, show decide (¬ v = 0) = false from decide_eq_false (fun r => r h)]
    revert b7 b6 b5 b4 b3 b2 b1 b0
    decide
  · rw [if_neg h, show decide (¬ v = 0) = true from decide_eq_true h]
    revert b7 b6 b5 b4 b3 b2 b1 b0
    decide
theorem pt_2 {b7 b6 b5 b4 b3 b2 b1 b0 : Bool} {v : Int32} : pt (zfl b7 b6 b5 b4 b3 b2 b1 b0) 2 v = zfl b7 b6 b5 b4 b3 (decide (¬ v = 0)) b1 b0 := by
  unfold pt
  by_cases h : v = 0
  · rw [if_pos h, show decide (¬ v = 0) = false from decide_eq_false (fun r => r h)]
    revert b7 b6 b5 b4 b3 b2 b1 b0
    decide
  · rw [if_neg h, show decide (¬ v = 0) = true from decide_eq_true h]
    revert b7 b6 b5 b4 b3 b2 b1 b0
    decide
theorem pt_3 {b7 b6 b5 b4 b3 b2 b1 b0 : Bool} {v : Int32} : pt (zfl b7 b6 b5 b4 b3 b2 b1 b0) 3 v = zfl b7 b6 b5 b4 (decide (¬ v = 0)) b2 b1 b0 := by
  unfold pt
  by_cases h : v = 0
  · rw [if_pos h, show decide (¬ v = 0) = false from decide_eq_false (fun r => r h)]
    revert b7 b6 b5 b4 b3 b2 b1 b0
    decide
  · rw [if_neg h, show decide (¬ v = 0) = true from decide_eq_true h]
    revert b7 b6 b5 b4 b3 b2 b1 b0
    decide
theorem pt_4 {b7 b6 b5 b4 b3 b2 b1 b0 : Bool} {v : Int32} : pt (zfl b7 b6 b5 b4 b3 b2 b1 b0) 4 v = zfl b7 b6 b5 (decide (¬ v = 0)) b3 b2 b1 b0 := by
  unfold pt
  by_cases h : v = 0
  · rw [if_pos h, show decide (¬ v = 0) = false from decide_eq_false (fun r => r h)]
    revert b7 b6 b5 b4 b3 b2 b1 b0
    decide
  · rw [if_neg h, show decide (¬ v = 0) = true from decide_eq_true h]
    revert b7 b6 b5 b4 b3 b2 b1 b0
    decide
theorem pt_5 {b7 b6 b5 b4 b3 b2 b1 b0 : Bool} {v : Int32} : pt (zfl b7 b6 b5 b4 b3 b2 b1 b0) 5 v = zfl b7 b6 (decide (¬ v = 0)) b4 b3 b2 b1 b0 := by
  unfold pt
  by_cases h : v = 0
  · rw [if_pos h, show decide (¬ v = 0) = false from decide_eq_false (fun r => r h)]
    revert b7 b6 b5 b4 b3 b2 b1 b0
    decide
  · rw [if_neg h, show decide (¬ v = 0) = true from decide_eq_true h]
    revert b7 b6 b5 b4 b3 b2 b1 b0
    decide
theorem pt_6 {b7 b6 b5 b4 b3 b2 b1 b0 : Bool} {v : Int32} : pt (zfl b7 b6 b5 b4 b3 b2 b1 b0) 6 v = zfl b7 (decide (¬ v = 0)) b5 b4 b3 b2 b1 b0 := by
  unfold pt
  by_cases h : v = 0
  · rw [if_pos h, show decide (¬ v = 0) = false from decide_eq_false (fun r => r h)]
    revert b7 b6 b5 b4 b3 b2 b1 b0
    decide
  · rw [if_neg h, show decide (¬ v = 0) = true from decide_eq_true h]
    revert b7 b6 b5 b4 b3 b2 b1 b0
    decide
theorem pt_7 {b7 b6 b5 b4 b3 b2 b1 b0 : Bool} {v : Int32} : pt (zfl b7 b6 b5 b4 b3 b2 b1 b0) 7 v = zfl (decide (¬ v = 0)) b6 b5 b4 b3 b2 b1 b0 := by
  unfold pt
  by_cases h : v = 0
  · rw [if_pos h, show decide (¬ v = 0) = false from decide_eq_false (fun r => r h)]
    revert b7 b6 b5 b4 b3 b2 b1 b0
    decide
  · rw [if_neg h, show decide (¬ v = 0) = true from decide_eq_true h]
    revert b7 b6 b5 b4 b3 b2 b1 b0
    decide
theorem fl_f : ∀ i : Fin 256, Int32.ofNat i.val = zfl (decide (¬ Int32.ofNat i.val &&& 128 = 0)) (decide (¬ Int32.ofNat i.val &&& 64 = 0)) (decide (¬ Int32.ofNat i.val &&& 32 = 0)) (decide (¬ Int32.ofNat i.val &&& 16 = 0)) (decide (¬ Int32.ofNat i.val &&& 8 = 0)) (decide (¬ Int32.ofNat i.val &&& 4 = 0)) (decide (¬ Int32.ofNat i.val &&& 2 = 0)) (decide (¬ Int32.ofNat i.val &&& 1 = 0)) := by decide +kernel
theorem fl_of {f : Int32} (h : zr 0 255 f) : f = zfl (decide (¬ f &&& 128 = 0)) (decide (¬ f &&& 64 = 0)) (decide (¬ f &&& 32 = 0)) (decide (¬ f &&& 16 = 0)) (decide (¬ f &&& 8 = 0)) (decide (¬ f &&& 4 = 0)) (decide (¬ f &&& 2 = 0)) (decide (¬ f &&& 1 = 0)) := by
  obtain ⟨i, e⟩ := z_byteF h
  rw [e]
  exact fl_f i
end ZJN2
section ZJN3
/-! BOTH PROCESSORS: what belongs together within an instruction -/
noncomputable def zsub (R : List Nat) (A : List (Nat × Nat × Nat)) (R' : List Nat) (A' : List (Nat × Nat × Nat)) : Bool := R.all (fun k => R'.any (Nat.beq k)) && A.all (fun e => R'.any (Nat.beq e.1) || A'.any (fun d => Nat.beq d.1 e.1 && (Nat.ble d.2.1 e.2.1 && Nat.ble e.2.2 d.2.2)))
theorem zcv_sub {R R' : List Nat} {A A' : List (Nat × Nat × Nat)} (c : zsub R A R' A' = true) {k j : Nat} (h : zcv R' A' k j = false) : zcv R A k j = false := by
  unfold zsub at c
  rw [Bool.and_eq_true, List.all_eq_true, List.all_eq_true] at c
  unfold zcv at h ⊢
  rw [Bool.or_eq_false_iff] at h
  rw [Bool.or_eq_false_iff]
  refine ⟨?_, ?_⟩
  · rw [List.any_eq_false] at *
    intro x hx q
    have a := c.1 x hx
    rw [List.any_eq_true] at a
    obtain ⟨y, y1, y2⟩ := a
    have e1 : k = x := Nat.eq_of_beq_eq_true q
    have e2 : x = y := Nat.eq_of_beq_eq_true y2
    exact h.1 y y1 (by rw [e1, e2]; exact Nat.beq_refl y)
  · rw [List.any_eq_false]
    intro e he q
    rw [Bool.and_eq_true, Bool.and_eq_true] at q
    obtain ⟨q1, q2, q3⟩ := q
    have e1 : e.1 = k := Nat.eq_of_beq_eq_true q1
    have a := c.2 e he
    rw [Bool.or_eq_true, List.any_eq_true, List.any_eq_true] at a
    rcases a with ⟨y, y1, y2⟩ | ⟨d, d1, d2⟩
    · have e2 : e.1 = y := Nat.eq_of_beq_eq_true y2
      have h1 := h.1
      rw [List.any_eq_false] at h1
      exact h1 y y1 (by rw [← e1, e2]; exact Nat.beq_refl y)
    · rw [Bool.and_eq_true, Bool.and_eq_true] at d2
      obtain ⟨r1, r2, r3⟩ := d2
      have h2 := h.2
      rw [List.any_eq_false] at h2
      refine h2 d d1 ?_
      rw [Bool.and_eq_true, Bool.and_eq_true]
      have a1 := Nat.le_of_ble_eq_true q2
      have a2 := Nat.le_of_ble_eq_true q3
      have a3 := Nat.le_of_ble_eq_true r2
      have a4 := Nat.le_of_ble_eq_true r3
      refine ⟨?_, Nat.ble_eq.mpr (by omega), Nat.ble_eq.mpr (by omega)⟩
      rw [← e1]
      exact r1
theorem zQ.mono {R R' S S' : List Nat} {A A' B B' : List (Nat × Nat × Nat)} {σ σ' : zSt} (h : zQ R A S B σ σ') (c : zsub R A R' A' = true) (d : zsub S B S' B' = true) : zQ R' A' S' B' σ σ' := ⟨fun k j q => h.1 k j (zcv_sub c q), fun k j q => h.2 k j (zcv_sub d q)⟩
theorem zp2_bll {α β : Type} {o : Option (zSt × Int64)} {p : Option β} {f : zSt → Int64 → Option α} {P : zSt × Int64 → Prop} {Q : α → β → Prop} (h : zpc o P) (k : ∀ σ v, P (σ, v) → zp2 (f σ v) p Q) : zp2 (zbl o f) p Q := by
  cases o with
  | none => exact zp2_nl
  | some a => exact k a.1 a.2 (h a rfl)
theorem zp2_bur {α β : Type} {o : Option α} {p : Option zSt} {f : zSt → Option β} {P : zSt → Prop} {Q : α → β → Prop} (h : zpc p P) (k : ∀ σ, P σ → zp2 o (f σ) Q) : zp2 o (zbu p f) Q := by
  cases p with
  | none => exact zp2_nr
  | some a => exact k a (h a rfl)
theorem zp2_bilp {α β : Type} {o : Option (zSt × Int32)} {p : Option β} {f : zSt → Int32 → Option α} {P : zSt × Int32 → β → Prop} {Q : α → β → Prop} (h : zp2 o p P) (k : ∀ s v b, P (s, v) b → zp2 (f s v) (some b) Q) : zp2 (zbi o f) p Q := by
  intro a b ea eb
  cases e : o with
  | none => rw [e] at ea; cases ea
  | some r =>
    rw [e] at ea
    exact k r.1 r.2 b (h r b e eb) a b ea rfl
/-! registers -/
noncomputable def zrg (j : Nat) (v : Int32) : Prop := (j < 16 → zr 0 255 v) ∧ (16 ≤ j → j ≤ 20 → zr 0 65535 v) ∧ (21 ≤ j → j ≤ 22 → zr 0 255 v) ∧ (23 ≤ j → j ≤ 24 → zr 0 1 v) ∧ (j = 25 → zr 0 2 v) ∧ (26 ≤ j → j ≤ 28 → zr 0 1 v)
/-- all registers but F and WZ: those may differ in between -/
noncomputable def zCq (σ μ : zSt) : Prop := (∀ j : Nat, j ≤ 26 → ¬ j = 1 → ¬ j = 20 → μ.1 3 j = σ.1 36 j) ∧ μ.1 3 28 = σ.1 36 27 ∧ μ.1 3 27 = σ.1 36 28 ∧ (∀ j : Nat, j ≤ 28 → zrg j (σ.1 36 j))
noncomputable def zM2 (σ μ : zSt) : Prop := zMe σ μ ∧ zMr σ μ
noncomputable def zJp (σ μ : zSt) : Prop := (σ.1 7 4 = 6 ∧ μ.1 0 31 = 0) ∨ (σ.1 7 4 = 16 ∧ μ.1 0 31 = 16) ∨ (σ.1 7 4 = 17 ∧ μ.1 0 31 = 17)
/-- what lies beside the processor and is left alone by it -/
noncomputable def zIoK (I : zSt → zSt → Prop) : Prop := ∀ σ μ σ' μ', I σ μ → zQ [36, 7, 15, 17, 19] [] [] [] σ σ' → zQ [5, 6] [(3, 0, 32), (0, 31, 33)] [] [] μ μ' → I σ' μ'
noncomputable def zTT (I : zSt → zSt → Prop) (σ μ : zSt) : Prop := zM2 σ μ ∧ zCq σ μ ∧ zJp σ μ ∧ I σ μ
noncomputable def zall : List Nat → (Nat → Prop) → Prop
  | [], _ => True
  | a :: t, P => P a ∧ zall t P
theorem zall_of {P : Nat → Prop} : ∀ {A : List Nat}, zall A P → ∀ j ∈ A, P j
  | [], _, j, h => by cases h
  | a :: t, h, j, m => by
    rcases List.mem_cons.mp m with e | e
    · rw [e]; exact h.1
    · exact zall_of h.2 j e
theorem zAl0 {P : Nat → Prop} : zall [] P := trivial
theorem zAlc {P : Nat → Prop} {a : Nat} {t : List Nat} (p : P a) (q : zall t P) : zall (a :: t) P := ⟨p, q⟩
theorem zAl1 {P : Nat → Prop} {a : Nat} (p : P a) : zall [a] P := zAlc p zAl0
theorem zAl2 {P : Nat → Prop} {a b : Nat} (p : P a) (q : P b) : zall [a, b] P := zAlc p (zAl1 q)
theorem zAl3 {P : Nat → Prop} {a b c : Nat} (p : P a) (q : P b) (r : P c) : zall [a, b, c] P := zAlc p (zAl2 q r)
theorem zM2.keep {σ μ σ' μ' : zSt} (h : zM2 σ μ) (a : zQ [36, 7] [] [] [] σ σ') (b : zQ [] [(3, 0, 28), (0, 31, 33)] [] [] μ μ') : zM2 σ' μ' := by
  obtain ⟨⟨h1, h2, h3, h4, h5, h6⟩, ⟨r1, r2, r3, r4, r5, r6⟩⟩ := h
  have c : ∀ k j, ¬ k = 36 → ¬ k = 7 → σ'.1 k j = σ.1 k j := fun k j n1 n2 => a.1 k j (by
    unfold zcv
    rw [Bool.or_eq_false_iff]
    refine ⟨?_, rfl⟩
    rw [List.any_eq_false]
    intro x hx q
    have e : k = x := Nat.eq_of_beq_eq_true q
    rcases List.mem_cons.mp hx with r | r
    · exact n1 (e.trans r)
    · rcases List.mem_cons.mp r with r | r
      · exact n2 (e.trans r)
      · cases r)
  have m : ∀ k j, (¬ k = 3 ∧ ¬ k = 0) ∨ (k = 3 ∧ 28 < j) ∨ (k = 0 ∧ j < 31) → μ'.1 k j = μ.1 k j := fun k j n => b.1 k j (by
    unfold zcv
    rw [Bool.or_eq_false_iff]
    refine ⟨rfl, ?_⟩
    rw [List.any_eq_false]
    intro x hx q
    rw [Bool.and_eq_true, Bool.and_eq_true] at q
    obtain ⟨q1, q2, q3⟩ := q
    have e : x.1 = k := Nat.eq_of_beq_eq_true q1
    have a2 := Nat.le_of_ble_eq_true q2
    have a3 := Nat.le_of_ble_eq_true q3
    rcases List.mem_cons.mp hx with r | r
    · subst r
      have e : 3 = k := e
      have a3 : j ≤ 28 := a3
      omega
    · rcases List.mem_cons.mp r with r | r
      · subst r
        have e : 0 = k := e
        have a2 : 31 ≤ j := a2
        omega
      · cases r)
  have c1 : σ'.1 1 = σ.1 1 := funext fun j => c 1 j (by decide) (by decide)
  have m0 : ∀ j, j < 31 → μ'.1 0 j = μ.1 0 j := fun j hj => m 0 j (Or.inr (Or.inr ⟨rfl, hj⟩))
  refine ⟨⟨fun j hj => ?_, fun j hj => ?_, fun j hj => ?_, ?_, ?_, ?_⟩, ⟨?_, ?_, ?_, ?_, ?_, fun j j1 j2 => ?_⟩⟩
  · rw [c 15 j (by decide) (by decide), m 5 j (Or.inl (by decide))]; exact h1 j hj
  · rw [c 17 j (by decide) (by decide), m 6 j (Or.inl (by decide))]; exact h2 j hj
  · rw [c 19 j (by decide) (by decide), m 3 (29 + j) (Or.inr (Or.inl ⟨rfl, by omega⟩))]; exact h3 j hj
  · rw [c 19 3 (by decide) (by decide), m 3 32 (Or.inr (Or.inl ⟨rfl, by decide⟩))]; exact h4
  · refine h5.keep (fun j _ => by rw [c1]) (funext fun j => c _ j ?_ ?_) (fun j hj => m0 j ?_) (funext fun j => m 2 j (Or.inl (by decide)))
    · rcases z_tp13 (σ.1 1 1) with e | e <;> rw [e] <;> decide
    · rcases z_tp13 (σ.1 1 1) with e | e <;> rw [e] <;> decide
    · revert hj
      simp only [List.mem_cons, List.not_mem_nil, or_false]
      omega
  · unfold zFil
    rw [m0 5 (by decide), m0 6 (by decide), show μ'.1 2 = μ.1 2 from funext fun j => m 2 j (Or.inl (by decide))]
    exact h6
  · rw [c1]; exact r1
  · rw [c1]; exact r2
  · rw [m0 6 (by decide)]; exact r3
  · rw [m0 7 (by decide)]; exact r4
  · rw [m0 7 (by decide), m0 6 (by decide)]; exact r5
  · rw [m 3 j (Or.inr (Or.inl ⟨rfl, by omega⟩))]; exact r6 j j1 j2
section ZT1
variable {I : zSt → zSt → Prop} {σ μ σ1 μ1 : zSt}
theorem zTT.eq (h : zTT I σ μ) {j : Nat} (hj : j ≤ 26) (hn : ¬ j = 1 := by decide) (hw : ¬ j = 20 := by decide) : μ.1 3 j = σ.1 36 j := h.2.1.1 j hj hn hw
noncomputable def zWzz (σ μ : zSt) : Prop := μ.1 3 20 = σ.1 36 20
theorem zWzz.of {σ2 μ2 : zSt} (h : zWzz σ μ) (a : σ2.1 36 20 = σ.1 36 20) (b : μ2.1 3 20 = μ.1 3 20) : zWzz σ2 μ2 := by
  unfold zWzz
  rw [a, b]
  exact h
noncomputable def zF (σ μ : zSt) : Prop := μ.1 3 1 = σ.1 36 1
theorem zF.of {σ2 μ2 : zSt} (h : zF σ μ) (a : σ2.1 36 1 = σ.1 36 1) (b : μ2.1 3 1 = μ.1 3 1) : zF σ2 μ2 := by
  unfold zF
  rw [a, b]
  exact h
theorem zTT.g (h : zTT I σ μ) {j : Nat} (hj : j ≤ 28) : zrg j (σ.1 36 j) := h.2.1.2.2.2 j hj
theorem zTT.b (h : zTT I σ μ) {j : Nat} (hj : j < 16) : zr 0 255 (σ.1 36 j) := (h.g (by omega)).1 hj
theorem zTT.w (h : zTT I σ μ) {j : Nat} (h1 : 16 ≤ j) (h2 : j ≤ 20) : zr 0 65535 (σ.1 36 j) := (h.g (by omega)).2.1 h1 h2
theorem zrg_b {j : Nat} {v : Int32} (hj : j < 16 ∨ j = 21 ∨ j = 22) (h : zr 0 255 v) : zrg j v := ⟨fun _ => h, fun _ _ => zr_w h (by decide), fun _ _ => h, fun _ _ => by omega, fun _ => by omega, fun _ _ => by omega⟩
theorem zrg_w {j : Nat} {v : Int32} (h1 : 16 ≤ j) (h2 : j ≤ 20) (h : zr 0 65535 v) : zrg j v := ⟨fun _ => by omega, fun _ _ => h, fun _ _ => by omega, fun _ _ => by omega, fun _ => by omega, fun _ _ => by omega⟩
theorem zrg_1 {j : Nat} {v : Int32} (h1 : 23 ≤ j) (h2 : j ≤ 28) (h : zr 0 1 v) : zrg j v := ⟨fun _ => by omega, fun _ _ => by omega, fun _ _ => by omega, fun _ _ => h, fun _ => zr_w h (by decide), fun _ _ => h⟩
/-- the end of a stretch: the registers in A are the same, all others are as they were -/
theorem zTT.fin (hI : zIoK I) (h : zTT I σ μ) (A : List Nat) (hm : zM2 σ1 μ1) (qc : zQ [7, 15, 17, 19] (A.map (fun j => (36, j, j))) [] [] σ σ1) (qm : zQ [5, 6] ((0, 31, 33) :: (3, 29, 32) :: A.map (fun j => (3, j, j))) [] [] μ μ1) (hA : A.all (fun j => Nat.ble j 26) = true) (e : zall A (fun j => μ1.1 3 j = σ1.1 36 j ∧ zrg j (σ1.1 36 j))) (hj : zJp σ1 μ1) : zTT I σ1 μ1 := by
  have ea := zall_of e
  rw [List.all_eq_true] at hA
  have nc : ∀ j, ¬ j ∈ A → σ1.1 36 j = σ.1 36 j := fun j hj => qc.1 36 j (by
    unfold zcv
    rw [Bool.or_eq_false_iff]
    refine ⟨rfl, ?_⟩
    rw [List.any_eq_false]
    intro x hx q
    obtain ⟨i, i1, i2⟩ := List.mem_map.mp hx
    subst i2
    rw [Bool.and_eq_true, Bool.and_eq_true] at q
    have a2 := Nat.le_of_ble_eq_true q.2.1
    have a3 := Nat.le_of_ble_eq_true q.2.2
    have e : i = j := by
      have a2 : i ≤ j := a2
      have a3 : j ≤ i := a3
      omega
    exact hj (e ▸ i1))
  have nm : ∀ j, j ≤ 28 → ¬ j ∈ A → μ1.1 3 j = μ.1 3 j := fun j h28 hj => qm.1 3 j (by
    unfold zcv
    rw [Bool.or_eq_false_iff]
    refine ⟨rfl, ?_⟩
    rw [List.any_eq_false]
    intro x hx q
    rw [Bool.and_eq_true, Bool.and_eq_true] at q
    have a1 := Nat.eq_of_beq_eq_true q.1
    have a2 := Nat.le_of_ble_eq_true q.2.1
    have a3 := Nat.le_of_ble_eq_true q.2.2
    rcases List.mem_cons.mp hx with r | r
    · subst r; exact absurd a1 (by decide)
    · rcases List.mem_cons.mp r with r | r
      · subst r
        have a2 : 29 ≤ j := a2
        omega
      · obtain ⟨i, i1, i2⟩ := List.mem_map.mp r
        subst i2
        have a2 : i ≤ j := a2
        have a3 : j ≤ i := a3
        have e : i = j := by omega
        exact hj (e ▸ i1))
  have n27 : ∀ j, 26 < j → ¬ j ∈ A := fun j hj m => by
    have := Nat.le_of_ble_eq_true (hA j m)
    omega
  refine ⟨hm, ⟨fun j hj hn hw => ?_, ?_, ?_, fun j hj => ?_⟩, hj, hI σ μ σ1 μ1 h.2.2.2 ?_ ?_⟩
  · by_cases q : j ∈ A
    · exact (ea j q).1
    · rw [nm j (by omega) q, nc j q]; exact h.2.1.1 j hj hn hw
  · rw [nm 28 (by decide) (n27 28 (by decide)), nc 27 (n27 27 (by decide))]; exact h.2.1.2.1
  · rw [nm 27 (by decide) (n27 27 (by decide)), nc 28 (n27 28 (by decide))]; exact h.2.1.2.2.1
  · by_cases q : j ∈ A
    · exact (ea j q).2
    · rw [nc j q]; exact h.2.1.2.2.2 j hj
  · refine ⟨fun k j q => qc.1 k j ?_, qc.2⟩
    unfold zcv at q ⊢
    rw [Bool.or_eq_false_iff] at q ⊢
    have q1 := q.1
    rw [List.any_eq_false] at q1
    refine ⟨?_, ?_⟩
    · rw [List.any_eq_false]
      intro x hx
      exact q1 x (List.mem_cons_of_mem _ hx)
    · rw [List.any_eq_false]
      intro x hx r
      obtain ⟨i, i1, i2⟩ := List.mem_map.mp hx
      subst i2
      rw [Bool.and_eq_true] at r
      exact q1 36 (List.mem_cons_self) (by rw [← Nat.eq_of_beq_eq_true r.1]; exact Nat.beq_refl 36)
  · refine ⟨fun k j q => qm.1 k j ?_, qm.2⟩
    unfold zcv at q ⊢
    rw [Bool.or_eq_false_iff] at q ⊢
    refine ⟨q.1, ?_⟩
    have q2 := q.2
    rw [List.any_eq_false] at q2
    rw [List.any_eq_false]
    intro x hx r
    rw [Bool.and_eq_true, Bool.and_eq_true] at r
    obtain ⟨r1, r2, r3⟩ := r
    rcases List.mem_cons.mp hx with s | s
    · subst s
      exact q2 (0, 31, 33) (List.mem_cons_of_mem _ List.mem_cons_self) (by rw [r1, r2, r3]; rfl)
    · have a2 := Nat.le_of_ble_eq_true r2
      have a3 := Nat.le_of_ble_eq_true r3
      have k3 : Nat.beq 3 k = true ∧ j ≤ 32 := by
        rcases List.mem_cons.mp s with s | s
        · subst s; exact ⟨r1, a3⟩
        · obtain ⟨i, i1, i2⟩ := List.mem_map.mp s
          subst i2
          have b := Nat.le_of_ble_eq_true (hA i i1)
          have a3 : j ≤ i := a3
          exact ⟨r1, by omega⟩
      exact q2 (3, 0, 32) List.mem_cons_self (by rw [Bool.and_eq_true, Bool.and_eq_true]; exact ⟨k3.1, rfl, Nat.ble_eq.mpr k3.2⟩)
/-- the same where the memory was not written -/
theorem zTT.upd (hI : zIoK I) (h : zTT I σ μ) (A : List Nat) (qc : zQ [] (A.map (fun j => (36, j, j))) [] [] σ σ1) (qm : zQ [] (A.map (fun j => (3, j, j))) [] [] μ μ1) (hA : A.all (fun j => Nat.ble j 26) = true) (e : zall A (fun j => μ1.1 3 j = σ1.1 36 j ∧ zrg j (σ1.1 36 j))) : zTT I σ1 μ1 := by
  have hA' := hA
  rw [List.all_eq_true] at hA'
  have c1 : zsub [] (A.map (fun j => (36, j, j))) [36, 7] [] = true := by
    unfold zsub
    rw [Bool.and_eq_true]
    refine ⟨rfl, ?_⟩
    rw [List.all_eq_true]
    intro x hx
    obtain ⟨i, i1, i2⟩ := List.mem_map.mp hx
    subst i2
    rfl
  have c2 : zsub [] (A.map (fun j => (3, j, j))) [] [(3, 0, 28), (0, 31, 33)] = true := by
    unfold zsub
    rw [Bool.and_eq_true]
    refine ⟨rfl, ?_⟩
    rw [List.all_eq_true]
    intro x hx
    obtain ⟨i, i1, i2⟩ := List.mem_map.mp hx
    subst i2
    have b := Nat.le_of_ble_eq_true (hA' i i1)
    rw [Bool.or_eq_true]
    right
    rw [List.any_eq_true]
    refine ⟨(3, 0, 28), List.mem_cons_self, ?_⟩
    rw [Bool.and_eq_true, Bool.and_eq_true]
    exact ⟨rfl, rfl, Nat.ble_eq.mpr (by show i ≤ 28; omega)⟩
  have c3 : ∀ B : List (Nat × Nat × Nat), zsub [] B [7, 15, 17, 19] B = true := fun B => by
    unfold zsub
    rw [Bool.and_eq_true]
    refine ⟨rfl, ?_⟩
    rw [List.all_eq_true]
    intro x hx
    rw [Bool.or_eq_true]
    right
    rw [List.any_eq_true]
    exact ⟨x, hx, by rw [Bool.and_eq_true, Bool.and_eq_true]; exact ⟨Nat.beq_refl _, Nat.ble_eq.mpr (Nat.le_refl _), Nat.ble_eq.mpr (Nat.le_refl _)⟩⟩
  have c4 : ∀ B : List (Nat × Nat × Nat), zsub [] B [5, 6] ((0, 31, 33) :: (3, 29, 32) :: B) = true := fun B => by
    unfold zsub
    rw [Bool.and_eq_true]
    refine ⟨rfl, ?_⟩
    rw [List.all_eq_true]
    intro x hx
    rw [Bool.or_eq_true]
    right
    rw [List.any_eq_true]
    exact ⟨x, List.mem_cons_of_mem _ (List.mem_cons_of_mem _ hx), by rw [Bool.and_eq_true, Bool.and_eq_true]; exact ⟨Nat.beq_refl _, Nat.ble_eq.mpr (Nat.le_refl _), Nat.ble_eq.mpr (Nat.le_refl _)⟩⟩
  have e7 : ∀ i, σ1.1 7 i = σ.1 7 i := fun i => qc.1 7 i (by
    unfold zcv
    rw [Bool.or_eq_false_iff]
    refine ⟨rfl, ?_⟩
    rw [List.any_eq_false]
    intro x hx q
    obtain ⟨i, i1, i2⟩ := List.mem_map.mp hx
    subst i2
    rw [Bool.and_eq_true] at q
    exact absurd (show (36 : Nat) = 7 from Nat.eq_of_beq_eq_true q.1) (by decide))
  have e0 : ∀ i, μ1.1 0 i = μ.1 0 i := fun i => qm.1 0 i (by
    unfold zcv
    rw [Bool.or_eq_false_iff]
    refine ⟨rfl, ?_⟩
    rw [List.any_eq_false]
    intro x hx q
    obtain ⟨i, i1, i2⟩ := List.mem_map.mp hx
    subst i2
    rw [Bool.and_eq_true] at q
    exact absurd (show (3 : Nat) = 0 from Nat.eq_of_beq_eq_true q.1) (by decide))
  refine h.fin hI A (h.1.keep (qc.mono c1 rfl) (qm.mono c2 rfl)) (qc.mono (c3 _) rfl) (qm.mono (c4 _) rfl) hA e ?_
  have hj := h.2.2.1
  unfold zJp at hj ⊢
  rw [e7, e0]
  exact hj
/-- F or WZ on one side alone -/
theorem zTT.onC (hI : zIoK I) (h : zTT I σ μ) {i : Nat} {v : Int32} (hi : i = 1 ∨ i = 20) (hv : zrg i v) : zTT I (zsi σ 36 i v) μ := by
  refine ⟨h.1.keep (zQ.wi zQ.rf rfl) zQ.rf, ⟨fun j hj hn hw => ?_, ?_, ?_, fun j hj => ?_⟩, h.2.2.1.imp (fun x => x) (fun x => x), hI _ _ _ _ h.2.2.2 (zQ.wi zQ.rf rfl) zQ.rf⟩
  · rw [zsi_nj (by omega)]; exact h.2.1.1 j hj hn hw
  · rw [zsi_nj (by omega)]; exact h.2.1.2.1
  · rw [zsi_nj (by omega)]; exact h.2.1.2.2.1
  · by_cases q : j = i
    · rw [q, zsi_ej]; exact hv
    · rw [zsi_nj q]; exact h.2.1.2.2.2 j hj
theorem zTT.onM (hI : zIoK I) (h : zTT I σ μ) {i : Nat} {w : Int32} (hi : i = 1 ∨ i = 20) : zTT I σ (zsi μ 3 i w) := by
  have qm : zQ [] [(3, 0, 28), (0, 31, 33)] [] [] μ (zsi μ 3 i w) := by
    rcases hi with e | e <;> subst e <;> exact zQ.wi zQ.rf rfl
  refine ⟨h.1.keep zQ.rf qm, ⟨fun j hj hn hw => ?_, ?_, ?_, h.2.1.2.2.2⟩, h.2.2.1.imp (fun x => x) (fun x => x), hI _ _ _ _ h.2.2.2 zQ.rf (qm.mono rfl rfl)⟩
  · rw [zsi_nj (by omega)]; exact h.2.1.1 j hj hn hw
  · rw [zsi_nj (by omega)]; exact h.2.1.2.1
  · rw [zsi_nj (by omega)]; exact h.2.1.2.2.1
end ZT1
end ZJN3
section ZJN4
/-! HELPERS OF BOTH PROCESSORS -/
theorem zFw.q {σ σ' : zSt} (h : zFw σ σ') : zQ [15, 17, 19] [] [] [] σ σ' := by
  refine ⟨fun k j c => ?_, fun k j _ => by rw [h.2]⟩
  have n : ∀ i, i ∈ [15, 17, 19] → ¬ k = i := fun i hi e => by
    unfold zcv at c
    rw [Bool.or_eq_false_iff, List.any_eq_false] at c
    exact c.1 i hi (by rw [e]; exact Nat.beq_refl i)
  rw [h.1 k (n 15 (by decide)) (n 17 (by decide)) (n 19 (by decide))]
theorem zFv.q {μ μ' : zSt} (h : zFv μ μ') : zQ [5, 6] [(3, 29, 32)] [] [] μ μ' := by
  refine ⟨fun k j c => ?_, fun k j _ => by rw [h.2.2]⟩
  unfold zcv at c
  rw [Bool.or_eq_false_iff, List.any_eq_false, List.any_eq_false] at c
  have n : ∀ i, i ∈ [5, 6] → ¬ k = i := fun i hi e => c.1 i hi (by rw [e]; exact Nat.beq_refl i)
  by_cases e : k = 3
  · subst e
    refine h.2.1 j ?_
    by_cases q : j < 29
    · exact Or.inl q
    · by_cases r : 32 < j
      · exact Or.inr r
      · exact absurd (show (Nat.beq 3 3 && (Nat.ble 29 j && Nat.ble j 32)) = true by rw [Bool.and_eq_true, Bool.and_eq_true]; exact ⟨rfl, Nat.ble_eq.mpr (by omega), Nat.ble_eq.mpr (by omega)⟩) (c.2 (3, 29, 32) List.mem_cons_self)
  · rw [h.1 k e (n 5 (by decide)) (n 6 (by decide))]
section ZT3
variable {I : zSt → zSt → Prop} {σ μ : zSt} {α β : Type} {Q : α → β → Prop}
theorem zM2.rd (h : zM2 σ μ) {x y : Int32} (e : y &&& 65535 = x &&& 65535) : zp2 (fX2_read σ x) (fX12_read μ y) (fun r r' => r.1 = σ ∧ r'.1 = μ ∧ r'.2 = r.2 ∧ zr 0 255 r.2) := by
  rw [← z_rdc (a := x), ← z_rdm (a := y), e]
  exact zp2_mono (zp2_andr (z2_read h.1 h.2) p_readr) (fun a b q => ⟨q.1.1, q.1.2.1, q.1.2.2.symm, by rw [q.1.2.2]; exact q.2⟩)
/-- both read, and go on -/
theorem zp2_rd (h : zM2 σ μ) {x y : Int32} (e : y &&& 65535 = x &&& 65535) {f : zSt → Int32 → Option α} {g : zSt → Int32 → Option β} (k : ∀ v, zr 0 255 v → zp2 (f σ v) (g μ v) Q) : zp2 (zbi (fX2_read σ x) f) (zbi (fX12_read μ y) g) Q := by
  refine zp2_bii (h.rd e) (fun s v t w q => ?_)
  obtain ⟨q1, q2, q3, q4⟩ := q
  have q1 : s = σ := q1
  have q2 : t = μ := q2
  have q3 : w = v := q3
  subst q1
  subst q2
  subst q3
  exact k w q4
theorem zM2.wr (h : zM2 σ μ) {x y v w : Int32} (e : y &&& 65535 = x &&& 65535) (f : w &&& 255 = v) (hv : zr 0 255 v) : zp2 (fX2_write σ x v) (fX12_write μ y w) (fun r r' => zM2 r r' ∧ zQ [15, 17, 19] [] [] [] σ r ∧ zQ [5, 6] [(3, 29, 32)] [] [] μ r') := by
  have e1 : fX2_write σ x v = fX2_write σ (x &&& 65535) v := by unfold fX2_write; rw [z_mm]
  rw [e1, ← z_wrm (a := y), ← z_wrb (v := w), e, f]
  refine zp2_mono (zp2_andr (z2_write h.1 h.2 hv) (p_writer h.2.2.2.2.2.2)) (fun r r' q => ?_)
  obtain ⟨⟨q1, q2, q3⟩, q4⟩ := q
  exact ⟨⟨q1, h.2.of q2 q3 q4⟩, q2.q, q3.q⟩
/-- both write, and go on -/
theorem zp2_wr (h : zM2 σ μ) {x y v w : Int32} (e : y &&& 65535 = x &&& 65535) (f : w &&& 255 = v) (hv : zr 0 255 v) {F : zSt → Option α} {G : zSt → Option β} (k : ∀ s t, zM2 s t → zQ [15, 17, 19] [] [] [] σ s → zQ [5, 6] [(3, 29, 32)] [] [] μ t → zp2 (F s) (G t) Q) : zp2 (zbu (fX2_write σ x v) F) (zbu (fX12_write μ y w) G) Q := zp2_buu (h.wr e f hv) (fun s t q => k s t q.1 q.2.1 q.2.2)
theorem z_r8 (x : Int32) : zr 0 255 (x &&& 255) := zr_andr (lo := 0) (hi := 255) (zr_c (lo := 255) (hi := 255) (by decide)) (by decide)
theorem z_r16 (x : Int32) : zr 0 65535 (x &&& 65535) := zr_andr (lo := 0) (hi := 65535) (zr_c (lo := 65535) (hi := 65535) (by decide)) (by decide)
theorem z_rw {a b : Int32} (ha : zr 0 255 a) (hb : zr 0 255 b) : zr 0 65535 (a ||| (b <<< ((8 : Int32) &&& 31))) := zr_or (lo := 0) (hi := 65535) 16 ha (zr_shl (lo := 0) (hi := 65280) 8 (by decide) hb (by decide)) (by decide)
theorem z_rw' {a b : Int32} (ha : zr 0 255 a) (hb : zr 0 255 b) : zr 0 65535 ((a <<< ((8 : Int32) &&& 31)) ||| b) := zr_or (lo := 0) (hi := 65535) 16 (zr_shl (lo := 0) (hi := 65280) 8 (by decide) ha (by decide)) hb (by decide)
theorem z_m255 {v : Int32} (h : zr 0 255 v) : v &&& 255 = v := Int32.toInt_inj.mp (by rw [z_mask (k := 8) h.1 rfl (by decide)]; have := h.1; have := h.2; show v.toInt % 256 = _; omega)
theorem z_hi {w : Int32} (h : zr 0 65535 w) : zr 0 255 (w >>> ((8 : Int32) &&& 31)) := by
  have e := z_quo (k := 8) (s := (8 : Int32) &&& 31) h.1 rfl
  have h1 := h.1
  have h2 := h.2
  exact ⟨by rw [e]; show 0 ≤ w.toInt / 256; omega, by rw [e]; show w.toInt / 256 ≤ 255; omega⟩
theorem z_hi8 {w : Int32} (h : zr 0 65535 w) : (w >>> ((8 : Int32) &&& 31)) &&& 255 = w >>> ((8 : Int32) &&& 31) := z_m255 (z_hi h)
/-- fetching -/
theorem t_next (hI : zIoK I) (h : zTT I σ μ) : zp2 (fX5_fetch σ ) (fX12_next μ ) (fun r r' => zTT I r.1 r'.1 ∧ r'.2 = r.2 ∧ zr 0 255 r.2 ∧ zQ [] [(36, 19, 19)] [] [] σ r.1 ∧ zQ [] [(3, 19, 19)] [] [] μ r'.1) := by
  unfold fX5_fetch fX12_next
  have e : zgi μ 3 (19 : Int32).toNatClampNeg = zgi σ 36 (19 : Int32).toNatClampNeg := h.eq (j := 19) (by decide)
  refine zp2_ckl (zp2_ckr (zp2_rd h.1 (by rw [e]) (fun v hv => ?_)))
  refine zp2_ckl (zp2_ckl (zp2_bvl (fun s es => zp2_ckr (zp2_ckr (zp2_bvr (fun t et => zp2_some ⟨?_, rfl, hv, ?_, ?_⟩))))))
  · subst es
    subst et
    refine h.upd hI [19] (zQ.wi zQ.rf rfl) (zQ.wi zQ.rf rfl) rfl (zAl1 ⟨?_, zrg_w (by decide) (by decide) (z_r16 _)⟩)
    show (μ.1 3 19 + 1) &&& 65535 = (σ.1 36 19 + 1) &&& 65535
    rw [h.eq (by decide)]
  · subst es; exact zQ.wi zQ.rf rfl
  · subst et; exact zQ.wi zQ.rf rfl
theorem t_op (hI : zIoK I) (h : zTT I σ μ) : zp2 (fX5_fetchOp σ ) (fX12_fetch μ ) (fun r r' => zTT I r.1 r'.1 ∧ r'.2 = r.2 ∧ zr 0 255 r.2 ∧ zQ [] [(36, 19, 19), (36, 22, 22)] [] [] σ r.1 ∧ zQ [] [(3, 19, 19), (3, 22, 22)] [] [] μ r'.1) := by
  unfold fX5_fetchOp fX12_fetch fX5_growR fX5_fetch fX12_next fX12_grows
  have e : μ.1 3 19 = σ.1 36 19 := h.eq (j := 19) (by decide)
  refine zp2_bul (P := fun r => r = zsi σ 36 22 (((zgi σ 36 (22 : Int32).toNatClampNeg) &&& 128) ||| (((zgi σ 36 (22 : Int32).toNatClampNeg) + 1) &&& 127))) (zpc_ck (zpc_ck (zpc_ck (zpc_bv (fun s es => zpc_some es))))) (fun s es => ?_)
  have hm : zM2 s μ := h.1.keep (by subst es; exact zQ.wi zQ.rf rfl) zQ.rf
  have e19 : s.1 36 19 = σ.1 36 19 := by subst es; rfl
  refine zp2_bilp (P := fun r r' => r'.2 = r.2 ∧ zr 0 255 r.2 ∧ r.1 = zsi s 36 19 ((s.1 36 19 + 1) &&& 65535) ∧ r'.1 = zsi (zsi μ 3 19 ((μ.1 3 19 + 1) &&& 65535)) 3 22 ((μ.1 3 22 &&& 128) ||| ((μ.1 3 22 + 1) &&& 127))) ?_ (fun s1 v r' q => zp2_some ?_)
  · -- the reference's fetch, as one
    refine zp2_ckl ?_
    have d : zp2 (fX2_read s (zgi s 36 (19 : Int32).toNatClampNeg)) (fX12_read μ (zgi μ 3 (19 : Int32).toNatClampNeg)) _ := hm.rd (by rw [show zgi s 36 (19 : Int32).toNatClampNeg = σ.1 36 19 from e19, show zgi μ 3 (19 : Int32).toNatClampNeg = σ.1 36 19 from e])
    intro a b ea eb
    cases qa : fX2_read s (zgi s 36 (19 : Int32).toNatClampNeg) with
    | none => rw [qa] at ea; cases ea
    | some x =>
      cases qb : fX12_read μ (zgi μ 3 (19 : Int32).toNatClampNeg) with
      | none => rw [qb] at eb; cases eb
      | some y =>
        obtain ⟨x1, x2⟩ := x
        obtain ⟨y1, y2⟩ := y
        obtain ⟨q1, q2, q3, q4⟩ := d _ _ qa qb
        have q1 : x1 = s := q1
        have q2 : y1 = μ := q2
        have q3 : y2 = x2 := q3
        have q4 : zr 0 255 x2 := q4
        subst q1
        subst q2
        subst q3
        rw [qa] at ea
        rw [qb] at eb
        have ea : some (zsi x1 36 19 ((x1.1 36 19 + 1) &&& 65535), y2) = some a := ea
        have eb : some (zsi (zsi y1 3 19 ((y1.1 3 19 + 1) &&& 65535)) 3 22 ((y1.1 3 22 &&& 128) ||| ((y1.1 3 22 + 1) &&& 127)), y2) = some b := eb
        cases ea
        cases eb
        exact ⟨rfl, q4, rfl, rfl⟩
  · obtain ⟨q1, q2, q3, q4⟩ := q
    have q3 : s1 = zsi s 36 19 ((s.1 36 19 + 1) &&& 65535) := q3
    refine ⟨?_, q1, q2, ?_, ?_⟩
    · show zTT I s1 r'.1
      rw [q3, q4, es]
      refine h.upd hI [19, 22] (zQ.wi (zQ.wi zQ.rf rfl) rfl) (zQ.wi (zQ.wi zQ.rf rfl) rfl) rfl (zAl2 ⟨?_, zrg_w (by decide) (by decide) (z_r16 _)⟩ ⟨?_, zrg_b (Or.inr (Or.inr rfl)) (zr_or (lo := 0) (hi := 255) 8 (zr_andr (lo := 0) (hi := 128) (zr_c (lo := 128) (hi := 128) (by decide)) (by decide)) (zr_andr (lo := 0) (hi := 127) (zr_c (lo := 127) (hi := 127) (by decide)) (by decide)) (by decide))⟩)
      · show (μ.1 3 19 + 1) &&& 65535 = (σ.1 36 19 + 1) &&& 65535
        rw [e]
      · show (μ.1 3 22 &&& 128) ||| ((μ.1 3 22 + 1) &&& 127) = (σ.1 36 22 &&& 128) ||| ((σ.1 36 22 + 1) &&& 127)
        rw [h.eq (by decide)]
    · show zQ _ _ _ _ σ s1
      rw [q3, es]
      exact zQ.wi (zQ.wi zQ.rf rfl) rfl
    · rw [q4]
      exact zQ.wi (zQ.wi zQ.rf rfl) rfl
theorem t_word (hI : zIoK I) (h : zTT I σ μ) : zp2 (fX5_fetchWord σ ) (fX12_nextWord μ ) (fun r r' => zTT I r.1 r'.1 ∧ r'.2 = r.2 ∧ zr 0 65535 r.2 ∧ zQ [] [(36, 19, 19)] [] [] σ r.1 ∧ zQ [] [(3, 19, 19)] [] [] μ r'.1) := by
  unfold fX5_fetchWord fX12_nextWord fX12_next
  have e : μ.1 3 19 = σ.1 36 19 := h.eq (j := 19) (by decide)
  intro a b ea eb
  have d1 := h.1.rd (x := zgi σ 36 (19 : Int32).toNatClampNeg) (y := zgi μ 3 (19 : Int32).toNatClampNeg) (by rw [show zgi μ 3 (19 : Int32).toNatClampNeg = zgi σ 36 (19 : Int32).toNatClampNeg from e])
  cases qa : fX2_read σ (zgi σ 36 (19 : Int32).toNatClampNeg) with
  | none => rw [qa] at ea; cases ea
  | some x =>
    cases qb : fX12_read μ (zgi μ 3 (19 : Int32).toNatClampNeg) with
    | none => rw [qb] at eb; cases eb
    | some y =>
      obtain ⟨x1, x2⟩ := x
      obtain ⟨y1, y2⟩ := y
      obtain ⟨q1, q2, q3, q4⟩ := d1 _ _ qa qb
      have q1 : x1 = σ := q1
      have q2 : y1 = μ := q2
      have q3 : y2 = x2 := q3
      have q4 : zr 0 255 x2 := q4
      subst q1
      subst q2
      subst q3
      rw [qa] at ea
      rw [qb] at eb
      have hm : zM2 x1 (zsi y1 3 19 ((y1.1 3 19 + 1) &&& 65535)) := h.1.keep zQ.rf (zQ.wi zQ.rf rfl)
      have d2 := hm.rd (x := zgi x1 36 (19 : Int32).toNatClampNeg + 1) (y := (y1.1 3 19 + 1) &&& 65535) (by rw [z_mm, e]; rfl)
      cases ra : fX2_read x1 (zgi x1 36 (19 : Int32).toNatClampNeg + 1) with
      | none => 
        have ea : zbi (fX2_read x1 (zgi x1 36 (19 : Int32).toNatClampNeg + 1)) (fun σ3 v4 => some (zsi σ3 36 19 (((zgi σ3 36 19) + 2) &&& 65535), y2 ||| (v4 <<< ((8 : Int32) &&& 31)))) = some a := ea
        rw [ra] at ea; cases ea
      | some u =>
        have ea : zbi (fX2_read x1 (zgi x1 36 (19 : Int32).toNatClampNeg + 1)) (fun σ3 v4 => some (zsi σ3 36 19 (((zgi σ3 36 19) + 2) &&& 65535), y2 ||| (v4 <<< ((8 : Int32) &&& 31)))) = some a := ea
        have eb : zbi (zbi (fX12_read (zsi y1 3 19 ((y1.1 3 19 + 1) &&& 65535)) ((y1.1 3 19 + 1) &&& 65535)) (fun σ3 v4 => some (zsi σ3 3 19 (((zgi σ3 3 19) + 1) &&& 65535), v4))) (fun σ3 v4 => some (σ3, y2 ||| (v4 <<< ((8 : Int32) &&& 31)))) = some b := eb
        cases rb : fX12_read (zsi y1 3 19 ((y1.1 3 19 + 1) &&& 65535)) ((y1.1 3 19 + 1) &&& 65535) with
        | none => rw [rb] at eb; cases eb
        | some w =>
          obtain ⟨u1, u2⟩ := u
          obtain ⟨w1, w2⟩ := w
          obtain ⟨p1, p2, p3, p4⟩ := d2 _ _ ra rb
          have p1 : u1 = x1 := p1
          have p2 : w1 = zsi y1 3 19 ((y1.1 3 19 + 1) &&& 65535) := p2
          have p3 : w2 = u2 := p3
          have p4 : zr 0 255 u2 := p4
          rw [ra] at ea
          rw [rb] at eb
          have ea : some (zsi u1 36 19 ((u1.1 36 19 + 2) &&& 65535), y2 ||| (u2 <<< ((8 : Int32) &&& 31))) = some a := ea
          have eb : some (zsi w1 3 19 ((w1.1 3 19 + 1) &&& 65535), y2 ||| (w2 <<< ((8 : Int32) &&& 31))) = some b := eb
          subst p1
          subst p2
          subst p3
          cases ea
          cases eb
          refine ⟨?_, rfl, z_rw q4 p4, zQ.wi zQ.rf rfl, zQ.wi (zQ.wi zQ.rf rfl) rfl⟩
          refine h.upd hI [19] (zQ.wi zQ.rf rfl) (zQ.wi (zQ.wi zQ.rf rfl) rfl) rfl (zAl1 ⟨?_, zrg_w (by decide) (by decide) (z_r16 _)⟩)
          show (((y1.1 3 19 + 1) &&& 65535) + 1) &&& 65535 = (u1.1 36 19 + 2) &&& 65535
          rw [z_p1, e]
/-- words of the memory -/
theorem t_rword (h : zM2 σ μ) {x y : Int32} (e : y = x) : zp2 (fX5_readWord σ x) (fX12_word μ y) (fun r r' => r.1 = σ ∧ r'.1 = μ ∧ r'.2 = r.2 ∧ zr 0 65535 r.2) := by
  subst e
  unfold fX5_readWord fX12_word
  exact zp2_rd h rfl (fun v hv => zp2_rd h rfl (fun w hw => zp2_some ⟨rfl, rfl, rfl, z_rw hv hw⟩))
theorem t_wword (h : zM2 σ μ) {x y v w : Int32} (e : y = x) (f : w = v) (hv : zr 0 65535 v) : zp2 (fX5_writeWord σ x v) (fX12_wordTo μ y w) (fun r r' => zM2 r r' ∧ zQ [15, 17, 19] [] [] [] σ r ∧ zQ [5, 6] [(3, 29, 32)] [] [] μ r') := by
  subst e
  subst f
  unfold fX5_writeWord fX12_wordTo
  exact zp2_wr h rfl rfl (z_r8 _) (fun s t hm q1 q2 => zp2_wr hm rfl (z_hi8 hv) (z_hi hv) (fun s1 t1 hm1 p1 p2 => zp2_some ⟨hm1, q1.tr p1, q2.tr p2⟩))
end ZT3
end ZJN4
section ZJN5
/-! HELPERS, PART 2: stack, pairs, single registers -/
theorem z_m2 (a : Int32) : (((a - 1) &&& 65535) - 1) &&& 65535 = (a - 2) &&& 65535 := by
  refine Int32.toBitVec_inj.1 ?_
  rw [Int32.toBitVec_and, Int32.toBitVec_and, Int32.toBitVec_sub, Int32.toBitVec_and, Int32.toBitVec_sub, Int32.toBitVec_sub]
  refine BitVec.eq_of_toNat_eq ?_
  rw [BitVec.toNat_and, BitVec.toNat_and, BitVec.toNat_sub, BitVec.toNat_and, BitVec.toNat_sub, BitVec.toNat_sub]
  rw [show (65535 : Int32).toBitVec.toNat = 2 ^ 16 - 1 from rfl, show (1 : Int32).toBitVec.toNat = 1 from rfl, show (2 : Int32).toBitVec.toNat = 2 from rfl, Nat.and_two_pow_sub_one_eq_mod, Nat.and_two_pow_sub_one_eq_mod, Nat.and_two_pow_sub_one_eq_mod]
  have := a.toBitVec.isLt
  omega
theorem zJp.of {σ μ σ1 μ1 : zSt} (h : zJp σ μ) (e7 : σ1.1 7 4 = σ.1 7 4) (e0 : μ1.1 0 31 = μ.1 0 31) : zJp σ1 μ1 := by
  unfold zJp
  rw [e7, e0]
  exact h
/-- where M is -/
noncomputable def zPlc (σ μ : zSt) : Prop := (μ.1 0 32 = 0 ∧ σ.1 7 5 = ((σ.1 36 6 <<< ((8 : Int32) &&& 31)) ||| σ.1 36 7)) ∨ (¬ μ.1 0 32 = 0 ∧ σ.1 7 5 = μ.1 3 20)
theorem zPlc.of {σ μ σ1 μ1 : zSt} (h : zPlc σ μ) (a : σ1.1 7 5 = σ.1 7 5) (b : σ1.1 36 6 = σ.1 36 6) (c : σ1.1 36 7 = σ.1 36 7) (d : μ1.1 3 20 = μ.1 3 20) (e : μ1.1 0 32 = μ.1 0 32) : zPlc σ1 μ1 := by
  unfold zPlc
  rw [a, b, c, d, e]
  exact h
section ZT4
variable {I : zSt → zSt → Prop} {σ μ : zSt}
theorem t_push (hI : zIoK I) (h : zTT I σ μ) {v w : Int32} (e : w = v) (hv : zr 0 65535 v) : zp2 (fX5_push σ v) (fX12_push μ w) (fun r r' => zTT I r r' ∧ zQ [15, 17, 19] [(36, 18, 18)] [] [] σ r ∧ zQ [5, 6] [(3, 18, 18), (3, 29, 32)] [] [] μ r') := by
  subst e
  unfold fX5_push fX12_push
  have e18 : μ.1 3 18 = σ.1 36 18 := h.eq (by decide)
  refine zp2_ckl (zp2_ckr (zp2_ckr (zp2_bvr (fun t1 f1 => zp2_ckr ?_))))
  have q0 : zQ [5, 6] [(3, 18, 18), (3, 29, 32)] [] [] μ t1 := by subst f1; exact zQ.wi zQ.rf rfl
  have hm1 : zM2 σ t1 := h.1.keep zQ.rf (by subst f1; exact zQ.wi zQ.rf rfl)
  have g1 : t1.1 3 18 = (σ.1 36 18 - 1) &&& 65535 := by subst f1; show (μ.1 3 18 - 1) &&& 65535 = _; rw [e18]
  refine zp2_wr hm1 (by rw [show zgi t1 3 (18 : Int32).toNatClampNeg = (σ.1 36 18 - 1) &&& 65535 from g1, z_mm]; rfl) (z_hi8 hv) (z_hi hv) (fun s1 t2 hm2 q1 q2 => ?_)
  have g2 : t2.1 3 18 = (σ.1 36 18 - 1) &&& 65535 := (q2.1 3 18 rfl).trans g1
  have c2 : s1.1 36 18 = σ.1 36 18 := q1.1 36 18 rfl
  refine zp2_ckl (zp2_ckr (zp2_ckr (zp2_bvr (fun t3 f3 => zp2_ckr ?_))))
  have hm3 : zM2 s1 t3 := hm2.keep zQ.rf (by subst f3; exact zQ.wi zQ.rf rfl)
  have q3 : zQ [5, 6] [(3, 18, 18), (3, 29, 32)] [] [] μ t3 := by subst f3; exact zQ.wi (q0.tr (q2.mono rfl rfl)) rfl
  have g3 : t3.1 3 18 = (σ.1 36 18 - 2) &&& 65535 := by subst f3; show (t2.1 3 18 - 1) &&& 65535 = _; rw [g2, z_m2]
  refine zp2_wr hm3 (by rw [show zgi t3 3 (18 : Int32).toNatClampNeg = (σ.1 36 18 - 2) &&& 65535 from g3, z_mm, show zgi s1 36 (18 : Int32).toNatClampNeg = σ.1 36 18 from c2]) rfl (z_r8 _) (fun s2 t4 hm4 q4 q5 => ?_)
  have c4 : s2.1 36 18 = σ.1 36 18 := (q4.1 36 18 rfl).trans c2
  refine zp2_ckl (zp2_ckl (zp2_bvl (fun s3 f4 => zp2_some ?_)))
  have qc : zQ [15, 17, 19] [(36, 18, 18)] [] [] σ s3 := by subst f4; exact zQ.wi ((q1.tr q4).mono rfl rfl) rfl
  have qm : zQ [5, 6] [(3, 18, 18), (3, 29, 32)] [] [] μ t4 := q3.tr (q5.mono rfl rfl)
  refine ⟨h.fin hI [18] (hm4.keep (by subst f4; exact zQ.wi zQ.rf rfl) zQ.rf) (qc.mono rfl rfl) (qm.mono rfl rfl) rfl (zAl1 ⟨?_, ?_⟩) (h.2.2.1.of (qc.1 7 4 rfl) (qm.1 0 31 rfl)), qc, qm⟩
  · rw [(q5.1 3 18 rfl).trans g3]
    subst f4
    show _ = (s2.1 36 18 - 2) &&& 65535
    rw [c4]
  · subst f4
    exact zrg_w (by decide) (by decide) (z_r16 _)
theorem t_pop (hI : zIoK I) (h : zTT I σ μ) : zp2 (fX5_pop σ ) (fX12_pop μ ) (fun r r' => zTT I r.1 r'.1 ∧ r'.2 = r.2 ∧ zr 0 65535 r.2 ∧ zQ [] [(36, 18, 18)] [] [] σ r.1 ∧ zQ [] [(3, 18, 18)] [] [] μ r'.1) := by
  unfold fX5_pop fX12_pop
  have e18 : μ.1 3 18 = σ.1 36 18 := h.eq (by decide)
  refine zp2_ckl (zp2_ckr (zp2_rd h.1 (by rw [show zgi μ 3 (18 : Int32).toNatClampNeg = zgi σ 36 (18 : Int32).toNatClampNeg from e18]) (fun v hv => ?_)))
  refine zp2_ckl (zp2_ckr (zp2_ckr (zp2_bvr (fun t1 f1 => zp2_ckr ?_))))
  have hm1 : zM2 σ t1 := h.1.keep zQ.rf (by subst f1; exact zQ.wi zQ.rf rfl)
  have g1 : t1.1 3 18 = (σ.1 36 18 + 1) &&& 65535 := by subst f1; show (μ.1 3 18 + 1) &&& 65535 = _; rw [e18]
  refine zp2_rd hm1 (by rw [show zgi t1 3 (18 : Int32).toNatClampNeg = (σ.1 36 18 + 1) &&& 65535 from g1, z_mm]; rfl) (fun w hw => ?_)
  refine zp2_bvl (fun y ey => zp2_bvr (fun z ez => ?_))
  refine zp2_ckl (zp2_ckl (zp2_bvl (fun s2 f2 => zp2_ckr (zp2_ckr (zp2_bvr (fun t2 f3 => zp2_some ?_))))))
  have qc : zQ [] [(36, 18, 18)] [] [] σ s2 := by subst f2; exact zQ.wi zQ.rf rfl
  have qm : zQ [] [(3, 18, 18)] [] [] μ t2 := by subst f3; subst f1; exact zQ.wi (zQ.wi zQ.rf rfl) rfl
  refine ⟨h.upd hI [18] qc qm rfl (zAl1 ⟨?_, ?_⟩), ez.trans ey.symm, by rw [ey]; exact z_rw hv hw, qc, qm⟩
  · subst f2
    subst f3
    show (t1.1 3 18 + 1) &&& 65535 = (σ.1 36 18 + 2) &&& 65535
    rw [g1, z_p1]
  · subst f2
    exact zrg_w (by decide) (by decide) (z_r16 _)
theorem t_pair0 (h : zTT I σ μ) (hF : zF σ μ) : zp2 (fX5_pairAt σ 0) (fX12_pair μ 0) (fun r r' => r.1 = σ ∧ r'.1 = μ ∧ r'.2 = r.2 ∧ zr 0 65535 r.2) := by
  unfold fX5_pairAt fX12_pair
  refine zp2_ckl (zp2_ckl (zp2_ckr (zp2_ckr (zp2_some ⟨rfl, rfl, ?_, z_rw' (h.b (j := 0) (by decide)) (h.b (j := 1) (by decide))⟩))))
  show (μ.1 3 0 <<< ((8 : Int32) &&& 31)) ||| μ.1 3 1 = (σ.1 36 0 <<< ((8 : Int32) &&& 31)) ||| σ.1 36 1
  rw [h.eq (by decide), show μ.1 3 1 = σ.1 36 1 from hF]
theorem t_pairTo0 (hI : zIoK I) (h : zTT I σ μ) {v w : Int32} (e : w = v) : zp2 (fX5_putPairAt σ 0 v) (fX12_pairTo μ 0 w) (fun r r' => zTT I r r' ∧ zF r r' ∧ zQ [] [(36, 0, 0), (36, 1, 1)] [] [] σ r ∧ zQ [] [(3, 0, 0), (3, 1, 1)] [] [] μ r') := by
  subst e
  unfold fX5_putPairAt fX12_pairTo
  refine zp2_ckl (zp2_bvl (fun s1 f1 => zp2_ckl (zp2_bvl (fun s2 f2 => zp2_ckr (zp2_bvr (fun t1 g1 => zp2_ckr (zp2_bvr (fun t2 g2 => zp2_some ?_))))))))
  subst f2
  subst f1
  subst g2
  subst g1
  exact ⟨h.upd hI [0, 1] (zQ.wi (zQ.wi zQ.rf rfl) rfl) (zQ.wi (zQ.wi zQ.rf rfl) rfl) rfl (zAl2 ⟨rfl, zrg_b (Or.inl (by decide)) (z_r8 _)⟩ ⟨rfl, zrg_b (Or.inl (by decide)) (z_r8 _)⟩), rfl, zQ.wi (zQ.wi zQ.rf rfl) rfl, zQ.wi (zQ.wi zQ.rf rfl) rfl⟩
theorem t_pair2 (h : zTT I σ μ) : zp2 (fX5_pairAt σ 2) (fX12_pair μ 2) (fun r r' => r.1 = σ ∧ r'.1 = μ ∧ r'.2 = r.2 ∧ zr 0 65535 r.2) := by
  unfold fX5_pairAt fX12_pair
  refine zp2_ckl (zp2_ckl (zp2_ckr (zp2_ckr (zp2_some ⟨rfl, rfl, ?_, z_rw' (h.b (j := 2) (by decide)) (h.b (j := 3) (by decide))⟩))))
  show (μ.1 3 2 <<< ((8 : Int32) &&& 31)) ||| μ.1 3 3 = (σ.1 36 2 <<< ((8 : Int32) &&& 31)) ||| σ.1 36 3
  rw [h.eq (by decide), h.eq (by decide)]
theorem t_pairTo2 (hI : zIoK I) (h : zTT I σ μ) {v w : Int32} (e : w = v) : zp2 (fX5_putPairAt σ 2 v) (fX12_pairTo μ 2 w) (fun r r' => zTT I r r' ∧ zQ [] [(36, 2, 2), (36, 3, 3)] [] [] σ r ∧ zQ [] [(3, 2, 2), (3, 3, 3)] [] [] μ r') := by
  subst e
  unfold fX5_putPairAt fX12_pairTo
  refine zp2_ckl (zp2_bvl (fun s1 f1 => zp2_ckl (zp2_bvl (fun s2 f2 => zp2_ckr (zp2_bvr (fun t1 g1 => zp2_ckr (zp2_bvr (fun t2 g2 => zp2_some ?_))))))))
  subst f2
  subst f1
  subst g2
  subst g1
  exact ⟨h.upd hI [2, 3] (zQ.wi (zQ.wi zQ.rf rfl) rfl) (zQ.wi (zQ.wi zQ.rf rfl) rfl) rfl (zAl2 ⟨rfl, zrg_b (Or.inl (by decide)) (z_r8 _)⟩ ⟨rfl, zrg_b (Or.inl (by decide)) (z_r8 _)⟩), zQ.wi (zQ.wi zQ.rf rfl) rfl, zQ.wi (zQ.wi zQ.rf rfl) rfl⟩
theorem t_pair4 (h : zTT I σ μ) : zp2 (fX5_pairAt σ 4) (fX12_pair μ 4) (fun r r' => r.1 = σ ∧ r'.1 = μ ∧ r'.2 = r.2 ∧ zr 0 65535 r.2) := by
  unfold fX5_pairAt fX12_pair
  refine zp2_ckl (zp2_ckl (zp2_ckr (zp2_ckr (zp2_some ⟨rfl, rfl, ?_, z_rw' (h.b (j := 4) (by decide)) (h.b (j := 5) (by decide))⟩))))
  show (μ.1 3 4 <<< ((8 : Int32) &&& 31)) ||| μ.1 3 5 = (σ.1 36 4 <<< ((8 : Int32) &&& 31)) ||| σ.1 36 5
  rw [h.eq (by decide), h.eq (by decide)]
theorem t_pairTo4 (hI : zIoK I) (h : zTT I σ μ) {v w : Int32} (e : w = v) : zp2 (fX5_putPairAt σ 4 v) (fX12_pairTo μ 4 w) (fun r r' => zTT I r r' ∧ zQ [] [(36, 4, 4), (36, 5, 5)] [] [] σ r ∧ zQ [] [(3, 4, 4), (3, 5, 5)] [] [] μ r') := by
  subst e
  unfold fX5_putPairAt fX12_pairTo
  refine zp2_ckl (zp2_bvl (fun s1 f1 => zp2_ckl (zp2_bvl (fun s2 f2 => zp2_ckr (zp2_bvr (fun t1 g1 => zp2_ckr (zp2_bvr (fun t2 g2 => zp2_some ?_))))))))
  subst f2
  subst f1
  subst g2
  subst g1
  exact ⟨h.upd hI [4, 5] (zQ.wi (zQ.wi zQ.rf rfl) rfl) (zQ.wi (zQ.wi zQ.rf rfl) rfl) rfl (zAl2 ⟨rfl, zrg_b (Or.inl (by decide)) (z_r8 _)⟩ ⟨rfl, zrg_b (Or.inl (by decide)) (z_r8 _)⟩), zQ.wi (zQ.wi zQ.rf rfl) rfl, zQ.wi (zQ.wi zQ.rf rfl) rfl⟩
theorem t_pair6 (h : zTT I σ μ) : zp2 (fX5_pairAt σ 6) (fX12_pair μ 6) (fun r r' => r.1 = σ ∧ r'.1 = μ ∧ r'.2 = r.2 ∧ zr 0 65535 r.2) := by
  unfold fX5_pairAt fX12_pair
  refine zp2_ckl (zp2_ckl (zp2_ckr (zp2_ckr (zp2_some ⟨rfl, rfl, ?_, z_rw' (h.b (j := 6) (by decide)) (h.b (j := 7) (by decide))⟩))))
  show (μ.1 3 6 <<< ((8 : Int32) &&& 31)) ||| μ.1 3 7 = (σ.1 36 6 <<< ((8 : Int32) &&& 31)) ||| σ.1 36 7
  rw [h.eq (by decide), h.eq (by decide)]
theorem t_pairTo6 (hI : zIoK I) (h : zTT I σ μ) {v w : Int32} (e : w = v) : zp2 (fX5_putPairAt σ 6 v) (fX12_pairTo μ 6 w) (fun r r' => zTT I r r' ∧ zQ [] [(36, 6, 6), (36, 7, 7)] [] [] σ r ∧ zQ [] [(3, 6, 6), (3, 7, 7)] [] [] μ r') := by
  subst e
  unfold fX5_putPairAt fX12_pairTo
  refine zp2_ckl (zp2_bvl (fun s1 f1 => zp2_ckl (zp2_bvl (fun s2 f2 => zp2_ckr (zp2_bvr (fun t1 g1 => zp2_ckr (zp2_bvr (fun t2 g2 => zp2_some ?_))))))))
  subst f2
  subst f1
  subst g2
  subst g1
  exact ⟨h.upd hI [6, 7] (zQ.wi (zQ.wi zQ.rf rfl) rfl) (zQ.wi (zQ.wi zQ.rf rfl) rfl) rfl (zAl2 ⟨rfl, zrg_b (Or.inl (by decide)) (z_r8 _)⟩ ⟨rfl, zrg_b (Or.inl (by decide)) (z_r8 _)⟩), zQ.wi (zQ.wi zQ.rf rfl) rfl, zQ.wi (zQ.wi zQ.rf rfl) rfl⟩
theorem t_hl (h : zTT I σ μ) : zp2 (fX5_hl σ ) (fX12_hl μ ) (fun r r' => r.1 = σ ∧ r'.1 = μ ∧ r'.2 = r.2 ∧ zr 0 65535 r.2) := by
  unfold fX5_hl fX12_hl fX5_hl_27 fX12_hl_25
  rcases h.2.2.1 with ⟨a, b⟩ | ⟨a, b⟩ | ⟨a, b⟩
  · exact zp2_ifl (fun _ => zp2_ifr (fun _ => zp2_bii (t_pair6 h) (fun s v t w q => zp2_some q)) (fun q => absurd b q)) (fun q => absurd a q)
  · refine zp2_ifl (fun q => absurd (a.symm.trans q) (by decide)) (fun _ => zp2_ifr (fun q => absurd (b.symm.trans q) (by decide)) (fun _ => ?_))
    rw [show zgi σ 7 4 = 16 from a, show zgi μ 0 31 = 16 from b]
    exact zp2_ckl (zp2_ckr (zp2_some ⟨rfl, rfl, h.eq (j := 16) (by decide), h.w (j := 16) (by decide) (by decide)⟩))
  · refine zp2_ifl (fun q => absurd (a.symm.trans q) (by decide)) (fun _ => zp2_ifr (fun q => absurd (b.symm.trans q) (by decide)) (fun _ => ?_))
    rw [show zgi σ 7 4 = 17 from a, show zgi μ 0 31 = 17 from b]
    exact zp2_ckl (zp2_ckr (zp2_some ⟨rfl, rfl, h.eq (j := 17) (by decide), h.w (j := 17) (by decide) (by decide)⟩))
theorem t_hlTo (hI : zIoK I) (h : zTT I σ μ) {v w : Int32} (e : w = v) : zp2 (fX5_putHl σ v) (fX12_hlTo μ w) (fun r r' => zTT I r r' ∧ zQ [] [(36, 6, 7), (36, 16, 17)] [] [] σ r ∧ zQ [] [(3, 6, 7), (3, 16, 17)] [] [] μ r') := by
  unfold fX5_putHl fX12_hlTo fX5_putHl_32 fX12_hlTo_30
  rcases h.2.2.1 with ⟨a, b⟩ | ⟨a, b⟩ | ⟨a, b⟩
  · exact zp2_ifl (fun _ => zp2_ifr (fun _ => zp2_buu (t_pairTo6 hI h e) (fun s t q => zp2_some ⟨q.1, q.2.1.mono rfl rfl, q.2.2.mono rfl rfl⟩)) (fun q => absurd b q)) (fun q => absurd a q)
  · refine zp2_ifl (fun q => absurd (a.symm.trans q) (by decide)) (fun _ => zp2_ifr (fun q => absurd (b.symm.trans q) (by decide)) (fun _ => ?_))
    rw [show zgi σ 7 4 = 16 from a, show zgi μ 0 31 = 16 from b]
    refine zp2_ckl (zp2_bvl (fun s f => zp2_ckr (zp2_bvr (fun t g => zp2_some ?_))))
    subst f
    subst g
    subst e
    exact ⟨h.upd hI [16] (zQ.wi zQ.rf rfl) (zQ.wi zQ.rf rfl) rfl (zAl1 ⟨rfl, zrg_w (by decide) (by decide) (z_r16 _)⟩), zQ.wi zQ.rf rfl, zQ.wi zQ.rf rfl⟩
  · refine zp2_ifl (fun q => absurd (a.symm.trans q) (by decide)) (fun _ => zp2_ifr (fun q => absurd (b.symm.trans q) (by decide)) (fun _ => ?_))
    rw [show zgi σ 7 4 = 17 from a, show zgi μ 0 31 = 17 from b]
    refine zp2_ckl (zp2_bvl (fun s f => zp2_ckr (zp2_bvr (fun t g => zp2_some ?_))))
    subst f
    subst g
    subst e
    exact ⟨h.upd hI [17] (zQ.wi zQ.rf rfl) (zQ.wi zQ.rf rfl) rfl (zAl1 ⟨rfl, zrg_w (by decide) (by decide) (z_r16 _)⟩), zQ.wi zQ.rf rfl, zQ.wi zQ.rf rfl⟩
theorem t_rp (h : zTT I σ μ) {p : Int32} (hp : zr 0 3 p) : zp2 (fX5_pair σ p) (fX12_rp μ p) (fun r r' => r.1 = σ ∧ r'.1 = μ ∧ r'.2 = r.2 ∧ zr 0 65535 r.2) := by
  unfold fX5_pair fX12_rp fX12_rp_44
  refine zp2_if (fun _ => zp2_bii (t_pair2 h) (fun s v t w q => zp2_some q)) (fun _ => zp2_if (fun _ => zp2_bii (t_pair4 h) (fun s v t w q => zp2_some q)) (fun _ => zp2_if (fun _ => zp2_bii (t_hl h) (fun s v t w q => zp2_some q)) (fun _ => ?_)))
  exact zp2_ckl (zp2_ckr (zp2_some ⟨rfl, rfl, h.eq (j := 18) (by decide), h.w (j := 18) (by decide) (by decide)⟩))
theorem t_rpTo (hI : zIoK I) (h : zTT I σ μ) {p v w : Int32} (e : w = v) : zp2 (fX5_putPair σ p v) (fX12_rpTo μ p w) (fun r r' => zTT I r r' ∧ zQ [] [(36, 2, 7), (36, 16, 18)] [] [] σ r ∧ zQ [] [(3, 2, 7), (3, 16, 18)] [] [] μ r') := by
  unfold fX5_putPair fX12_rpTo fX5_putPair_65 fX12_rpTo_51
  refine zp2_if (fun _ => zp2_buu (t_pairTo2 hI h e) (fun s t q => zp2_some ⟨q.1, q.2.1.mono rfl rfl, q.2.2.mono rfl rfl⟩)) (fun _ => zp2_if (fun _ => zp2_buu (t_pairTo4 hI h e) (fun s t q => zp2_some ⟨q.1, q.2.1.mono rfl rfl, q.2.2.mono rfl rfl⟩)) (fun _ => zp2_if (fun _ => zp2_buu (t_hlTo hI h e) (fun s t q => zp2_some ⟨q.1, q.2.1.mono rfl rfl, q.2.2.mono rfl rfl⟩)) (fun _ => ?_)))
  refine zp2_ckl (zp2_bvl (fun s f => zp2_ckr (zp2_bvr (fun t g => zp2_some ?_))))
  subst f
  subst g
  subst e
  exact ⟨h.upd hI [18] (zQ.wi zQ.rf rfl) (zQ.wi zQ.rf rfl) rfl (zAl1 ⟨rfl, zrg_w (by decide) (by decide) (z_r16 _)⟩), zQ.wi zQ.rf rfl, zQ.wi zQ.rf rfl⟩
theorem p_m (h : zTT I σ μ) (hp : zPlc σ μ) : zpc (fX12_m μ ) (fun r => r = (μ, σ.1 7 5)) := by
  unfold fX12_m fX12_m_23
  rcases hp with ⟨a, b⟩ | ⟨a, b⟩
  · refine zpc_if (fun _ => zpc_bi (P := fun r => r = (μ, σ.1 7 5)) ?_ (fun s v e => zpc_some e)) (fun q => absurd a q)
    unfold fX12_pair
    refine zpc_ck (zpc_ck (zpc_some ?_))
    show (μ, (μ.1 3 6 <<< ((8 : Int32) &&& 31)) ||| μ.1 3 7) = _
    rw [b, h.eq (by decide), h.eq (by decide)]
  · refine zpc_if (fun q => absurd q a) (fun _ => zpc_ck (zpc_some ?_))
    show (μ, μ.1 3 20) = _
    rw [b]
theorem zr_hd {x c : Int32} {a b : Int} (h : zr a b x) (hc : c.toInt = a) : x = c ∨ zr (a + 1) b x := by
  by_cases q : x.toInt = a
  · exact Or.inl (Int32.toInt_inj.mp (by omega))
  · exact Or.inr ⟨by have := h.1; omega, h.2⟩
theorem zr_no9 {x : Int32} {a b : Int} {P : Prop} (h : zr a b x) (c : b < a) : P := by have := h.1; have := h.2; exfalso; omega
theorem z_shr8 {w : Int32} (h : zr 0 65535 w) : zr 0 255 (w >>> ((8 : Int32) &&& 31)) := z_hi h
theorem t_one (h : zTT I σ μ) (hp : zPlc σ μ) {k : Int32} (hk : zr 0 7 k) : zp2 (fX5_one σ k) (fX12_r μ k) (fun r r' => r.1 = σ ∧ r'.1 = μ ∧ r'.2 = r.2 ∧ zr 0 255 r.2) := by
  unfold fX5_one fX12_r fX5_one_63 fX5_one_96 fX12_r_73 fX12_r_74
  rcases zr_hd (c := 0) hk rfl with e | hk
  · subst e
    refine zp2_ifl (fun q => absurd q (by decide)) (fun _ => zp2_ifl (fun q => absurd q (by decide)) (fun _ => zp2_ifl (fun q => absurd q (by decide)) (fun _ => zp2_ifl (fun q => absurd q (by decide)) (fun _ => zp2_ckl ?_))))
    exact zp2_ifr (fun q => absurd q (by decide)) (fun _ => zp2_ifr (fun q => absurd q (by decide)) (fun _ => zp2_ifr (fun _ => zp2_ckr (zp2_some ⟨rfl, rfl, h.eq (j := 2) (by decide), h.b (j := 2) (by decide)⟩)) (fun _ => zp2_ifr (fun _ => zp2_ckr (zp2_some ⟨rfl, rfl, h.eq (j := 2) (by decide), h.b (j := 2) (by decide)⟩)) (fun q => absurd (by decide) q))))
  rcases zr_hd (c := 1) hk rfl with e | hk
  · subst e
    refine zp2_ifl (fun q => absurd q (by decide)) (fun _ => zp2_ifl (fun q => absurd q (by decide)) (fun _ => zp2_ifl (fun q => absurd q (by decide)) (fun _ => zp2_ifl (fun q => absurd q (by decide)) (fun _ => zp2_ckl ?_))))
    exact zp2_ifr (fun q => absurd q (by decide)) (fun _ => zp2_ifr (fun q => absurd q (by decide)) (fun _ => zp2_ifr (fun _ => zp2_ckr (zp2_some ⟨rfl, rfl, h.eq (j := 3) (by decide), h.b (j := 3) (by decide)⟩)) (fun _ => zp2_ifr (fun _ => zp2_ckr (zp2_some ⟨rfl, rfl, h.eq (j := 3) (by decide), h.b (j := 3) (by decide)⟩)) (fun q => absurd (by decide) q))))
  rcases zr_hd (c := 2) hk rfl with e | hk
  · subst e
    refine zp2_ifl (fun q => absurd q (by decide)) (fun _ => zp2_ifl (fun q => absurd q (by decide)) (fun _ => zp2_ifl (fun q => absurd q (by decide)) (fun _ => zp2_ifl (fun q => absurd q (by decide)) (fun _ => zp2_ckl ?_))))
    exact zp2_ifr (fun q => absurd q (by decide)) (fun _ => zp2_ifr (fun q => absurd q (by decide)) (fun _ => zp2_ifr (fun _ => zp2_ckr (zp2_some ⟨rfl, rfl, h.eq (j := 4) (by decide), h.b (j := 4) (by decide)⟩)) (fun _ => zp2_ifr (fun _ => zp2_ckr (zp2_some ⟨rfl, rfl, h.eq (j := 4) (by decide), h.b (j := 4) (by decide)⟩)) (fun q => absurd (by decide) q))))
  rcases zr_hd (c := 3) hk rfl with e | hk
  · subst e
    refine zp2_ifl (fun q => absurd q (by decide)) (fun _ => zp2_ifl (fun q => absurd q (by decide)) (fun _ => zp2_ifl (fun q => absurd q (by decide)) (fun _ => zp2_ifl (fun q => absurd q (by decide)) (fun _ => zp2_ckl ?_))))
    exact zp2_ifr (fun q => absurd q (by decide)) (fun _ => zp2_ifr (fun q => absurd q (by decide)) (fun _ => zp2_ifr (fun _ => zp2_ckr (zp2_some ⟨rfl, rfl, h.eq (j := 5) (by decide), h.b (j := 5) (by decide)⟩)) (fun _ => zp2_ifr (fun _ => zp2_ckr (zp2_some ⟨rfl, rfl, h.eq (j := 5) (by decide), h.b (j := 5) (by decide)⟩)) (fun q => absurd (by decide) q))))
  rcases zr_hd (c := 4) hk rfl with e | hk
  · subst e
    rcases h.2.2.1 with ⟨a, b⟩ | ⟨a, b⟩ | ⟨a, b⟩
    · refine zp2_ifl (fun _ => zp2_ifl (fun _ => zp2_ckl ?_) (fun q => absurd a q)) (fun q => absurd rfl q)
      rw [show zgi μ 0 31 = 0 from b]
      exact zp2_ifr (fun q => absurd q (by decide)) (fun _ => zp2_ifr (fun q => absurd q (by decide)) (fun _ => zp2_ifr (fun _ => zp2_ckr (zp2_some ⟨rfl, rfl, h.eq (j := 6) (by decide), h.b (j := 6) (by decide)⟩)) (fun q => absurd (by decide) q)))
    · refine zp2_ifl (fun _ => zp2_ifl (fun q => absurd (a.symm.trans q) (by decide)) (fun _ => zp2_ckl ?_)) (fun q => absurd rfl q)
      rw [show zgi σ 7 4 = 16 from a, show zgi μ 0 31 = 16 from b]
      refine zp2_ifr (fun q => absurd q (by decide)) (fun _ => zp2_ifr (fun q => absurd q (by decide)) (fun _ => zp2_ifr (fun q => absurd q (by decide)) (fun _ => zp2_ifr (fun q => absurd q (by decide)) (fun _ => zp2_ifr (fun _ => zp2_ckr (zp2_some ⟨rfl, rfl, ?_, z_shr8 (h.w (j := 16) (by decide) (by decide))⟩)) (fun q => absurd rfl q)))))
      show μ.1 3 16 >>> ((8 : Int32) &&& 31) = σ.1 36 16 >>> ((8 : Int32) &&& 31)
      rw [h.eq (by decide)]
    · refine zp2_ifl (fun _ => zp2_ifl (fun q => absurd (a.symm.trans q) (by decide)) (fun _ => zp2_ckl ?_)) (fun q => absurd rfl q)
      rw [show zgi σ 7 4 = 17 from a, show zgi μ 0 31 = 17 from b]
      refine zp2_ifr (fun q => absurd q (by decide)) (fun _ => zp2_ifr (fun q => absurd q (by decide)) (fun _ => zp2_ifr (fun q => absurd q (by decide)) (fun _ => zp2_ifr (fun q => absurd q (by decide)) (fun _ => zp2_ifr (fun _ => zp2_ckr (zp2_some ⟨rfl, rfl, ?_, z_shr8 (h.w (j := 17) (by decide) (by decide))⟩)) (fun q => absurd rfl q)))))
      show μ.1 3 17 >>> ((8 : Int32) &&& 31) = σ.1 36 17 >>> ((8 : Int32) &&& 31)
      rw [h.eq (by decide)]
  rcases zr_hd (c := 5) hk rfl with e | hk
  · subst e
    rcases h.2.2.1 with ⟨a, b⟩ | ⟨a, b⟩ | ⟨a, b⟩
    · refine zp2_ifl (fun q => absurd q (by decide)) (fun _ => zp2_ifl (fun _ => zp2_ifl (fun _ => zp2_ckl ?_) (fun q => absurd a q)) (fun q => absurd rfl q))
      rw [show zgi μ 0 31 = 0 from b]
      exact zp2_ifr (fun q => absurd q (by decide)) (fun _ => zp2_ifr (fun q => absurd q (by decide)) (fun _ => zp2_ifr (fun _ => zp2_ckr (zp2_some ⟨rfl, rfl, h.eq (j := 7) (by decide), h.b (j := 7) (by decide)⟩)) (fun q => absurd (by decide) q)))
    · refine zp2_ifl (fun q => absurd q (by decide)) (fun _ => zp2_ifl (fun _ => zp2_ifl (fun q => absurd (a.symm.trans q) (by decide)) (fun _ => zp2_ckl ?_)) (fun q => absurd rfl q))
      rw [show zgi σ 7 4 = 16 from a, show zgi μ 0 31 = 16 from b]
      refine zp2_ifr (fun q => absurd q (by decide)) (fun _ => zp2_ifr (fun q => absurd q (by decide)) (fun _ => zp2_ifr (fun q => absurd q (by decide)) (fun _ => zp2_ifr (fun q => absurd q (by decide)) (fun _ => zp2_ifr (fun q => absurd q (by decide)) (fun _ => zp2_ckr (zp2_some ⟨rfl, rfl, ?_, z_r8 _⟩))))))
      show μ.1 3 16 &&& 255 = σ.1 36 16 &&& 255
      rw [h.eq (by decide)]
    · refine zp2_ifl (fun q => absurd q (by decide)) (fun _ => zp2_ifl (fun _ => zp2_ifl (fun q => absurd (a.symm.trans q) (by decide)) (fun _ => zp2_ckl ?_)) (fun q => absurd rfl q))
      rw [show zgi σ 7 4 = 17 from a, show zgi μ 0 31 = 17 from b]
      refine zp2_ifr (fun q => absurd q (by decide)) (fun _ => zp2_ifr (fun q => absurd q (by decide)) (fun _ => zp2_ifr (fun q => absurd q (by decide)) (fun _ => zp2_ifr (fun q => absurd q (by decide)) (fun _ => zp2_ifr (fun q => absurd q (by decide)) (fun _ => zp2_ckr (zp2_some ⟨rfl, rfl, ?_, z_r8 _⟩))))))
      show μ.1 3 17 &&& 255 = σ.1 36 17 &&& 255
      rw [h.eq (by decide)]
  rcases zr_hd (c := 6) hk rfl with e | hk
  · subst e
    refine zp2_ifl (fun q => absurd q (by decide)) (fun _ => zp2_ifl (fun q => absurd q (by decide)) (fun _ => zp2_ifl (fun _ => zp2_ifr (fun _ => ?_) (fun q => absurd rfl q)) (fun q => absurd rfl q)))
    refine zp2_bir (p_m h hp) (fun t w et => ?_)
    cases et
    exact zp2_rd h.1 rfl (fun v hv => zp2_some ⟨rfl, rfl, rfl, hv⟩)
  rcases zr_hd (c := 7) hk rfl with e | hk
  · subst e
    refine zp2_ifl (fun q => absurd q (by decide)) (fun _ => zp2_ifl (fun q => absurd q (by decide)) (fun _ => zp2_ifl (fun q => absurd q (by decide)) (fun _ => zp2_ifl (fun _ => zp2_ckl ?_) (fun q => absurd rfl q))))
    exact zp2_ifr (fun q => absurd q (by decide)) (fun _ => zp2_ifr (fun _ => zp2_ckr (zp2_some ⟨rfl, rfl, h.eq (j := 0) (by decide), h.b (j := 0) (by decide)⟩)) (fun q => absurd rfl q))
  exact zr_no9 hk (by decide)
theorem t_putOne (hI : zIoK I) (h : zTT I σ μ) (hp : zPlc σ μ) {k v w : Int32} (hk : zr 0 7 k) (e : w &&& 255 = v) (hv : zr 0 255 v) : zp2 (fX5_putOne σ k v) (fX12_rTo μ k w) (fun r r' => zTT I r r' ∧ zQ [15, 17, 19] [(36, 0, 0), (36, 2, 7), (36, 16, 17)] [] [] σ r ∧ zQ [5, 6] [(3, 0, 0), (3, 2, 7), (3, 16, 17), (3, 29, 32)] [] [] μ r') := by
  unfold fX5_putOne fX12_rTo fX5_putOne_88 fX12_rTo_113 fX12_rTo_104 fX12_rTo_100 fX5_putPairHalf fX5_putPairHalf_68 fX5_putPairHalf_69
  refine zp2_bvr (fun y ey => ?_)
  have ey : y = v := ey.trans e
  subst ey
  rcases zr_hd (c := 0) hk rfl with e1 | hk
  · subst e1
    have fin : zp2 (zck (zin (2 + (0 &&& 3)) 29) (zbv (zsi σ 36 ((2 + (0 &&& 3) : Int32).toNatClampNeg) y) (fun σ5 => some σ5))) (zck (zin (2 + 0) 1048) (zbv (zsi μ 3 ((2 + 0 : Int32).toNatClampNeg) y) (fun σ1 => some σ1))) (fun r r' => zTT I r r' ∧ zQ [15, 17, 19] [(36, 0, 0), (36, 2, 7), (36, 16, 17)] [] [] σ r ∧ zQ [5, 6] [(3, 0, 0), (3, 2, 7), (3, 16, 17), (3, 29, 32)] [] [] μ r') := by
      refine zp2_ckl (zp2_bvl (fun s f => zp2_ckr (zp2_bvr (fun t g => zp2_some ?_))))
      subst f
      subst g
      exact ⟨h.upd hI [2] (zQ.wi zQ.rf rfl) (zQ.wi zQ.rf rfl) rfl (zAl1 ⟨rfl, zrg_b (Or.inl (by decide)) hv⟩), zQ.wi zQ.rf rfl, zQ.wi zQ.rf rfl⟩
    exact zp2_ifl (fun q => absurd q (by decide)) (fun _ => zp2_ifl (fun q => absurd q (by decide)) (fun _ => zp2_ifl (fun q => absurd q (by decide)) (fun _ => zp2_ifl (fun q => absurd q (by decide)) (fun _ => zp2_ifr (fun q => absurd q (by decide)) (fun _ => zp2_ifr (fun q => absurd q (by decide)) (fun _ => zp2_ifr (fun _ => fin) (fun _ => zp2_ifr (fun _ => fin) (fun q => absurd (by decide) q))))))))
  rcases zr_hd (c := 1) hk rfl with e1 | hk
  · subst e1
    have fin : zp2 (zck (zin (2 + (1 &&& 3)) 29) (zbv (zsi σ 36 ((2 + (1 &&& 3) : Int32).toNatClampNeg) y) (fun σ5 => some σ5))) (zck (zin (2 + 1) 1048) (zbv (zsi μ 3 ((2 + 1 : Int32).toNatClampNeg) y) (fun σ1 => some σ1))) (fun r r' => zTT I r r' ∧ zQ [15, 17, 19] [(36, 0, 0), (36, 2, 7), (36, 16, 17)] [] [] σ r ∧ zQ [5, 6] [(3, 0, 0), (3, 2, 7), (3, 16, 17), (3, 29, 32)] [] [] μ r') := by
      refine zp2_ckl (zp2_bvl (fun s f => zp2_ckr (zp2_bvr (fun t g => zp2_some ?_))))
      subst f
      subst g
      exact ⟨h.upd hI [3] (zQ.wi zQ.rf rfl) (zQ.wi zQ.rf rfl) rfl (zAl1 ⟨rfl, zrg_b (Or.inl (by decide)) hv⟩), zQ.wi zQ.rf rfl, zQ.wi zQ.rf rfl⟩
    exact zp2_ifl (fun q => absurd q (by decide)) (fun _ => zp2_ifl (fun q => absurd q (by decide)) (fun _ => zp2_ifl (fun q => absurd q (by decide)) (fun _ => zp2_ifl (fun q => absurd q (by decide)) (fun _ => zp2_ifr (fun q => absurd q (by decide)) (fun _ => zp2_ifr (fun q => absurd q (by decide)) (fun _ => zp2_ifr (fun _ => fin) (fun _ => zp2_ifr (fun _ => fin) (fun q => absurd (by decide) q))))))))
  rcases zr_hd (c := 2) hk rfl with e1 | hk
  · subst e1
    have fin : zp2 (zck (zin (2 + (2 &&& 3)) 29) (zbv (zsi σ 36 ((2 + (2 &&& 3) : Int32).toNatClampNeg) y) (fun σ5 => some σ5))) (zck (zin (2 + 2) 1048) (zbv (zsi μ 3 ((2 + 2 : Int32).toNatClampNeg) y) (fun σ1 => some σ1))) (fun r r' => zTT I r r' ∧ zQ [15, 17, 19] [(36, 0, 0), (36, 2, 7), (36, 16, 17)] [] [] σ r ∧ zQ [5, 6] [(3, 0, 0), (3, 2, 7), (3, 16, 17), (3, 29, 32)] [] [] μ r') := by
      refine zp2_ckl (zp2_bvl (fun s f => zp2_ckr (zp2_bvr (fun t g => zp2_some ?_))))
      subst f
      subst g
      exact ⟨h.upd hI [4] (zQ.wi zQ.rf rfl) (zQ.wi zQ.rf rfl) rfl (zAl1 ⟨rfl, zrg_b (Or.inl (by decide)) hv⟩), zQ.wi zQ.rf rfl, zQ.wi zQ.rf rfl⟩
    exact zp2_ifl (fun q => absurd q (by decide)) (fun _ => zp2_ifl (fun q => absurd q (by decide)) (fun _ => zp2_ifl (fun q => absurd q (by decide)) (fun _ => zp2_ifl (fun q => absurd q (by decide)) (fun _ => zp2_ifr (fun q => absurd q (by decide)) (fun _ => zp2_ifr (fun q => absurd q (by decide)) (fun _ => zp2_ifr (fun _ => fin) (fun _ => zp2_ifr (fun _ => fin) (fun q => absurd (by decide) q))))))))
  rcases zr_hd (c := 3) hk rfl with e1 | hk
  · subst e1
    have fin : zp2 (zck (zin (2 + (3 &&& 3)) 29) (zbv (zsi σ 36 ((2 + (3 &&& 3) : Int32).toNatClampNeg) y) (fun σ5 => some σ5))) (zck (zin (2 + 3) 1048) (zbv (zsi μ 3 ((2 + 3 : Int32).toNatClampNeg) y) (fun σ1 => some σ1))) (fun r r' => zTT I r r' ∧ zQ [15, 17, 19] [(36, 0, 0), (36, 2, 7), (36, 16, 17)] [] [] σ r ∧ zQ [5, 6] [(3, 0, 0), (3, 2, 7), (3, 16, 17), (3, 29, 32)] [] [] μ r') := by
      refine zp2_ckl (zp2_bvl (fun s f => zp2_ckr (zp2_bvr (fun t g => zp2_some ?_))))
      subst f
      subst g
      exact ⟨h.upd hI [5] (zQ.wi zQ.rf rfl) (zQ.wi zQ.rf rfl) rfl (zAl1 ⟨rfl, zrg_b (Or.inl (by decide)) hv⟩), zQ.wi zQ.rf rfl, zQ.wi zQ.rf rfl⟩
    exact zp2_ifl (fun q => absurd q (by decide)) (fun _ => zp2_ifl (fun q => absurd q (by decide)) (fun _ => zp2_ifl (fun q => absurd q (by decide)) (fun _ => zp2_ifl (fun q => absurd q (by decide)) (fun _ => zp2_ifr (fun q => absurd q (by decide)) (fun _ => zp2_ifr (fun q => absurd q (by decide)) (fun _ => zp2_ifr (fun _ => fin) (fun _ => zp2_ifr (fun _ => fin) (fun q => absurd (by decide) q))))))))
  rcases zr_hd (c := 4) hk rfl with e1 | hk
  · subst e1
    rcases h.2.2.1 with ⟨a, b⟩ | ⟨a, b⟩ | ⟨a, b⟩
    · refine zp2_ifl (fun _ => ?_) (fun q => absurd rfl q)
      rw [show zgi μ 0 31 = 0 from b]
      refine zp2_ifr (fun q => absurd q (by decide)) (fun _ => zp2_ifr (fun q => absurd q (by decide)) (fun _ => zp2_ifr (fun _ => ?_) (fun q => absurd (by decide) q)))
      refine zp2_bul (P := fun r => r = zsi σ 36 6 y) (zpc_if (fun _ => zpc_ck (zpc_bv (fun s f => zpc_some f))) (fun q => absurd a q)) (fun s f => zp2_ckr (zp2_bvr (fun t g => zp2_some ?_)))
      subst f
      subst g
      exact ⟨h.upd hI [6] (zQ.wi zQ.rf rfl) (zQ.wi zQ.rf rfl) rfl (zAl1 ⟨rfl, zrg_b (Or.inl (by decide)) hv⟩), zQ.wi zQ.rf rfl, zQ.wi zQ.rf rfl⟩
    · refine zp2_ifl (fun _ => ?_) (fun q => absurd rfl q)
      refine zp2_bul (P := fun r => r = zsi σ 36 16 ((y <<< ((8 : Int32) &&& 31)) ||| (σ.1 36 16 &&& 255))) ?_ (fun s f => ?_)
      · refine zpc_if (fun q => absurd (a.symm.trans q) (by decide)) (fun _ => zpc_if (fun _ => zpc_ck ?_) (fun q => absurd rfl q))
        rw [show zgi σ 7 4 = 16 from a]
        exact zpc_ck (zpc_bv (fun s f => zpc_some f))
      rw [show zgi μ 0 31 = 16 from b]
      refine zp2_ifr (fun q => absurd q (by decide)) (fun _ => zp2_ifr (fun q => absurd q (by decide)) (fun _ => zp2_ifr (fun q => absurd q (by decide)) (fun _ => zp2_ifr (fun q => absurd q (by decide)) (fun _ => zp2_ifr (fun _ => zp2_ckr ?_) (fun q => absurd rfl q)))))
      refine zp2_ckr (zp2_bvr (fun t g => zp2_some ?_))
      subst f
      subst g
      refine ⟨h.upd hI [16] (zQ.wi zQ.rf rfl) (zQ.wi zQ.rf rfl) rfl (zAl1 ⟨?_, zrg_w (by decide) (by decide) (z_rw' hv (z_r8 _))⟩), zQ.wi zQ.rf rfl, zQ.wi zQ.rf rfl⟩
      show (y <<< ((8 : Int32) &&& 31)) ||| (μ.1 3 16 &&& 255) = (y <<< ((8 : Int32) &&& 31)) ||| (σ.1 36 16 &&& 255)
      rw [h.eq (by decide)]
    · refine zp2_ifl (fun _ => ?_) (fun q => absurd rfl q)
      refine zp2_bul (P := fun r => r = zsi σ 36 17 ((y <<< ((8 : Int32) &&& 31)) ||| (σ.1 36 17 &&& 255))) ?_ (fun s f => ?_)
      · refine zpc_if (fun q => absurd (a.symm.trans q) (by decide)) (fun _ => zpc_if (fun _ => zpc_ck ?_) (fun q => absurd rfl q))
        rw [show zgi σ 7 4 = 17 from a]
        exact zpc_ck (zpc_bv (fun s f => zpc_some f))
      rw [show zgi μ 0 31 = 17 from b]
      refine zp2_ifr (fun q => absurd q (by decide)) (fun _ => zp2_ifr (fun q => absurd q (by decide)) (fun _ => zp2_ifr (fun q => absurd q (by decide)) (fun _ => zp2_ifr (fun q => absurd q (by decide)) (fun _ => zp2_ifr (fun _ => zp2_ckr ?_) (fun q => absurd rfl q)))))
      refine zp2_ckr (zp2_bvr (fun t g => zp2_some ?_))
      subst f
      subst g
      refine ⟨h.upd hI [17] (zQ.wi zQ.rf rfl) (zQ.wi zQ.rf rfl) rfl (zAl1 ⟨?_, zrg_w (by decide) (by decide) (z_rw' hv (z_r8 _))⟩), zQ.wi zQ.rf rfl, zQ.wi zQ.rf rfl⟩
      show (y <<< ((8 : Int32) &&& 31)) ||| (μ.1 3 17 &&& 255) = (y <<< ((8 : Int32) &&& 31)) ||| (σ.1 36 17 &&& 255)
      rw [h.eq (by decide)]
  rcases zr_hd (c := 5) hk rfl with e1 | hk
  · subst e1
    rcases h.2.2.1 with ⟨a, b⟩ | ⟨a, b⟩ | ⟨a, b⟩
    · refine zp2_ifl (fun q => absurd q (by decide)) (fun _ => zp2_ifl (fun _ => ?_) (fun q => absurd rfl q))
      rw [show zgi μ 0 31 = 0 from b]
      refine zp2_ifr (fun q => absurd q (by decide)) (fun _ => zp2_ifr (fun q => absurd q (by decide)) (fun _ => zp2_ifr (fun _ => ?_) (fun q => absurd (by decide) q)))
      refine zp2_bul (P := fun r => r = zsi σ 36 7 y) (zpc_if (fun _ => zpc_ck (zpc_bv (fun s f => zpc_some f))) (fun q => absurd a q)) (fun s f => zp2_ckr (zp2_bvr (fun t g => zp2_some ?_)))
      subst f
      subst g
      exact ⟨h.upd hI [7] (zQ.wi zQ.rf rfl) (zQ.wi zQ.rf rfl) rfl (zAl1 ⟨rfl, zrg_b (Or.inl (by decide)) hv⟩), zQ.wi zQ.rf rfl, zQ.wi zQ.rf rfl⟩
    · refine zp2_ifl (fun q => absurd q (by decide)) (fun _ => zp2_ifl (fun _ => ?_) (fun q => absurd rfl q))
      refine zp2_bul (P := fun r => r = zsi σ 36 16 ((σ.1 36 16 &&& 65280) ||| y)) ?_ (fun s f => ?_)
      · refine zpc_if (fun q => absurd (a.symm.trans q) (by decide)) (fun _ => zpc_if (fun q => absurd q (by decide)) (fun _ => zpc_ck ?_))
        rw [show zgi σ 7 4 = 16 from a]
        exact zpc_ck (zpc_bv (fun s f => zpc_some f))
      rw [show zgi μ 0 31 = 16 from b]
      refine zp2_ifr (fun q => absurd q (by decide)) (fun _ => zp2_ifr (fun q => absurd q (by decide)) (fun _ => zp2_ifr (fun q => absurd q (by decide)) (fun _ => zp2_ifr (fun q => absurd q (by decide)) (fun _ => zp2_ifr (fun q => absurd q (by decide)) (fun _ => zp2_ckr ?_)))))
      refine zp2_ckr (zp2_bvr (fun t g => zp2_some ?_))
      subst f
      subst g
      refine ⟨h.upd hI [16] (zQ.wi zQ.rf rfl) (zQ.wi zQ.rf rfl) rfl (zAl1 ⟨?_, zrg_w (by decide) (by decide) (zr_or (lo := 0) (hi := 65535) 16 (zr_andr (lo := 0) (hi := 65280) (zr_c (lo := 65280) (hi := 65280) (by decide)) (by decide)) hv (by decide))⟩), zQ.wi zQ.rf rfl, zQ.wi zQ.rf rfl⟩
      show (μ.1 3 16 &&& 65280) ||| y = (σ.1 36 16 &&& 65280) ||| y
      rw [h.eq (by decide)]
    · refine zp2_ifl (fun q => absurd q (by decide)) (fun _ => zp2_ifl (fun _ => ?_) (fun q => absurd rfl q))
      refine zp2_bul (P := fun r => r = zsi σ 36 17 ((σ.1 36 17 &&& 65280) ||| y)) ?_ (fun s f => ?_)
      · refine zpc_if (fun q => absurd (a.symm.trans q) (by decide)) (fun _ => zpc_if (fun q => absurd q (by decide)) (fun _ => zpc_ck ?_))
        rw [show zgi σ 7 4 = 17 from a]
        exact zpc_ck (zpc_bv (fun s f => zpc_some f))
      rw [show zgi μ 0 31 = 17 from b]
      refine zp2_ifr (fun q => absurd q (by decide)) (fun _ => zp2_ifr (fun q => absurd q (by decide)) (fun _ => zp2_ifr (fun q => absurd q (by decide)) (fun _ => zp2_ifr (fun q => absurd q (by decide)) (fun _ => zp2_ifr (fun q => absurd q (by decide)) (fun _ => zp2_ckr ?_)))))
      refine zp2_ckr (zp2_bvr (fun t g => zp2_some ?_))
      subst f
      subst g
      refine ⟨h.upd hI [17] (zQ.wi zQ.rf rfl) (zQ.wi zQ.rf rfl) rfl (zAl1 ⟨?_, zrg_w (by decide) (by decide) (zr_or (lo := 0) (hi := 65535) 16 (zr_andr (lo := 0) (hi := 65280) (zr_c (lo := 65280) (hi := 65280) (by decide)) (by decide)) hv (by decide))⟩), zQ.wi zQ.rf rfl, zQ.wi zQ.rf rfl⟩
      show (μ.1 3 17 &&& 65280) ||| y = (σ.1 36 17 &&& 65280) ||| y
      rw [h.eq (by decide)]
  rcases zr_hd (c := 6) hk rfl with e1 | hk
  · subst e1
    refine zp2_ifl (fun q => absurd q (by decide)) (fun _ => zp2_ifl (fun q => absurd q (by decide)) (fun _ => zp2_ifl (fun _ => zp2_ifr (fun _ => ?_) (fun q => absurd rfl q)) (fun q => absurd rfl q)))
    refine zp2_bir (p_m h hp) (fun t w et => ?_)
    cases et
    refine zp2_wr h.1 rfl (z_m255 hv) hv (fun s t hm q1 q2 => zp2_some ⟨h.fin hI [] hm (q1.mono rfl rfl) (q2.mono rfl rfl) rfl zAl0 (h.2.2.1.of (q1.1 7 4 rfl) (q2.1 0 31 rfl)), q1.mono rfl rfl, q2.mono rfl rfl⟩)
  rcases zr_hd (c := 7) hk rfl with e1 | hk
  · subst e1
    refine zp2_ifl (fun q => absurd q (by decide)) (fun _ => zp2_ifl (fun q => absurd q (by decide)) (fun _ => zp2_ifl (fun q => absurd q (by decide)) (fun _ => zp2_ifl (fun _ => zp2_ckl ?_) (fun q => absurd rfl q))))
    refine zp2_ifr (fun q => absurd q (by decide)) (fun _ => zp2_ifr (fun _ => zp2_ckr ?_) (fun q => absurd rfl q))
    refine zp2_bvl (fun s f => zp2_bvr (fun t g => zp2_some ?_))
    subst f
    subst g
    exact ⟨h.upd hI [0] (zQ.wi zQ.rf rfl) (zQ.wi zQ.rf rfl) rfl (zAl1 ⟨rfl, zrg_b (Or.inl (by decide)) hv⟩), zQ.wi zQ.rf rfl, zQ.wi zQ.rf rfl⟩
  exact zr_no9 hk (by decide)
end ZT4
end ZJN5
section ZJN6
/-! ARITHMETIC -/
noncomputable def bc (v : Int32) : Bool := decide (¬ v = 0)
noncomputable def d7 (x : Int32) : Bool := bc (if x &&& 128 = 0 then 0 else 1)
noncomputable def d6 (x : Int32) : Bool := bc (if x = 0 then 1 else 0)
noncomputable def d5 (x : Int32) : Bool := bc (if x &&& 32 = 0 then 0 else 1)
noncomputable def d3 (x : Int32) : Bool := bc (if x &&& 8 = 0 then 0 else 1)
theorem fl_xy {b7 b6 b5 b4 b3 b2 b1 b0 : Bool} {x : Int32} : gxy (zfl b7 b6 b5 b4 b3 b2 b1 b0) x = zfl b7 b6 (d5 x) b4 (d3 x) b2 b1 b0 := by
  unfold gxy
  rw [pt_5, pt_3]
  rfl
theorem fl_by {b7 b6 b5 b4 b3 b2 b1 b0 : Bool} {x : Int32} : gby (zfl b7 b6 b5 b4 b3 b2 b1 b0) x = zfl (d7 x) (d6 x) (d5 x) b4 (d3 x) b2 b1 b0 := by
  unfold gby
  rw [pt_7, pt_6, fl_xy]
  rfl
theorem zfl_r : ∀ b7 b6 b5 b4 b3 b2 b1 b0 : Bool, zr 0 255 (zfl b7 b6 b5 b4 b3 b2 b1 b0) := by
  unfold zr
  decide
section ZFL2
variable {μ σ : zSt} {f b v x : Int32}
theorem p_put' : zpc (fX12_put μ b v) (fun r => r = zsi μ 3 1 (pt (μ.1 3 1) b v)) := by
  have h := p_put (μ := μ) (f := μ.1 3 1) (b := b) (v := v)
  rw [zsi_own] at h
  exact h
theorem p_xy' : zpc (fX12_xy μ x) (fun r => r = zsi μ 3 1 (gxy (μ.1 3 1) x)) := by
  have h := p_xy (μ := μ) (f := μ.1 3 1) (x := x)
  rw [zsi_own] at h
  exact h
theorem p_by' : zpc (fX12_by μ x) (fun r => r = zsi μ 3 1 (gby (μ.1 3 1) x)) := by
  have h := p_by (μ := μ) (f := μ.1 3 1) (x := x)
  rw [zsi_own] at h
  exact h
theorem zpc_j3 {α : Type} {c c2 : Prop} {d : Decidable c} {d2 : Decidable c2} {K : Int32 → Option α} {Q : α → Prop} (h : ∀ v, v = @ite _ c d 1 (@ite _ c2 d2 0 1) → zpc (K v) Q) : zpc (@ite _ c d (K 1) (@ite _ c2 d2 (K 0) (K 1))) Q := by
  by_cases q : c
  · rw [if_pos q]; exact h 1 (if_pos q).symm
  · rw [if_neg q]
    by_cases q2 : c2
    · rw [if_pos q2]; exact h 0 (by rw [if_neg q, if_pos q2])
    · rw [if_neg q2]; exact h 1 (by rw [if_neg q, if_neg q2])
/-! the reference: and, xor, or -/
theorem p_logM {y A : Int32} (hy : y = 4 ∨ ¬ y = 4) : zpc (fX12_does_48 μ y A 0) (fun r => r = zsi (zsi μ 3 0 A) 3 1 (pt (pt (pt (pt (gby (μ.1 3 1) A) 4 (if y = 4 then 1 else 0)) 2 (gev A)) 1 0) 0 0)) := by
  unfold fX12_does_48
  refine zpc_ck (zpc_bv (fun s es => zpc_ck (zpc_bu p_by' (fun t et => ?_))))
  have eA : zgi s 3 (0 : Int32).toNatClampNeg = A := by subst es; rfl
  have eF : s.1 3 1 = μ.1 3 1 := by subst es; rfl
  have es' : s = zsi μ 3 0 A := es
  rw [eA, eF] at et
  subst et
  refine zpc_j (K := fun v => fX12_does_71 (zsi s 3 1 (gby (μ.1 3 1) A)) v 4) (a := 1) (b := 0) (fun v ev => ?_)
  unfold fX12_does_71
  refine zpc_bu p_put (fun t et => ?_)
  subst et
  refine zpc_ck (zpc_bi p_even (fun t w et => ?_))
  cases et
  refine zpc_bu p_put (fun t et => ?_)
  subst et
  refine zpc_bu p_put (fun t et => ?_)
  subst et
  refine zpc_bu p_put (fun t et => zpc_some ?_)
  rw [et, ev]
  have g : zgi (zsi s 3 1 (pt (gby (μ.1 3 1) A) 4 (if y = 4 then 1 else 0))) 3 (0 : Int32).toNatClampNeg = A := eA
  rw [g, es']
end ZFL2
/-! the reference: sums and differences -/
noncomputable def hA (a b c : Int32) : Int32 := if ((a &&& 15) + (b &&& 15)) + c ≤ 15 then 0 else 1
noncomputable def hS (a b c : Int32) : Int32 := if 0 ≤ ((a &&& 15) - (b &&& 15)) - c then 0 else 1
noncomputable def cX (v : Int32) : Int32 := if v < 0 then 1 else if v ≤ 255 then 0 else 1
noncomputable def sg (v : Int32) : Int32 := if 128 ≤ v then v - 256 else v
noncomputable def oX (s : Int32) : Int32 := if s < (-128) then 1 else if s ≤ 127 then 0 else 1
noncomputable def mF (f h c w o n : Int32) : Int32 := pt (pt (gby (pt (pt f 4 h) 0 c) w) 2 o) 1 n
theorem fl_mF {f h c w o n : Int32} (hf : zr 0 255 f) : mF f h c w o n = zfl (d7 w) (d6 w) (d5 w) (bc h) (d3 w) (bc o) (bc n) (bc c) := by
  unfold mF
  rw [fl_of hf, pt_4, pt_0, fl_by, pt_2, pt_1]
  rfl
section ZAR
variable {μ σ : zSt} {a b c y : Int32}
theorem p_addM (h7 : ¬ y = 7) : zpc (fX12_does_154 μ y b a c 1 ((a + b) + c)) (fun r => r = zsi (zsi μ 3 1 (mF (μ.1 3 1) (hA a b c) (cX ((a + b) + c)) (((a + b) + c) &&& 255) (oX ((sg a + sg b) + c)) 0)) 3 0 (((a + b) + c) &&& 255)) := by
  unfold fX12_does_154
  refine zpc_if (fun q => absurd q (by decide)) (fun _ => ?_)
  refine zpc_j (K := fun h => fX12_does_208 μ y b a c 1 ((a + b) + c) h 4) (a := 0) (b := 1) (fun h eh => ?_)
  have eh : h = hA a b c := eh
  unfold fX12_does_208
  refine zpc_bu p_put' (fun t et => ?_)
  subst et
  unfold fX12_does_226
  refine zpc_j3 (K := fun w => fX12_does_231 (zsi μ 3 1 (pt (μ.1 3 1) 4 h)) y b a c 1 ((a + b) + c) w 0) (fun w ew => ?_)
  have ew : w = cX ((a + b) + c) := ew
  unfold fX12_does_231
  refine zpc_bu p_put (fun t et => ?_)
  subst et
  refine zpc_if (fun q => absurd q (by decide)) (fun _ => ?_)
  refine zpc_bi p_signed (fun t u et => ?_)
  cases et
  refine zpc_bi p_signed (fun t u et => ?_)
  cases et
  unfold fX12_does_266
  refine zpc_bu p_by (fun t et => ?_)
  subst et
  unfold fX12_does_294
  refine zpc_j3 (K := fun u => fX12_does_299 (zsi μ 3 1 (gby (pt (pt (μ.1 3 1) 4 h) 0 w) (((a + b) + c) &&& 255))) y b 1 ((a + b) + c) u 2) (fun u eu => ?_)
  have eu : u = oX ((sg a + sg b) + c) := eu
  unfold fX12_does_299
  refine zpc_bu p_put (fun t et => ?_)
  subst et
  refine zpc_if (fun q => absurd q (by decide)) (fun _ => ?_)
  unfold fX12_does_314 fX12_does_343
  refine zpc_bu p_put (fun t et => ?_)
  subst et
  refine zpc_if (fun q => absurd q h7) (fun _ => zpc_ck (zpc_bv (fun t et => zpc_some ?_)))
  rw [et, eh, ew, eu]
  rfl
theorem p_subM (h7 : ¬ y = 7) : zpc (fX12_does_154 μ y b a c 0 ((a - b) - c)) (fun r => r = zsi (zsi μ 3 1 (mF (μ.1 3 1) (hS a b c) (cX ((a - b) - c)) (((a - b) - c) &&& 255) (oX ((sg a - sg b) - c)) 1)) 3 0 (((a - b) - c) &&& 255)) := by
  unfold fX12_does_154
  refine zpc_if (fun _ => ?_) (fun q => absurd rfl q)
  refine zpc_j (K := fun h => fX12_does_208 μ y b a c 0 ((a - b) - c) h 4) (a := 0) (b := 1) (fun h eh => ?_)
  have eh : h = hS a b c := eh
  unfold fX12_does_208
  refine zpc_bu p_put' (fun t et => ?_)
  subst et
  unfold fX12_does_226
  refine zpc_j3 (K := fun w => fX12_does_231 (zsi μ 3 1 (pt (μ.1 3 1) 4 h)) y b a c 0 ((a - b) - c) w 0) (fun w ew => ?_)
  have ew : w = cX ((a - b) - c) := ew
  unfold fX12_does_231
  refine zpc_bu p_put (fun t et => ?_)
  subst et
  refine zpc_if (fun _ => ?_) (fun q => absurd rfl q)
  refine zpc_bi p_signed (fun t u et => ?_)
  cases et
  refine zpc_bi p_signed (fun t u et => ?_)
  cases et
  unfold fX12_does_266
  refine zpc_bu p_by (fun t et => ?_)
  subst et
  unfold fX12_does_294
  refine zpc_j3 (K := fun u => fX12_does_299 (zsi μ 3 1 (gby (pt (pt (μ.1 3 1) 4 h) 0 w) (((a - b) - c) &&& 255))) y b 0 ((a - b) - c) u 2) (fun u eu => ?_)
  have eu : u = oX ((sg a - sg b) - c) := eu
  unfold fX12_does_299
  refine zpc_bu p_put (fun t et => ?_)
  subst et
  refine zpc_if (fun _ => ?_) (fun q => absurd rfl q)
  unfold fX12_does_314 fX12_does_343
  refine zpc_bu p_put (fun t et => ?_)
  subst et
  refine zpc_if (fun q => absurd q h7) (fun _ => zpc_ck (zpc_bv (fun t et => zpc_some ?_)))
  rw [et, eh, ew, eu]
  rfl
theorem p_subM7 (h7 : y = 7) : zpc (fX12_does_154 μ y b a c 0 ((a - b) - c)) (fun r => r = zsi μ 3 1 (gxy (mF (μ.1 3 1) (hS a b c) (cX ((a - b) - c)) (((a - b) - c) &&& 255) (oX ((sg a - sg b) - c)) 1) b)) := by
  unfold fX12_does_154
  refine zpc_if (fun _ => ?_) (fun q => absurd rfl q)
  refine zpc_j (K := fun h => fX12_does_208 μ y b a c 0 ((a - b) - c) h 4) (a := 0) (b := 1) (fun h eh => ?_)
  have eh : h = hS a b c := eh
  unfold fX12_does_208
  refine zpc_bu p_put' (fun t et => ?_)
  subst et
  unfold fX12_does_226
  refine zpc_j3 (K := fun w => fX12_does_231 (zsi μ 3 1 (pt (μ.1 3 1) 4 h)) y b a c 0 ((a - b) - c) w 0) (fun w ew => ?_)
  have ew : w = cX ((a - b) - c) := ew
  unfold fX12_does_231
  refine zpc_bu p_put (fun t et => ?_)
  subst et
  refine zpc_if (fun _ => ?_) (fun q => absurd rfl q)
  refine zpc_bi p_signed (fun t u et => ?_)
  cases et
  refine zpc_bi p_signed (fun t u et => ?_)
  cases et
  unfold fX12_does_266
  refine zpc_bu p_by (fun t et => ?_)
  subst et
  unfold fX12_does_294
  refine zpc_j3 (K := fun u => fX12_does_299 (zsi μ 3 1 (gby (pt (pt (μ.1 3 1) 4 h) 0 w) (((a - b) - c) &&& 255))) y b 0 ((a - b) - c) u 2) (fun u eu => ?_)
  have eu : u = oX ((sg a - sg b) - c) := eu
  unfold fX12_does_299
  refine zpc_bu p_put (fun t et => ?_)
  subst et
  refine zpc_if (fun _ => ?_) (fun q => absurd rfl q)
  unfold fX12_does_314 fX12_does_343
  refine zpc_bu p_put (fun t et => ?_)
  subst et
  refine zpc_if (fun _ => zpc_bu p_xy (fun t et => zpc_some ?_)) (fun q => absurd h7 q)
  rw [et, eh, ew, eu]
  rfl
/-! the class -/
noncomputable def csum (a b c : Int32) : Int32 := ((cby (((a + b) + c) &&& 255) ||| (((a ^^^ b) ^^^ (((a + b) + c) &&& 255)) &&& 16)) ||| (if (((a ^^^ b) ^^^ (-1)) &&& (a ^^^ (((a + b) + c) &&& 255))) &&& 128 = 0 then 0 else 4)) ||| (((a + b) + c) >>> ((8 : Int32) &&& 31))
noncomputable def cdif (a b c : Int32) : Int32 := (((cby (((a - b) - c) &&& 255) ||| (((a ^^^ b) ^^^ (((a - b) - c) &&& 255)) &&& 16)) ||| (if ((a ^^^ b) &&& (a ^^^ (((a - b) - c) &&& 255))) &&& 128 = 0 then 0 else 4)) ||| 2) ||| (if 0 ≤ (a - b) - c then 0 else 1)
theorem p_sumC : zpc (fX5_sum σ a b c) (fun r => r = (zsi σ 36 1 (csum a b c), ((a + b) + c) &&& 255)) := by
  unfold fX5_sum fX5_sum_61 csum
  refine zpc_bv (fun v ev => zpc_bv (fun w ew => zpc_bv (fun u eu => zpc_bi p_byC (fun t x et => ?_))))
  cases et
  subst ev
  subst ew
  subst eu
  refine zpc_if (fun q => zpc_ck (zpc_bv (fun t et => zpc_some ?_))) (fun q => zpc_ck (zpc_bv (fun t et => zpc_some ?_)))
  · rw [et, if_pos q]; rfl
  · rw [et, if_neg q]; rfl
theorem p_difC : zpc (fX5_difference σ a b c) (fun r => r = (zsi σ 36 1 (cdif a b c), ((a - b) - c) &&& 255)) := by
  unfold fX5_difference fX5_difference_59 fX5_difference_72 cdif
  refine zpc_bv (fun v ev => zpc_bv (fun w ew => zpc_bv (fun u eu => zpc_bi p_byC (fun t x et => ?_))))
  cases et
  subst ev
  subst ew
  subst eu
  refine zpc_if (fun q => zpc_if (fun q2 => zpc_ck (zpc_bv (fun t et => zpc_some ?_))) (fun q2 => zpc_ck (zpc_bv (fun t et => zpc_some ?_)))) (fun q => zpc_if (fun q2 => zpc_ck (zpc_bv (fun t et => zpc_some ?_))) (fun q2 => zpc_ck (zpc_bv (fun t et => zpc_some ?_))))
  · rw [et, if_pos q, if_pos q2]; rfl
  · rw [et, if_pos q, if_neg q2]; rfl
  · rw [et, if_neg q, if_pos q2]; rfl
  · rw [et, if_neg q, if_neg q2]; rfl
end ZAR
/-! the same flags -/
theorem z_xad {x y m : Int32} : (x ^^^ y) &&& m = (x &&& m) ^^^ (y &&& m) := by
  refine Int32.toBitVec_inj.1 ?_
  rw [Int32.toBitVec_and, Int32.toBitVec_xor, Int32.toBitVec_xor, Int32.toBitVec_and, Int32.toBitVec_and]
  refine BitVec.eq_of_getLsbD_eq (fun i hi => ?_)
  rw [BitVec.getLsbD_and, BitVec.getLsbD_xor, BitVec.getLsbD_xor, BitVec.getLsbD_and, BitVec.getLsbD_and]
  cases x.toBitVec.getLsbD i <;> cases y.toBitVec.getLsbD i <;> cases m.toBitVec.getLsbD i <;> rfl
theorem z_sm31 (a b c : Int32) : ((a + b) + c) &&& 31 = (((a &&& 31) + (b &&& 31)) + c) &&& 31 := by
  refine Int32.toBitVec_inj.1 ?_
  rw [Int32.toBitVec_and, Int32.toBitVec_and, Int32.toBitVec_add, Int32.toBitVec_add, Int32.toBitVec_add, Int32.toBitVec_add, Int32.toBitVec_and, Int32.toBitVec_and]
  refine BitVec.eq_of_toNat_eq ?_
  rw [BitVec.toNat_and, BitVec.toNat_and, BitVec.toNat_add, BitVec.toNat_add, BitVec.toNat_add, BitVec.toNat_add, BitVec.toNat_and, BitVec.toNat_and]
  rw [show (31 : Int32).toBitVec.toNat = 2 ^ 5 - 1 from rfl, Nat.and_two_pow_sub_one_eq_mod, Nat.and_two_pow_sub_one_eq_mod, Nat.and_two_pow_sub_one_eq_mod, Nat.and_two_pow_sub_one_eq_mod]
  omega
theorem z_dm31 (a b c : Int32) : ((a - b) - c) &&& 31 = (((a &&& 31) - (b &&& 31)) - c) &&& 31 := by
  refine Int32.toBitVec_inj.1 ?_
  rw [Int32.toBitVec_and, Int32.toBitVec_and, Int32.toBitVec_sub, Int32.toBitVec_sub, Int32.toBitVec_sub, Int32.toBitVec_sub, Int32.toBitVec_and, Int32.toBitVec_and]
  refine BitVec.eq_of_toNat_eq ?_
  rw [BitVec.toNat_and, BitVec.toNat_and, BitVec.toNat_sub, BitVec.toNat_sub, BitVec.toNat_sub, BitVec.toNat_sub, BitVec.toNat_and, BitVec.toNat_and]
  rw [show (31 : Int32).toBitVec.toNat = 2 ^ 5 - 1 from rfl, Nat.and_two_pow_sub_one_eq_mod, Nat.and_two_pow_sub_one_eq_mod, Nat.and_two_pow_sub_one_eq_mod, Nat.and_two_pow_sub_one_eq_mod]
  have := a.toBitVec.isLt
  have := b.toBitVec.isLt
  have := c.toBitVec.isLt
  omega
theorem z_r31 (x : Int32) : zr 0 31 (x &&& 31) := zr_andr (lo := 0) (hi := 31) (zr_c (lo := 31) (hi := 31) (by decide)) (by decide)
theorem z_fin32 {x : Int32} (h : zr 0 31 x) : ∃ i : Fin 32, x = Int32.ofNat i.val := by
  obtain ⟨h0, h1⟩ := h
  obtain ⟨i, hi⟩ : ∃ i : Nat, x.toInt = i := ⟨x.toInt.toNat, by omega⟩
  exact ⟨⟨i, by omega⟩, z_ofN hi⟩
theorem z_bit1 {c : Int32} (h : zr 0 1 c) : ∃ i : Fin 2, c = Int32.ofNat i.val := by
  obtain ⟨h0, h1⟩ := h
  obtain ⟨i, hi⟩ : ∃ i : Nat, c.toInt = i := ⟨c.toInt.toNat, by omega⟩
  exact ⟨⟨i, by omega⟩, z_ofN hi⟩
theorem v_hAf : ∀ a : Fin 32, ∀ b : Fin 32, ∀ c : Fin 2, (((Int32.ofNat a.val &&& 16) ^^^ (Int32.ofNat b.val &&& 16)) ^^^ ((((Int32.ofNat a.val + Int32.ofNat b.val) + Int32.ofNat c.val) &&& 31) &&& 16)) = bif bc (hA (Int32.ofNat a.val) (Int32.ofNat b.val) (Int32.ofNat c.val)) then 16 else 0 := by decide +kernel
theorem v_hSf : ∀ a : Fin 32, ∀ b : Fin 32, ∀ c : Fin 2, (((Int32.ofNat a.val &&& 16) ^^^ (Int32.ofNat b.val &&& 16)) ^^^ ((((Int32.ofNat a.val - Int32.ofNat b.val) - Int32.ofNat c.val) &&& 31) &&& 16)) = bif bc (hS (Int32.ofNat a.val) (Int32.ofNat b.val) (Int32.ofNat c.val)) then 16 else 0 := by decide +kernel
theorem z_3116 (x : Int32) : x &&& 16 = (x &&& 31) &&& 16 := by rw [Int32.and_assoc, show (31 : Int32) &&& 16 = 16 by decide]
theorem z_3115 (x : Int32) : x &&& 15 = (x &&& 31) &&& 15 := by rw [Int32.and_assoc, show (31 : Int32) &&& 15 = 15 by decide]
theorem z_25516 (x : Int32) : (x &&& 255) &&& 16 = (x &&& 31) &&& 16 := by rw [Int32.and_assoc, Int32.and_assoc, show (31 : Int32) &&& 16 = 16 by decide, show (255 : Int32) &&& 16 = 16 by decide]
theorem v_hA {a b c : Int32} (hc : zr 0 1 c) : ((a ^^^ b) ^^^ (((a + b) + c) &&& 255)) &&& 16 = bif bc (hA a b c) then 16 else 0 := by
  have e : hA a b c = hA (a &&& 31) (b &&& 31) c := by unfold hA; rw [z_3115 a, z_3115 b]
  rw [e, z_xad, z_xad, z_25516, z_sm31, z_3116 a, z_3116 b]
  obtain ⟨i, ei⟩ := z_fin32 (z_r31 a)
  obtain ⟨j, ej⟩ := z_fin32 (z_r31 b)
  obtain ⟨k, ek⟩ := z_bit1 hc
  rw [ei, ej, ek]
  exact v_hAf i j k
theorem v_hS {a b c : Int32} (hc : zr 0 1 c) : ((a ^^^ b) ^^^ (((a - b) - c) &&& 255)) &&& 16 = bif bc (hS a b c) then 16 else 0 := by
  have e : hS a b c = hS (a &&& 31) (b &&& 31) c := by unfold hS; rw [z_3115 a, z_3115 b]
  rw [e, z_xad, z_xad, z_25516, z_dm31, z_3116 a, z_3116 b]
  obtain ⟨i, ei⟩ := z_fin32 (z_r31 a)
  obtain ⟨j, ej⟩ := z_fin32 (z_r31 b)
  obtain ⟨k, ek⟩ := z_bit1 hc
  rw [ei, ej, ek]
  exact v_hSf i j k
theorem v_b7f : ∀ i : Fin 256, (Int32.ofNat i.val &&& 128 = 0 ∧ Int32.ofNat i.val < 128) ∨ (Int32.ofNat i.val &&& 128 = 128 ∧ ¬ Int32.ofNat i.val < 128) := by decide +kernel
theorem z_b7c {a : Int32} (h : zr 0 255 a) : (a &&& 128 = 0 ∧ a.toInt < 128 ∧ sg a = a) ∨ (a &&& 128 = 128 ∧ 128 ≤ a.toInt ∧ sg a = a - 256) := by
  have c : (128 : Int32).toInt = 128 := rfl
  have g : (a &&& 128 = 0 ∧ a < 128) ∨ (a &&& 128 = 128 ∧ ¬ a < 128) := by
    obtain ⟨i, e⟩ := z_byteF h
    rw [e]
    exact v_b7f i
  rcases g with ⟨x, y⟩ | ⟨x, y⟩
  · have y1 := Int32.lt_iff_toInt_lt.mp y
    exact Or.inl ⟨x, by omega, by unfold sg; rw [if_neg (fun q => by have := Int32.le_iff_toInt_le.mp q; omega)]⟩
  · have y1 := Int32.le_iff_toInt_le.mp (z_nlt y)
    exact Or.inr ⟨x, by omega, by unfold sg; rw [if_pos (z_nlt y)]⟩
theorem z_w8 {v : Int32} {k : Int} (e : v.toInt = k) (h : -256 ≤ k ∧ k ≤ 511) : (v &&& 255).toInt = k % 256 := by
  have e1 : (v &&& 255) = ((v + 256) &&& 255) := by
    refine Int32.toBitVec_inj.1 ?_
    rw [Int32.toBitVec_and, Int32.toBitVec_and, Int32.toBitVec_add]
    refine BitVec.eq_of_toNat_eq ?_
    rw [BitVec.toNat_and, BitVec.toNat_and, BitVec.toNat_add]
    rw [show (255 : Int32).toBitVec.toNat = 2 ^ 8 - 1 from rfl, show (256 : Int32).toBitVec.toNat = 256 from rfl, Nat.and_two_pow_sub_one_eq_mod, Nat.and_two_pow_sub_one_eq_mod]
    omega
  have c : (256 : Int32).toInt = 256 := rfl
  have t : (v + 256).toInt = v.toInt + (256 : Int32).toInt := z_tadd (a := -256) (b := 511) ⟨by omega, by omega⟩ (zr_c (lo := 256) (hi := 256) (x := 256) (by decide)) (by decide)
  rw [e1, z_mask (k := 8) (by omega) rfl (by decide), t, e, c]
  show (k + 256) % 256 = k % 256
  omega
theorem oX_v {s : Int32} {k : Int} (e : s.toInt = k) : ((k < -128 ∨ 127 < k) ∧ oX s = 1) ∨ ((-128 ≤ k ∧ k ≤ 127) ∧ oX s = 0) := by
  have c1 : (-128 : Int32).toInt = -128 := rfl
  have c2 : (127 : Int32).toInt = 127 := rfl
  unfold oX
  by_cases q : s < (-128)
  · have q1 := Int32.lt_iff_toInt_lt.mp q
    exact Or.inl ⟨Or.inl (by omega), by rw [if_pos q]⟩
  · have q1 := Int32.le_iff_toInt_le.mp (z_nlt q)
    rw [if_neg q]
    by_cases r : s ≤ 127
    · have r1 := Int32.le_iff_toInt_le.mp r
      exact Or.inr ⟨⟨by omega, by omega⟩, by rw [if_pos r]⟩
    · have r1 := Int32.lt_iff_toInt_lt.mp (z_nle r)
      exact Or.inl ⟨Or.inr (by omega), by rw [if_neg r]⟩
theorem z_rs {a : Int32} (h : zr 0 255 a) : zr (-128) 127 (sg a) ∧ ((a &&& 128 = 0 ∧ (sg a).toInt = a.toInt ∧ a.toInt < 128) ∨ (a &&& 128 = 128 ∧ (sg a).toInt = a.toInt - 256 ∧ 128 ≤ a.toInt)) := by
  have c : (256 : Int32).toInt = 256 := rfl
  have h0 := h.1
  have h1 := h.2
  rcases z_b7c h with ⟨x, y, z⟩ | ⟨x, y, z⟩
  · rw [z]; exact ⟨⟨by omega, by omega⟩, Or.inl ⟨x, rfl, y⟩⟩
  · have t : (a - 256).toInt = a.toInt - (256 : Int32).toInt := z_tsub h (zr_c (lo := 256) (hi := 256) (by decide)) (by decide)
    rw [z]; exact ⟨⟨by omega, by omega⟩, Or.inr ⟨x, by omega, y⟩⟩
theorem v_oA {a b c : Int32} (ha : zr 0 255 a) (hb : zr 0 255 b) (hc : zr 0 1 c) : (if (((a ^^^ b) ^^^ (-1)) &&& (a ^^^ (((a + b) + c) &&& 255))) &&& 128 = 0 then (0 : Int32) else 4) = bif bc (oX ((sg a + sg b) + c)) then 4 else 0 := by
  have a0 := ha.1
  have a1 := ha.2
  have b0 := hb.1
  have b1 := hb.2
  have c0 := hc.1
  have c1 := hc.2
  have t1 := z_tadd ha hb (by decide)
  have t2 := z_tadd (zr_add (lo := 0) (hi := 510) ha hb (by decide)) hc (by decide)
  have hw := z_w8 (v := (a + b) + c) rfl (by omega)
  obtain ⟨ra, ka⟩ := z_rs ha
  obtain ⟨rb, kb⟩ := z_rs hb
  have u1 := z_tadd ra rb (by decide)
  have u2 := z_tadd (zr_add (lo := -256) (hi := 254) ra rb (by decide)) hc (by decide)
  have ov := oX_v (s := (sg a + sg b) + c) rfl
  obtain ⟨_, kw⟩ := z_rs (z_byte ((a + b) + c))
  have d : (((a ^^^ b) ^^^ (-1)) &&& (a ^^^ (((a + b) + c) &&& 255))) &&& 128 = ((((a &&& 128) ^^^ (b &&& 128)) ^^^ ((-1) &&& 128)) &&& ((a &&& 128) ^^^ ((((a + b) + c) &&& 255) &&& 128))) := by
    rw [Int32.and_assoc, show (a ^^^ (((a + b) + c) &&& 255)) &&& 128 = (a &&& 128) ^^^ ((((a + b) + c) &&& 255) &&& 128) from z_xad]
    have k : ∀ x y : Int32, x &&& ((a &&& 128) ^^^ (y &&& 128)) = (x &&& 128) &&& ((a &&& 128) ^^^ (y &&& 128)) := fun x y => by
      rw [← z_xad, Int32.and_assoc x 128, Int32.and_comm 128, Int32.and_assoc, show (128 : Int32) &&& 128 = 128 by decide]
    rw [k, z_xad, z_xad (x := a) (y := b)]
  rw [d]
  rcases ka with ⟨p1, p2, p3⟩ | ⟨p1, p2, p3⟩ <;> rcases kb with ⟨q1, q2, q3⟩ | ⟨q1, q2, q3⟩ <;> rcases kw with ⟨r1, r2, r3⟩ | ⟨r1, r2, r3⟩ <;> rw [p1, q1, r1] <;> rcases ov with ⟨o1, o2⟩ | ⟨o1, o2⟩ <;> rw [o2] <;> first | decide | (exfalso; omega)
theorem v_oS {a b c : Int32} (ha : zr 0 255 a) (hb : zr 0 255 b) (hc : zr 0 1 c) : (if ((a ^^^ b) &&& (a ^^^ (((a - b) - c) &&& 255))) &&& 128 = 0 then (0 : Int32) else 4) = bif bc (oX ((sg a - sg b) - c)) then 4 else 0 := by
  have a0 := ha.1
  have a1 := ha.2
  have b0 := hb.1
  have b1 := hb.2
  have c0 := hc.1
  have c1 := hc.2
  have t1 := z_tsub ha hb (by decide)
  have t2 := z_tsub (zr_sub (lo := -255) (hi := 255) ha hb (by decide)) hc (by decide)
  have hw := z_w8 (v := (a - b) - c) rfl (by omega)
  obtain ⟨ra, ka⟩ := z_rs ha
  obtain ⟨rb, kb⟩ := z_rs hb
  have u1 := z_tsub ra rb (by decide)
  have u2 := z_tsub (zr_sub (lo := -255) (hi := 255) ra rb (by decide)) hc (by decide)
  have ov := oX_v (s := (sg a - sg b) - c) rfl
  obtain ⟨_, kw⟩ := z_rs (z_byte ((a - b) - c))
  have d : ((a ^^^ b) &&& (a ^^^ (((a - b) - c) &&& 255))) &&& 128 = ((a &&& 128) ^^^ (b &&& 128)) &&& ((a &&& 128) ^^^ ((((a - b) - c) &&& 255) &&& 128)) := by
    rw [Int32.and_assoc, show (a ^^^ (((a - b) - c) &&& 255)) &&& 128 = (a &&& 128) ^^^ ((((a - b) - c) &&& 255) &&& 128) from z_xad]
    have k : ∀ x y : Int32, x &&& ((a &&& 128) ^^^ (y &&& 128)) = (x &&& 128) &&& ((a &&& 128) ^^^ (y &&& 128)) := fun x y => by
      rw [← z_xad, Int32.and_assoc x 128, Int32.and_comm 128, Int32.and_assoc, show (128 : Int32) &&& 128 = 128 by decide]
    rw [k, z_xad]
  rw [d]
  rcases ka with ⟨p1, p2, p3⟩ | ⟨p1, p2, p3⟩ <;> rcases kb with ⟨q1, q2, q3⟩ | ⟨q1, q2, q3⟩ <;> rcases kw with ⟨r1, r2, r3⟩ | ⟨r1, r2, r3⟩ <;> rw [p1, q1, r1] <;> rcases ov with ⟨o1, o2⟩ | ⟨o1, o2⟩ <;> rw [o2] <;> first | decide | (exfalso; omega)
theorem v_cbyf : ∀ i : Fin 256, cby (Int32.ofNat i.val) = zfl (d7 (Int32.ofNat i.val)) (d6 (Int32.ofNat i.val)) (d5 (Int32.ofNat i.val)) false (d3 (Int32.ofNat i.val)) false false false := by decide +kernel
theorem v_cby {w : Int32} (h : zr 0 255 w) : cby w = zfl (d7 w) (d6 w) (d5 w) false (d3 w) false false false := by
  obtain ⟨i, e⟩ := z_byteF h
  rw [e]
  exact v_cbyf i
theorem v_cAf : ∀ i : Fin 512, (Int32.ofNat i.val) >>> ((8 : Int32) &&& 31) = bif bc (cX (Int32.ofNat i.val)) then 1 else 0 := by decide +kernel
theorem v_cS {v : Int32} (h : zr (-256) 255 v) : (if 0 ≤ v then (0 : Int32) else 1) = bif bc (cX v) then 1 else 0 := by
  have c0 : (0 : Int32).toInt = 0 := rfl
  have c1 : (255 : Int32).toInt = 255 := rfl
  have h1 := h.2
  unfold cX
  by_cases q : v < 0
  · have q1 := Int32.lt_iff_toInt_lt.mp q
    rw [if_pos q, if_neg (fun r => by have := Int32.le_iff_toInt_le.mp r; omega)]
    rfl
  · rw [if_neg q, if_pos (z_nlt q), if_pos (Int32.le_iff_toInt_le.mpr (by omega))]
    rfl
theorem v_sumB : ∀ b7 b6 b5 b3 h v c : Bool, zfl b7 b6 b5 h b3 v false c = ((zfl b7 b6 b5 false b3 false false false ||| (bif h then 16 else 0)) ||| (bif v then 4 else 0)) ||| (bif c then 1 else 0) := by decide
theorem v_difB : ∀ b7 b6 b5 b3 h v c : Bool, zfl b7 b6 b5 h b3 v true c = (((zfl b7 b6 b5 false b3 false false false ||| (bif h then 16 else 0)) ||| (bif v then 4 else 0)) ||| 2) ||| (bif c then 1 else 0) := by decide
end ZJN6
section ZJN7
/-! DO WITH A -/
theorem v_sum {a b c : Int32} (ha : zr 0 255 a) (hb : zr 0 255 b) (hc : zr 0 1 c) : zfl (d7 (((a + b) + c) &&& 255)) (d6 (((a + b) + c) &&& 255)) (d5 (((a + b) + c) &&& 255)) (bc (hA a b c)) (d3 (((a + b) + c) &&& 255)) (bc (oX ((sg a + sg b) + c))) false (bc (cX ((a + b) + c))) = csum a b c := by
  have r : zr 0 511 ((a + b) + c) := zr_add (lo := 0) (hi := 511) (zr_add (lo := 0) (hi := 510) ha hb (by decide)) hc (by decide)
  have e8 : ((a + b) + c) >>> ((8 : Int32) &&& 31) = bif bc (cX ((a + b) + c)) then 1 else 0 := by
    obtain ⟨r0, r1⟩ := r
    obtain ⟨i, hi⟩ : ∃ i : Nat, ((a + b) + c).toInt = i := ⟨((a + b) + c).toInt.toNat, by omega⟩
    rw [z_ofN hi]
    exact v_cAf ⟨i, by omega⟩
  unfold csum
  rw [v_sumB, v_hA hc, v_oA ha hb hc, e8, v_cby (z_byte _)]
theorem v_dif {a b c : Int32} (ha : zr 0 255 a) (hb : zr 0 255 b) (hc : zr 0 1 c) : zfl (d7 (((a - b) - c) &&& 255)) (d6 (((a - b) - c) &&& 255)) (d5 (((a - b) - c) &&& 255)) (bc (hS a b c)) (d3 (((a - b) - c) &&& 255)) (bc (oX ((sg a - sg b) - c))) true (bc (cX ((a - b) - c))) = cdif a b c := by
  have r : zr (-256) 255 ((a - b) - c) := zr_sub (lo := -256) (hi := 255) (zr_sub (lo := -255) (hi := 255) ha hb (by decide)) hc (by decide)
  unfold cdif
  rw [v_difB, v_hS hc, v_oS ha hb hc, v_cS r, v_cby (z_byte _)]
theorem v_40 : ∀ i : Fin 256, Int32.ofNat i.val &&& 40 = (bif d5 (Int32.ofNat i.val) then 32 else 0) ||| (bif d3 (Int32.ofNat i.val) then 8 else 0) := by decide +kernel
theorem v_41 : ∀ b7 b6 b5 b4 b3 b2 b1 b0 x y : Bool, ((zfl b7 b6 b5 b4 b3 b2 b1 b0) &&& (-41)) ||| ((bif x then 32 else 0) ||| (bif y then 8 else 0)) = zfl b7 b6 x b4 y b2 b1 b0 := by decide
theorem v_cp {b7 b6 b5 b4 b3 b2 b1 b0 : Bool} {b : Int32} (hb : zr 0 255 b) : ((zfl b7 b6 b5 b4 b3 b2 b1 b0) &&& (-41)) ||| (b &&& 40) = zfl b7 b6 (d5 b) b4 (d3 b) b2 b1 b0 := by
  obtain ⟨i, ei⟩ := z_byteF hb
  subst ei
  rw [v_40 i]
  exact v_41 _ _ _ _ _ _ _ _ _ _
/-- and, or, xor: parity on both sides -/
theorem v_lgf : ∀ i : Fin 256, ∀ h : Bool, zfl (d7 (Int32.ofNat i.val)) (d6 (Int32.ofNat i.val)) (d5 (Int32.ofNat i.val)) h (d3 (Int32.ofNat i.val)) (bc (gev (Int32.ofNat i.val))) false false = (cby (Int32.ofNat i.val) ||| cpar (Int32.ofNat i.val)) ||| (bif h then 16 else 0) := by decide +kernel
theorem v_lg {w : Int32} (hw : zr 0 255 w) (h : Bool) : zfl (d7 w) (d6 w) (d5 w) h (d3 w) (bc (gev w)) false false = (cby w ||| cpar w) ||| (bif h then 16 else 0) := by
  obtain ⟨i, ei⟩ := z_byteF hw
  subst ei
  exact v_lgf i h
theorem v_c0 : ∀ i : Fin 256, ((Int32.ofNat i.val) >>> ((0 : Int32) &&& 31)) &&& 1 = Int32.ofNat i.val &&& 1 := by decide +kernel
theorem z_c0 {f : Int32} (h : zr 0 255 f) : (f >>> ((0 : Int32) &&& 31)) &&& 1 = f &&& 1 := by
  obtain ⟨i, ei⟩ := z_byteF h
  subst ei
  exact v_c0 i
theorem z_r1 (x : Int32) : zr 0 1 (x &&& 1) := zr_andr (lo := 0) (hi := 1) (zr_c (lo := 1) (hi := 1) (by decide)) (by decide)
theorem z_xb {a b : Int32} (ha : zr 0 255 a) (hb : zr 0 255 b) : zr 0 255 (a ^^^ b) := by
  have e : a ^^^ b = (a ^^^ b) &&& 255 := by
    rw [z_xad, z_m255 ha, z_m255 hb]
  rw [e]
  exact z_r8 _
theorem z_ob {a b : Int32} (ha : zr 0 255 a) (hb : zr 0 255 b) : zr 0 255 (a ||| b) := zr_or (lo := 0) (hi := 255) 8 ha hb (by decide)
theorem z_ab {a b : Int32} (hb : zr 0 255 b) : zr 0 255 (a &&& b) := zr_andr (lo := 0) (hi := 255) hb (by decide)
theorem csum_r {a b c : Int32} (ha : zr 0 255 a) (hb : zr 0 255 b) (hc : zr 0 1 c) : zr 0 255 (csum a b c) := by rw [← v_sum ha hb hc]; exact zfl_r _ _ _ _ _ _ _ _
theorem cdif_r {a b c : Int32} (ha : zr 0 255 a) (hb : zr 0 255 b) (hc : zr 0 1 c) : zr 0 255 (cdif a b c) := by rw [← v_dif ha hb hc]; exact zfl_r _ _ _ _ _ _ _ _
section ZDO
variable {I : zSt → zSt → Prop} {σ μ : zSt}
theorem t_do (hI : zIoK I) (h : zTT I σ μ) (hF : zF σ μ) {y b : Int32} (hy : zr 0 7 y) (hb : zr 0 255 b) : zp2 (fX5_doWith σ y b) (fX12_does μ y b) (fun r r' => zTT I r r' ∧ zF r r' ∧ zQ [] [(36, 0, 1)] [] [] σ r ∧ zQ [] [(3, 0, 1)] [] [] μ r') := by
  have ea : μ.1 3 0 = σ.1 36 0 := h.eq (by decide)
  have ef : μ.1 3 1 = σ.1 36 1 := hF
  have ha : zr 0 255 (σ.1 36 0) := h.b (by decide)
  have hf : zr 0 255 (σ.1 36 1) := h.b (by decide)
  have c0 : zr 0 1 (0 : Int32) := zr_c (by decide)
  -- the end: both states given
  have fin : ∀ (A F A' F' : Int32), A' = A → F' = F → zr 0 255 A → zr 0 255 F → ∀ s t, s = zsi (zsi σ 36 1 F) 36 0 A → t = zsi (zsi μ 3 1 F') 3 0 A' → zTT I s t ∧ zF s t ∧ zQ [] [(36, 0, 1)] [] [] σ s ∧ zQ [] [(3, 0, 1)] [] [] μ t := fun A F A' F' e1 e2 r1 r2 s t es et => by
    subst es
    subst et
    subst e1
    subst e2
    exact ⟨h.upd hI [0, 1] (zQ.wi (zQ.wi zQ.rf rfl) rfl) (zQ.wi (zQ.wi zQ.rf rfl) rfl) rfl (zAl2 ⟨rfl, zrg_b (Or.inl (by decide)) r1⟩ ⟨rfl, zrg_b (Or.inl (by decide)) r2⟩), rfl, zQ.wi (zQ.wi zQ.rf rfl) rfl, zQ.wi (zQ.wi zQ.rf rfl) rfl⟩
  unfold fX5_doWith fX12_does fX5_doWith_292
  refine zp2_ckr (zp2_bvr (fun a' ea' => ?_))
  have ea' : a' = σ.1 36 0 := ea'.trans ea
  subst ea'

  rcases zr_hd (c := 0) hy rfl with e | hy
  · subst e
    have m : zpc (fX12_does_101 μ 0 b (σ.1 36 0)) (fun r => r = zsi (zsi μ 3 1 (mF (μ.1 3 1) (hA (σ.1 36 0) b 0) (cX ((σ.1 36 0 + b) + 0)) (((σ.1 36 0 + b) + 0) &&& 255) (oX ((sg (σ.1 36 0) + sg b) + 0)) 0)) 3 0 (((σ.1 36 0 + b) + 0) &&& 255)) := by
      unfold fX12_does_101 fX12_does_111 fX12_does_120 fX12_does_132
      refine zpc_if (fun q => absurd q (by decide)) (fun _ => zpc_if (fun q => absurd q (by decide)) (fun _ => zpc_if (fun q => absurd q (by decide)) (fun _ => zpc_if (fun q => absurd q (by decide)) (fun _ => p_addM (by decide)))))
    have c : zpc (fX5_sum σ (zgi σ 36 (0 : Int32).toNatClampNeg) b 0) (fun r => r = (zsi σ 36 1 (csum (σ.1 36 0) b 0), ((σ.1 36 0 + b) + 0) &&& 255)) := p_sumC
    refine zp2_ifl (fun _ => zp2_ckl (zp2_bil c (fun s1 v1 e1 => ?_))) (fun q => absurd rfl q)
    cases e1
    refine zp2_ifr (fun _ => ?_) (fun q => absurd (by decide) q)
    intro r r' er er'
    have er : some (zsi (zsi σ 36 1 (csum (σ.1 36 0) b 0)) 36 0 (((σ.1 36 0 + b) + 0) &&& 255)) = some r := er
    cases er
    refine fin _ _ _ _ rfl ?_ (z_r8 _) (csum_r ha hb c0) _ _ rfl (m _ er')
    rw [ef, fl_mF hf, ← v_sum ha hb c0]
    rfl
  rcases zr_hd (c := 1) hy rfl with e | hy
  · subst e
    have m : zpc (fX12_does_101 μ 1 b (σ.1 36 0)) (fun r => r = zsi (zsi μ 3 1 (mF (μ.1 3 1) (hA (σ.1 36 0) b (σ.1 36 1 &&& 1)) (cX ((σ.1 36 0 + b) + (σ.1 36 1 &&& 1))) (((σ.1 36 0 + b) + (σ.1 36 1 &&& 1)) &&& 255) (oX ((sg (σ.1 36 0) + sg b) + (σ.1 36 1 &&& 1))) 0)) 3 0 (((σ.1 36 0 + b) + (σ.1 36 1 &&& 1)) &&& 255)) := by
      unfold fX12_does_101 fX12_does_111 fX12_does_120 fX12_does_132
      refine zpc_if (fun _ => zpc_bi p_flag (fun t u et => ?_)) (fun q => absurd rfl q)
      cases et
      refine zpc_if (fun q => absurd q (by decide)) (fun _ => zpc_if (fun q => absurd q (by decide)) (fun _ => ?_))
      rw [ef, z_c0 hf, ← ef]
      have g := p_addM (μ := μ) (a := σ.1 36 0) (b := b) (c := μ.1 3 1 &&& 1) (y := 1) (by decide)
      rw [ef] at g ⊢
      exact g
    have c : zpc (fX5_sum σ (zgi σ 36 (0 : Int32).toNatClampNeg) b ((zgi σ 36 (1 : Int32).toNatClampNeg) &&& 1)) (fun r => r = (zsi σ 36 1 (csum (σ.1 36 0) b (σ.1 36 1 &&& 1)), ((σ.1 36 0 + b) + (σ.1 36 1 &&& 1)) &&& 255)) := p_sumC
    refine zp2_ifl (fun q => absurd q (by decide)) (fun _ => zp2_ifl (fun _ => zp2_ckl (zp2_ckl (zp2_bil c (fun s1 v1 e1 => ?_)))) (fun q => absurd rfl q))
    cases e1
    refine zp2_ifr (fun _ => ?_) (fun q => absurd (by decide) q)
    intro r r' er er'
    have er : some (zsi (zsi σ 36 1 (csum (σ.1 36 0) b (σ.1 36 1 &&& 1))) 36 0 (((σ.1 36 0 + b) + (σ.1 36 1 &&& 1)) &&& 255)) = some r := er
    cases er
    refine fin _ _ _ _ rfl ?_ (z_r8 _) (csum_r ha hb (z_r1 _)) _ _ rfl (m _ er')
    rw [ef, fl_mF hf, ← v_sum ha hb (z_r1 _)]
    rfl
  rcases zr_hd (c := 2) hy rfl with e | hy
  · subst e
    have m : zpc (fX12_does_101 μ 2 b (σ.1 36 0)) (fun r => r = zsi (zsi μ 3 1 (mF (μ.1 3 1) (hS (σ.1 36 0) b 0) (cX ((σ.1 36 0 - b) - 0)) (((σ.1 36 0 - b) - 0) &&& 255) (oX ((sg (σ.1 36 0) - sg b) - 0)) 1)) 3 0 (((σ.1 36 0 - b) - 0) &&& 255)) := by
      unfold fX12_does_101 fX12_does_111 fX12_does_120 fX12_does_132
      refine zpc_if (fun q => absurd q (by decide)) (fun _ => zpc_if (fun q => absurd q (by decide)) (fun _ => zpc_if (fun _ => zpc_if (fun _ => p_subM (by decide)) (fun q => absurd rfl q)) (fun q => absurd (by decide) q)))
    have c : zpc (fX5_difference σ (zgi σ 36 (0 : Int32).toNatClampNeg) b 0) (fun r => r = (zsi σ 36 1 (cdif (σ.1 36 0) b 0), ((σ.1 36 0 - b) - 0) &&& 255)) := p_difC
    refine zp2_ifl (fun q => absurd q (by decide)) (fun _ => zp2_ifl (fun q => absurd q (by decide)) (fun _ => zp2_ifl (fun _ => zp2_ckl (zp2_bil c (fun s1 v1 e1 => ?_))) (fun q => absurd rfl q)))
    cases e1
    refine zp2_ifr (fun _ => ?_) (fun q => absurd (by decide) q)
    intro r r' er er'
    have er : some (zsi (zsi σ 36 1 (cdif (σ.1 36 0) b 0)) 36 0 (((σ.1 36 0 - b) - 0) &&& 255)) = some r := er
    cases er
    refine fin _ _ _ _ rfl ?_ (z_r8 _) (cdif_r ha hb c0) _ _ rfl (m _ er')
    rw [ef, fl_mF hf, ← v_dif ha hb c0]
    rfl
  rcases zr_hd (c := 3) hy rfl with e | hy
  · subst e
    have m : zpc (fX12_does_101 μ 3 b (σ.1 36 0)) (fun r => r = zsi (zsi μ 3 1 (mF (μ.1 3 1) (hS (σ.1 36 0) b (σ.1 36 1 &&& 1)) (cX ((σ.1 36 0 - b) - (σ.1 36 1 &&& 1))) (((σ.1 36 0 - b) - (σ.1 36 1 &&& 1)) &&& 255) (oX ((sg (σ.1 36 0) - sg b) - (σ.1 36 1 &&& 1))) 1)) 3 0 (((σ.1 36 0 - b) - (σ.1 36 1 &&& 1)) &&& 255)) := by
      unfold fX12_does_101 fX12_does_111 fX12_does_120 fX12_does_132
      refine zpc_if (fun q => absurd q (by decide)) (fun _ => zpc_if (fun _ => zpc_bi p_flag (fun t u et => ?_)) (fun q => absurd rfl q))
      cases et
      refine zpc_if (fun _ => zpc_if (fun _ => ?_) (fun q => absurd rfl q)) (fun q => absurd (by decide) q)
      rw [ef, z_c0 hf, ← ef]
      have g := p_subM (μ := μ) (a := σ.1 36 0) (b := b) (c := μ.1 3 1 &&& 1) (y := 3) (by decide)
      rw [ef] at g ⊢
      exact g
    have c : zpc (fX5_difference σ (zgi σ 36 (0 : Int32).toNatClampNeg) b ((zgi σ 36 (1 : Int32).toNatClampNeg) &&& 1)) (fun r => r = (zsi σ 36 1 (cdif (σ.1 36 0) b (σ.1 36 1 &&& 1)), ((σ.1 36 0 - b) - (σ.1 36 1 &&& 1)) &&& 255)) := p_difC
    refine zp2_ifl (fun q => absurd q (by decide)) (fun _ => zp2_ifl (fun q => absurd q (by decide)) (fun _ => zp2_ifl (fun q => absurd q (by decide)) (fun _ => zp2_ifl (fun _ => zp2_ckl (zp2_ckl (zp2_bil c (fun s1 v1 e1 => ?_)))) (fun q => absurd rfl q))))
    cases e1
    refine zp2_ifr (fun _ => ?_) (fun q => absurd (by decide) q)
    intro r r' er er'
    have er : some (zsi (zsi σ 36 1 (cdif (σ.1 36 0) b (σ.1 36 1 &&& 1))) 36 0 (((σ.1 36 0 - b) - (σ.1 36 1 &&& 1)) &&& 255)) = some r := er
    cases er
    refine fin _ _ _ _ rfl ?_ (z_r8 _) (cdif_r ha hb (z_r1 _)) _ _ rfl (m _ er')
    rw [ef, fl_mF hf, ← v_dif ha hb (z_r1 _)]
    rfl
  rcases zr_hd (c := 4) hy rfl with e | hy
  · subst e
    have rA : zr 0 255 (σ.1 36 0 &&& b) := z_ab hb
    refine zp2_ifl (fun q => absurd q (by decide)) (fun _ => zp2_ifl (fun q => absurd q (by decide)) (fun _ => zp2_ifl (fun q => absurd q (by decide)) (fun _ => zp2_ifl (fun q => absurd q (by decide)) (fun _ => zp2_ifl (fun _ => zp2_ckl (zp2_ckl (zp2_bvl (fun s1 f1 => zp2_ckl (zp2_bil p_byC (fun s2 v2 e2 => ?_)))))) (fun q => absurd rfl q)))))
    cases e2
    refine zp2_ckl (zp2_bil p_parC (fun s3 v3 e3 => ?_))
    cases e3
    have g1 : zgi s1 36 (0 : Int32).toNatClampNeg = (σ.1 36 0 &&& b) := by subst f1; rfl
    rw [g1]
    refine zp2_ckl (zp2_bvl (fun s4 f4 => ?_))
    refine zp2_ifr (fun q => absurd q (by decide)) (fun _ => zp2_ifr (fun q => absurd q (by decide)) (fun _ => zp2_ifr (fun _ => ?_) (fun q => absurd rfl q)))
    intro r r' er er'
    cases er
    have em := p_logM (μ := μ) (y := 4) (A := (σ.1 36 0 &&& b)) (Or.inl rfl) _ er'
    have es : s4 = zsi (zsi σ 36 1 ((cby (σ.1 36 0 &&& b) ||| cpar (σ.1 36 0 &&& b)) ||| 16)) 36 0 (σ.1 36 0 &&& b) := by
      rw [f4, f1]
      exact zsi_comm (by decide)
    have em2 : r' = zsi (zsi μ 3 1 (pt (pt (pt (pt (gby (μ.1 3 1) (σ.1 36 0 &&& b)) 4 (if (4 : Int32) = 4 then 1 else 0)) 2 (gev (σ.1 36 0 &&& b))) 1 0) 0 0)) 3 0 (σ.1 36 0 &&& b) := by
      rw [em]
      exact zsi_comm (by decide)
    refine fin _ _ _ _ rfl ?_ rA ?_ _ _ es em2
    · rw [ef, fl_of hf, fl_by, pt_4, pt_2, pt_1, pt_0]
      refine Eq.trans ?_ ((v_lg rA true).trans ?_)
      · rfl
      · rfl
    · rw [show (cby (σ.1 36 0 &&& b) ||| cpar (σ.1 36 0 &&& b)) ||| 16 = (cby (σ.1 36 0 &&& b) ||| cpar (σ.1 36 0 &&& b)) ||| (bif true then 16 else 0) from rfl, ← v_lg rA true]
      exact zfl_r _ _ _ _ _ _ _ _
  rcases zr_hd (c := 5) hy rfl with e | hy
  · subst e
    have rA : zr 0 255 (σ.1 36 0 ^^^ b) := z_xb ha hb
    refine zp2_ifl (fun q => absurd q (by decide)) (fun _ => zp2_ifl (fun q => absurd q (by decide)) (fun _ => zp2_ifl (fun q => absurd q (by decide)) (fun _ => zp2_ifl (fun q => absurd q (by decide)) (fun _ => zp2_ifl (fun q => absurd q (by decide)) (fun _ => zp2_ifl (fun _ => zp2_ckl (zp2_ckl (zp2_bvl (fun s1 f1 => zp2_ckl (zp2_bil p_byC (fun s2 v2 e2 => ?_)))))) (fun q => absurd rfl q))))))
    cases e2
    refine zp2_ckl (zp2_bil p_parC (fun s3 v3 e3 => ?_))
    cases e3
    have g1 : zgi s1 36 (0 : Int32).toNatClampNeg = (σ.1 36 0 ^^^ b) := by subst f1; rfl
    rw [g1]
    refine zp2_ckl (zp2_bvl (fun s4 f4 => ?_))
    refine zp2_ifr (fun q => absurd q (by decide)) (fun _ => zp2_ifr (fun q => absurd q (by decide)) (fun _ => zp2_ifr (fun q => absurd q (by decide)) (fun _ => zp2_ifr (fun _ => ?_) (fun q => absurd rfl q))))
    intro r r' er er'
    cases er
    have em := p_logM (μ := μ) (y := 5) (A := (σ.1 36 0 ^^^ b)) (Or.inr (by decide)) _ er'
    have es : s4 = zsi (zsi σ 36 1 (cby (σ.1 36 0 ^^^ b) ||| cpar (σ.1 36 0 ^^^ b))) 36 0 (σ.1 36 0 ^^^ b) := by
      rw [f4, f1]
      exact zsi_comm (by decide)
    have em2 : r' = zsi (zsi μ 3 1 (pt (pt (pt (pt (gby (μ.1 3 1) (σ.1 36 0 ^^^ b)) 4 (if (5 : Int32) = 4 then 1 else 0)) 2 (gev (σ.1 36 0 ^^^ b))) 1 0) 0 0)) 3 0 (σ.1 36 0 ^^^ b) := by
      rw [em]
      exact zsi_comm (by decide)
    refine fin _ _ _ _ rfl ?_ rA ?_ _ _ es em2
    · rw [ef, fl_of hf, fl_by, pt_4, pt_2, pt_1, pt_0]
      refine Eq.trans ?_ ((v_lg rA false).trans ?_)
      · rfl
      · exact Int32.or_zero
    · rw [show cby (σ.1 36 0 ^^^ b) ||| cpar (σ.1 36 0 ^^^ b) = (cby (σ.1 36 0 ^^^ b) ||| cpar (σ.1 36 0 ^^^ b)) ||| (bif false then 16 else 0) from Int32.or_zero.symm, ← v_lg rA false]
      exact zfl_r _ _ _ _ _ _ _ _
  rcases zr_hd (c := 6) hy rfl with e | hy
  · subst e
    have rA : zr 0 255 (σ.1 36 0 ||| b) := z_ob ha hb
    refine zp2_ifl (fun q => absurd q (by decide)) (fun _ => zp2_ifl (fun q => absurd q (by decide)) (fun _ => zp2_ifl (fun q => absurd q (by decide)) (fun _ => zp2_ifl (fun q => absurd q (by decide)) (fun _ => zp2_ifl (fun q => absurd q (by decide)) (fun _ => zp2_ifl (fun q => absurd q (by decide)) (fun _ => zp2_ifl (fun _ => zp2_ckl (zp2_ckl (zp2_bvl (fun s1 f1 => zp2_ckl (zp2_bil p_byC (fun s2 v2 e2 => ?_)))))) (fun q => absurd rfl q)))))))
    cases e2
    refine zp2_ckl (zp2_bil p_parC (fun s3 v3 e3 => ?_))
    cases e3
    have g1 : zgi s1 36 (0 : Int32).toNatClampNeg = (σ.1 36 0 ||| b) := by subst f1; rfl
    rw [g1]
    refine zp2_ckl (zp2_bvl (fun s4 f4 => ?_))
    refine zp2_ifr (fun q => absurd q (by decide)) (fun _ => zp2_ifr (fun q => absurd q (by decide)) (fun _ => zp2_ifr (fun q => absurd q (by decide)) (fun _ => zp2_ifr (fun q => absurd q (by decide)) (fun _ => ?_))))
    intro r r' er er'
    cases er
    have em := p_logM (μ := μ) (y := 6) (A := (σ.1 36 0 ||| b)) (Or.inr (by decide)) _ er'
    have es : s4 = zsi (zsi σ 36 1 (cby (σ.1 36 0 ||| b) ||| cpar (σ.1 36 0 ||| b))) 36 0 (σ.1 36 0 ||| b) := by
      rw [f4, f1]
      exact zsi_comm (by decide)
    have em2 : r' = zsi (zsi μ 3 1 (pt (pt (pt (pt (gby (μ.1 3 1) (σ.1 36 0 ||| b)) 4 (if (6 : Int32) = 4 then 1 else 0)) 2 (gev (σ.1 36 0 ||| b))) 1 0) 0 0)) 3 0 (σ.1 36 0 ||| b) := by
      rw [em]
      exact zsi_comm (by decide)
    refine fin _ _ _ _ rfl ?_ rA ?_ _ _ es em2
    · rw [ef, fl_of hf, fl_by, pt_4, pt_2, pt_1, pt_0]
      refine Eq.trans ?_ ((v_lg rA false).trans ?_)
      · rfl
      · exact Int32.or_zero
    · rw [show cby (σ.1 36 0 ||| b) ||| cpar (σ.1 36 0 ||| b) = (cby (σ.1 36 0 ||| b) ||| cpar (σ.1 36 0 ||| b)) ||| (bif false then 16 else 0) from Int32.or_zero.symm, ← v_lg rA false]
      exact zfl_r _ _ _ _ _ _ _ _
  rcases zr_hd (c := 7) hy rfl with e | hy
  · subst e
    have m : zpc (fX12_does_101 μ 7 b (σ.1 36 0)) (fun r => r = zsi μ 3 1 (gxy (mF (μ.1 3 1) (hS (σ.1 36 0) b 0) (cX ((σ.1 36 0 - b) - 0)) (((σ.1 36 0 - b) - 0) &&& 255) (oX ((sg (σ.1 36 0) - sg b) - 0)) 1) b)) := by
      unfold fX12_does_101 fX12_does_111 fX12_does_120 fX12_does_132
      refine zpc_if (fun q => absurd q (by decide)) (fun _ => zpc_if (fun q => absurd q (by decide)) (fun _ => zpc_if (fun _ => zpc_if (fun _ => p_subM7 rfl) (fun q => absurd rfl q)) (fun q => absurd (by decide) q)))
    have c : zpc (fX5_difference σ (zgi σ 36 (0 : Int32).toNatClampNeg) b 0) (fun r => r = (zsi σ 36 1 (cdif (σ.1 36 0) b 0), ((σ.1 36 0 - b) - 0) &&& 255)) := p_difC
    refine zp2_ifl (fun q => absurd q (by decide)) (fun _ => zp2_ifl (fun q => absurd q (by decide)) (fun _ => zp2_ifl (fun q => absurd q (by decide)) (fun _ => zp2_ifl (fun q => absurd q (by decide)) (fun _ => zp2_ifl (fun q => absurd q (by decide)) (fun _ => zp2_ifl (fun q => absurd q (by decide)) (fun _ => zp2_ifl (fun q => absurd q (by decide)) (fun _ => zp2_ckl (zp2_bil c (fun s1 v1 e1 => ?_)))))))))
    cases e1
    refine zp2_ifr (fun q => absurd q (by decide)) (fun _ => zp2_ifr (fun _ => ?_) (fun q => absurd (by decide) q))
    intro r r' er er'
    have er : some (zsi (zsi σ 36 1 (cdif (σ.1 36 0) b 0)) 36 1 ((cdif (σ.1 36 0) b 0 &&& (-41)) ||| (b &&& 40))) = some r := er
    have em := m _ er'
    cases er
    rw [em, zsi_ow]
    have e : gxy (mF (μ.1 3 1) (hS (σ.1 36 0) b 0) (cX ((σ.1 36 0 - b) - 0)) (((σ.1 36 0 - b) - 0) &&& 255) (oX ((sg (σ.1 36 0) - sg b) - 0)) 1) b = (cdif (σ.1 36 0) b 0 &&& (-41)) ||| (b &&& 40) := by
      rw [ef, fl_mF hf, fl_xy, ← v_dif ha hb c0, v_cp hb]
      rfl
    rw [e]
    refine ⟨h.upd hI [1] (zQ.wi zQ.rf rfl) (zQ.wi zQ.rf rfl) rfl (zAl1 ⟨rfl, zrg_b (Or.inl (by decide)) ?_⟩), rfl, zQ.wi zQ.rf rfl, zQ.wi zQ.rf rfl⟩
    show zr 0 255 ((cdif (σ.1 36 0) b 0 &&& (-41)) ||| (b &&& 40))
    rw [← v_dif ha hb c0, v_cp hb]
    exact zfl_r _ _ _ _ _ _ _ _
  exact zr_no9 hy (by decide)
end ZDO
end ZJN7
section ZJN8
/-! INC AND DEC -/
/-- the end of an instruction, with its beats -/
noncomputable def zEnq (I : zSt → zSt → Prop) (r r' : zSt × Int32) : Prop := zTT I r.1 r'.1 ∧ zF r.1 r'.1 ∧ zWzz r.1 r'.1 ∧ r'.2 = r.2
section ZID
variable {μ σ : zSt} {v w y f : Int32}
noncomputable def cinc (f w : Int32) : Int32 := (((f &&& 1) ||| cby w) ||| (if w &&& 15 = 0 then 16 else 0)) ||| (if w = 128 then 4 else 0)
noncomputable def minc (f w : Int32) : Int32 := pt (pt (pt (gby f w) 4 (if w &&& 15 = 0 then 1 else 0)) 2 (if w = 128 then 1 else 0)) 1 0
theorem p_incC : zpc (fX5_oneMore σ v) (fun r => r = (zsi σ 36 1 (cinc (σ.1 36 1) ((v + 1) &&& 255)), (v + 1) &&& 255)) := by
  unfold fX5_oneMore fX5_oneMore_39 fX5_oneMore_52 cinc
  refine zpc_bv (fun u eu => zpc_ck (zpc_bi p_byC (fun t x et => ?_)))
  cases et
  subst eu
  refine zpc_if (fun q => zpc_if (fun q2 => zpc_ck (zpc_bv (fun t et => zpc_some ?_))) (fun q2 => zpc_ck (zpc_bv (fun t et => zpc_some ?_)))) (fun q => zpc_if (fun q2 => zpc_ck (zpc_bv (fun t et => zpc_some ?_))) (fun q2 => zpc_ck (zpc_bv (fun t et => zpc_some ?_))))
  · rw [et, if_pos q, if_pos q2]; rfl
  · rw [et, if_pos q, if_neg q2]; rfl
  · rw [et, if_neg q, if_pos q2]; rfl
  · rw [et, if_neg q, if_neg q2]; rfl
theorem p_incM : zpc (fX12_singles_84 (zsi μ 3 1 f) y 4 w 0 (w &&& 15) 4) (fun r => r = (zsi μ 3 1 (pt (pt (pt f 4 (if w &&& 15 = 0 then 1 else 0)) 2 (if w = 128 then 1 else 0)) 1 0), if y = 6 then 11 else 4)) := by
  unfold fX12_singles_84
  refine zpc_j (K := fun h => fX12_singles_92 (zsi μ 3 1 f) y 4 w h 4) (a := 1) (b := 0) (fun h eh => ?_)
  unfold fX12_singles_92
  refine zpc_bu p_put (fun t et => ?_)
  subst et
  refine zpc_if (fun _ => ?_) (fun q => absurd rfl q)
  unfold fX12_singles_111
  refine zpc_j (K := fun g => fX12_singles_119 (zsi μ 3 1 (pt f 4 h)) y 4 g 2) (a := 1) (b := 0) (fun g eg => ?_)
  unfold fX12_singles_119
  refine zpc_bu p_put (fun t et => ?_)
  subst et
  refine zpc_if (fun q => absurd q (by decide)) (fun _ => ?_)
  unfold fX12_singles_134 fX12_singles_149
  refine zpc_bu p_put (fun t et => ?_)
  subst et
  refine zpc_if (fun q => zpc_some ?_) (fun q => zpc_some ?_)
  · rw [if_pos q, eh, eg]
  · rw [if_neg q, eh, eg]
theorem v_incf : ∀ i : Fin 256, ∀ c : Fin 2, zfl (d7 (Int32.ofNat i.val)) (d6 (Int32.ofNat i.val)) (d5 (Int32.ofNat i.val)) (bc (if (Int32.ofNat i.val) &&& 15 = 0 then 1 else 0)) (d3 (Int32.ofNat i.val)) (bc (if Int32.ofNat i.val = 128 then 1 else 0)) false (bc (Int32.ofNat c.val)) = (((Int32.ofNat c.val) ||| cby (Int32.ofNat i.val)) ||| (if (Int32.ofNat i.val) &&& 15 = 0 then 16 else 0)) ||| (if Int32.ofNat i.val = 128 then 4 else 0) := by decide +kernel
theorem v_inc (hf : zr 0 255 f) (hw : zr 0 255 w) : minc f w = cinc f w := by
  have e : minc f w = zfl (d7 w) (d6 w) (d5 w) (bc (if w &&& 15 = 0 then 1 else 0)) (d3 w) (bc (if w = 128 then 1 else 0)) false (bc (f &&& 1)) := by
    unfold minc
    rw [fl_of hf, fl_by, pt_4, pt_2, pt_1, ← fl_of hf]
    rfl
  rw [e]
  unfold cinc
  obtain ⟨c, ec⟩ := z_bit1 (z_r1 f)
  obtain ⟨i, ei⟩ := z_byteF hw
  rw [ec]
  subst ei
  exact v_incf i c
theorem r_inc (hf : zr 0 255 f) (hw : zr 0 255 w) : zr 0 255 (cinc f w) := by
  rw [← v_inc hf hw]
  unfold minc
  rw [fl_of hf, fl_by, pt_4, pt_2, pt_1]
  exact zfl_r _ _ _ _ _ _ _ _
noncomputable def cdec (f w : Int32) : Int32 := ((((f &&& 1) ||| cby w) ||| (if w &&& 15 = 15 then 16 else 0)) ||| (if w = 127 then 4 else 0)) ||| 2
noncomputable def mdec (f w : Int32) : Int32 := pt (pt (pt (gby f w) 4 (if w &&& 15 = 15 then 1 else 0)) 2 (if w = 127 then 1 else 0)) 1 1
theorem p_decC : zpc (fX5_oneLess σ v) (fun r => r = (zsi σ 36 1 (cdec (σ.1 36 1) ((v - 1) &&& 255)), (v - 1) &&& 255)) := by
  unfold fX5_oneLess fX5_oneLess_41 fX5_oneLess_53 cdec
  refine zpc_bv (fun u eu => zpc_ck (zpc_bi p_byC (fun t x et => ?_)))
  cases et
  subst eu
  refine zpc_if (fun q => zpc_if (fun q2 => zpc_ck (zpc_bv (fun t et => zpc_some ?_))) (fun q2 => zpc_ck (zpc_bv (fun t et => zpc_some ?_)))) (fun q => zpc_if (fun q2 => zpc_ck (zpc_bv (fun t et => zpc_some ?_))) (fun q2 => zpc_ck (zpc_bv (fun t et => zpc_some ?_))))
  · rw [et, if_pos q, if_pos q2]; rfl
  · rw [et, if_pos q, if_neg q2]; rfl
  · rw [et, if_neg q, if_pos q2]; rfl
  · rw [et, if_neg q, if_neg q2]; rfl
theorem p_decM : zpc (fX12_singles_84 (zsi μ 3 1 f) y 5 w 15 (w &&& 15) 4) (fun r => r = (zsi μ 3 1 (pt (pt (pt f 4 (if w &&& 15 = 15 then 1 else 0)) 2 (if w = 127 then 1 else 0)) 1 1), if y = 6 then 11 else 4)) := by
  unfold fX12_singles_84
  refine zpc_j (K := fun h => fX12_singles_92 (zsi μ 3 1 f) y 5 w h 4) (a := 1) (b := 0) (fun h eh => ?_)
  unfold fX12_singles_92
  refine zpc_bu p_put (fun t et => ?_)
  subst et
  refine zpc_if (fun q => absurd q (by decide)) (fun _ => ?_)
  unfold fX12_singles_111
  refine zpc_j (K := fun g => fX12_singles_119 (zsi μ 3 1 (pt f 4 h)) y 5 g 2) (a := 1) (b := 0) (fun g eg => ?_)
  unfold fX12_singles_119
  refine zpc_bu p_put (fun t et => ?_)
  subst et
  refine zpc_if (fun _ => ?_) (fun q => absurd rfl q)
  unfold fX12_singles_134 fX12_singles_149
  refine zpc_bu p_put (fun t et => ?_)
  subst et
  refine zpc_if (fun q => zpc_some ?_) (fun q => zpc_some ?_)
  · rw [if_pos q, eh, eg]
  · rw [if_neg q, eh, eg]
theorem v_decf : ∀ i : Fin 256, ∀ c : Fin 2, zfl (d7 (Int32.ofNat i.val)) (d6 (Int32.ofNat i.val)) (d5 (Int32.ofNat i.val)) (bc (if (Int32.ofNat i.val) &&& 15 = 15 then 1 else 0)) (d3 (Int32.ofNat i.val)) (bc (if Int32.ofNat i.val = 127 then 1 else 0)) true (bc (Int32.ofNat c.val)) = ((((Int32.ofNat c.val) ||| cby (Int32.ofNat i.val)) ||| (if (Int32.ofNat i.val) &&& 15 = 15 then 16 else 0)) ||| (if Int32.ofNat i.val = 127 then 4 else 0)) ||| 2 := by decide +kernel
theorem v_dec (hf : zr 0 255 f) (hw : zr 0 255 w) : mdec f w = cdec f w := by
  have e : mdec f w = zfl (d7 w) (d6 w) (d5 w) (bc (if w &&& 15 = 15 then 1 else 0)) (d3 w) (bc (if w = 127 then 1 else 0)) true (bc (f &&& 1)) := by
    unfold mdec
    rw [fl_of hf, fl_by, pt_4, pt_2, pt_1, ← fl_of hf]
    rfl
  rw [e]
  unfold cdec
  obtain ⟨c, ec⟩ := z_bit1 (z_r1 f)
  obtain ⟨i, ei⟩ := z_byteF hw
  rw [ec]
  subst ei
  exact v_decf i c
theorem r_dec (hf : zr 0 255 f) (hw : zr 0 255 w) : zr 0 255 (cdec f w) := by
  rw [← v_dec hf hw]
  unfold mdec
  rw [fl_of hf, fl_by, pt_4, pt_2, pt_1]
  exact zfl_r _ _ _ _ _ _ _ _
end ZID
section ZID2
variable {I : zSt → zSt → Prop} {σ μ : zSt}
theorem t_inc (hI : zIoK I) (h : zTT I σ μ) (hF : zF σ μ) (hW : zWzz σ μ) (hp : zPlc σ μ) {y : Int32} (hy : zr 0 7 y) : zp2 (zbi (fX5_one σ y) (fun s v => zbi (fX5_oneMore s v) (fun s2 w => zbu (fX5_putOne s2 y w) (fun s3 => if y = 6 then fX5_firstQuarter_143 s3 11 else fX5_firstQuarter_143 s3 4)))) (fX12_singles μ y 4) (zEnq I) := by
  have hf : zr 0 255 (σ.1 36 1) := h.b (by decide)
  unfold fX12_singles
  refine zp2_ifr (fun q => absurd q (by decide)) (fun _ => zp2_ifr (fun q => absurd q (by decide)) (fun _ => zp2_bii (t_one h hp hy) (fun s v t v' q => ?_)))
  obtain ⟨q1, q2, q3, q4⟩ := q
  have q1 : s = σ := q1
  have q2 : t = μ := q2
  have q3 : v' = v := q3
  subst q1
  subst q2
  subst q3
  refine zp2_ifr (fun _ => ?_) (fun q => absurd rfl q)
  unfold fX12_singles_50
  refine zp2_bil p_incC (fun s2 w2 e2 => zp2_bvr (fun u eu => ?_))
  cases e2
  have eu : u = (v' + 1) &&& 255 := eu
  subst eu
  have hu : zr 0 255 ((v' + 1) &&& 255) := z_r8 _
  generalize (v' + 1) &&& 255 = u at hu
  refine zp2_buu (t_putOne hI (h.onC hI (Or.inl rfl) (zrg_b (Or.inl (by decide)) (r_inc hf hu))) (hp.of rfl rfl rfl rfl rfl) hy (z_m255 hu) hu) (fun s3 t3 q => ?_)
  obtain ⟨a1, a2, a3⟩ := q
  refine zp2_bur p_by' (fun t4 e4 => ?_)
  subst e4
  refine zp2_ifr (fun _ => ?_) (fun q => absurd rfl q)
  unfold fX5_firstQuarter_143
  have fin : ∀ bts : Int32, zEnq I (s3, bts) (zsi t3 3 1 (minc (t3.1 3 1) u), bts) := fun bts => by
    refine ⟨a1.onM hI (Or.inl rfl), ?_, ?_, rfl⟩
    · show minc (t3.1 3 1) u = s3.1 36 1
      rw [a3.1 3 1 rfl, a2.1 36 1 rfl, show t.1 3 1 = s.1 36 1 from hF, v_inc hf hu]
      rfl
    · show t3.1 3 20 = s3.1 36 20
      rw [a3.1 3 20 rfl, a2.1 36 20 rfl]
      exact hW
  intro r r' er er'
  have em := p_incM (μ := t3) (f := gby (t3.1 3 1) u) (y := y) (w := u) _ er'
  by_cases y6 : y = 6
  · rw [if_pos y6] at er em
    cases er
    rw [em]
    exact fin 11
  · rw [if_neg y6] at er em
    cases er
    rw [em]
    exact fin 4
theorem t_dec (hI : zIoK I) (h : zTT I σ μ) (hF : zF σ μ) (hW : zWzz σ μ) (hp : zPlc σ μ) {y : Int32} (hy : zr 0 7 y) : zp2 (zbi (fX5_one σ y) (fun s v => zbi (fX5_oneLess s v) (fun s2 w => zbu (fX5_putOne s2 y w) (fun s3 => if y = 6 then fX5_firstQuarter_170 s3 11 else fX5_firstQuarter_170 s3 4)))) (fX12_singles μ y 5) (zEnq I) := by
  have hf : zr 0 255 (σ.1 36 1) := h.b (by decide)
  unfold fX12_singles
  refine zp2_ifr (fun q => absurd q (by decide)) (fun _ => zp2_ifr (fun q => absurd q (by decide)) (fun _ => zp2_bii (t_one h hp hy) (fun s v t v' q => ?_)))
  obtain ⟨q1, q2, q3, q4⟩ := q
  have q1 : s = σ := q1
  have q2 : t = μ := q2
  have q3 : v' = v := q3
  subst q1
  subst q2
  subst q3
  refine zp2_ifr (fun q => absurd q (by decide)) (fun _ => ?_)
  unfold fX12_singles_50
  refine zp2_bil p_decC (fun s2 w2 e2 => zp2_bvr (fun u eu => ?_))
  cases e2
  have eu : u = (v' - 1) &&& 255 := by rw [eu, Int32.sub_eq_add_neg]
  subst eu
  have hu : zr 0 255 ((v' - 1) &&& 255) := z_r8 _
  generalize (v' - 1) &&& 255 = u at hu
  refine zp2_buu (t_putOne hI (h.onC hI (Or.inl rfl) (zrg_b (Or.inl (by decide)) (r_dec hf hu))) (hp.of rfl rfl rfl rfl rfl) hy (z_m255 hu) hu) (fun s3 t3 q => ?_)
  obtain ⟨a1, a2, a3⟩ := q
  refine zp2_bur p_by' (fun t4 e4 => ?_)
  subst e4
  refine zp2_ifr (fun q => absurd q (by decide)) (fun _ => ?_)
  unfold fX5_firstQuarter_170
  have fin : ∀ bts : Int32, zEnq I (s3, bts) (zsi t3 3 1 (mdec (t3.1 3 1) u), bts) := fun bts => by
    refine ⟨a1.onM hI (Or.inl rfl), ?_, ?_, rfl⟩
    · show mdec (t3.1 3 1) u = s3.1 36 1
      rw [a3.1 3 1 rfl, a2.1 36 1 rfl, show t.1 3 1 = s.1 36 1 from hF, v_dec hf hu]
      rfl
    · show t3.1 3 20 = s3.1 36 20
      rw [a3.1 3 20 rfl, a2.1 36 20 rfl]
      exact hW
  intro r r' er er'
  have em := p_decM (μ := t3) (f := gby (t3.1 3 1) u) (y := y) (w := u) _ er'
  by_cases y6 : y = 6
  · rw [if_pos y6] at er em
    cases er
    rw [em]
    exact fin 11
  · rw [if_neg y6] at er em
    cases er
    rw [em]
    exact fin 4
end ZID2
/-! TURNING -/
noncomputable def crot (w o : Int32) : Int32 := (cby w ||| cpar w) ||| o
section ZRT
variable {μ σ : zSt} {v : Int32}
theorem p_rotC0 : zpc (fX5_turn σ 0 v) (fun r => r = (zsi σ 36 1 (crot (((v <<< ((1 : Int32) &&& 31)) &&& 255) ||| (v >>> ((7 : Int32) &&& 31))) (v >>> ((7 : Int32) &&& 31))), ((v <<< ((1 : Int32) &&& 31)) &&& 255) ||| (v >>> ((7 : Int32) &&& 31)))) := by
  have f136 : ∀ (g w : Int32), zpc (fX5_turn_136 σ g w) (fun r => r = (zsi σ 36 1 (crot w g), w)) := fun g w => by
    unfold fX5_turn_136 crot
    refine zpc_bi p_byC (fun t x et => ?_)
    cases et
    refine zpc_bi p_parC (fun t x et => ?_)
    cases et
    exact zpc_ck (zpc_bv (fun t et => zpc_some (by rw [et]; rfl)))
  unfold fX5_turn fX5_turn_11 fX5_turn_26 fX5_turn_72 fX5_turn_79 fX5_turn_107 fX5_turn_110
  refine zpc_if (fun _ => zpc_if (fun q => absurd q (by decide)) (fun _ => ?_)) (fun q => absurd (by decide) q)
  exact zpc_if (fun _ => zpc_if (fun q => absurd q (by decide)) (fun _ => f136 _ _)) (fun q => absurd rfl q)
theorem p_rotM0 : zpc (fX12_turned μ 0 v) (fun r => r = (zsi μ 3 1 (pt (μ.1 3 1) 0 (if v >>> ((7 : Int32) &&& 31) = 1 then 1 else 0)), ((v <<< ((1 : Int32) &&& 31)) &&& 255) ||| (v >>> ((7 : Int32) &&& 31)))) := by
  have f74 : ∀ (g c : Int32), zpc (fX12_turned_74 μ v 1 g c) (fun r => r = (zsi μ 3 1 (pt (μ.1 3 1) 0 (if g = 1 then 1 else 0)), ((v <<< ((1 : Int32) &&& 31)) &&& 255) ||| c)) := fun g c => by
    unfold fX12_turned_74
    refine zpc_j (K := fun u => fX12_turned_89 μ v 1 c u 0) (a := 1) (b := 0) (fun u eu => ?_)
    unfold fX12_turned_89 fX12_turned_118
    refine zpc_bu p_put' (fun t et => ?_)
    rw [et, eu]
    exact zpc_if (fun q => absurd q (by decide)) (fun _ => zpc_some rfl)
  unfold fX12_turned fX12_turned_11 fX12_turned_26
  refine zpc_ck (zpc_if (fun _ => zpc_if (fun q => absurd q (by decide)) (fun _ => ?_)) (fun q => absurd (by decide) q))
  exact zpc_if (fun q => absurd q (by decide)) (fun _ => f74 _ _)
theorem p_rotC1 : zpc (fX5_turn σ 1 v) (fun r => r = (zsi σ 36 1 (crot ((v >>> ((1 : Int32) &&& 31)) ||| ((v &&& 1) <<< ((7 : Int32) &&& 31))) (v &&& 1)), (v >>> ((1 : Int32) &&& 31)) ||| ((v &&& 1) <<< ((7 : Int32) &&& 31)))) := by
  have f136 : ∀ (g w : Int32), zpc (fX5_turn_136 σ g w) (fun r => r = (zsi σ 36 1 (crot w g), w)) := fun g w => by
    unfold fX5_turn_136 crot
    refine zpc_bi p_byC (fun t x et => ?_)
    cases et
    refine zpc_bi p_parC (fun t x et => ?_)
    cases et
    exact zpc_ck (zpc_bv (fun t et => zpc_some (by rw [et]; rfl)))
  unfold fX5_turn fX5_turn_11 fX5_turn_26 fX5_turn_72 fX5_turn_79 fX5_turn_107 fX5_turn_110
  refine zpc_if (fun q => absurd q (by decide)) (fun _ => zpc_if (fun _ => ?_) (fun q => absurd rfl q))
  exact zpc_if (fun q => absurd q (by decide)) (fun _ => zpc_if (fun _ => zpc_if (fun _ => f136 _ _) (fun q => absurd rfl q)) (fun q => absurd rfl q))
theorem p_rotM1 : zpc (fX12_turned μ 1 v) (fun r => r = (zsi μ 3 1 (pt (μ.1 3 1) 0 (if v &&& 1 = 1 then 1 else 0)), (v >>> ((1 : Int32) &&& 31)) ||| ((v &&& 1) <<< ((7 : Int32) &&& 31)))) := by
  have f74 : ∀ (g c : Int32), zpc (fX12_turned_74 μ v 0 g c) (fun r => r = (zsi μ 3 1 (pt (μ.1 3 1) 0 (if g = 1 then 1 else 0)), (v >>> ((1 : Int32) &&& 31)) ||| (c <<< ((7 : Int32) &&& 31)))) := fun g c => by
    unfold fX12_turned_74
    refine zpc_j (K := fun u => fX12_turned_89 μ v 0 c u 0) (a := 1) (b := 0) (fun u eu => ?_)
    unfold fX12_turned_89 fX12_turned_118
    refine zpc_bu p_put' (fun t et => ?_)
    rw [et, eu]
    exact zpc_if (fun _ => zpc_some rfl) (fun q => absurd rfl q)
  unfold fX12_turned fX12_turned_11 fX12_turned_26
  refine zpc_ck (zpc_if (fun q => absurd q (by decide)) (fun _ => zpc_if (fun _ => ?_) (fun q => absurd rfl q)))
  exact zpc_if (fun q => absurd q (by decide)) (fun _ => f74 _ _)
theorem p_rotC2 : zpc (fX5_turn σ 2 v) (fun r => r = (zsi σ 36 1 (crot (((v <<< ((1 : Int32) &&& 31)) &&& 255) ||| (σ.1 36 1 &&& 1)) (v >>> ((7 : Int32) &&& 31))), ((v <<< ((1 : Int32) &&& 31)) &&& 255) ||| (σ.1 36 1 &&& 1))) := by
  have f136 : ∀ (g w : Int32), zpc (fX5_turn_136 σ g w) (fun r => r = (zsi σ 36 1 (crot w g), w)) := fun g w => by
    unfold fX5_turn_136 crot
    refine zpc_bi p_byC (fun t x et => ?_)
    cases et
    refine zpc_bi p_parC (fun t x et => ?_)
    cases et
    exact zpc_ck (zpc_bv (fun t et => zpc_some (by rw [et]; rfl)))
  unfold fX5_turn fX5_turn_11 fX5_turn_26 fX5_turn_72 fX5_turn_79 fX5_turn_107 fX5_turn_110
  refine zpc_if (fun _ => zpc_if (fun q => absurd q (by decide)) (fun _ => ?_)) (fun q => absurd (by decide) q)
  exact zpc_if (fun q => absurd q (by decide)) (fun _ => zpc_if (fun q => absurd q (by decide)) (fun _ => zpc_if (fun _ => zpc_ck (zpc_bv (fun u eu => by subst eu; exact zpc_if (fun q => absurd q (by decide)) (fun _ => f136 _ _)))) (fun q => absurd rfl q)))
theorem p_rotM2 : zpc (fX12_turned μ 2 v) (fun r => r = (zsi μ 3 1 (pt (μ.1 3 1) 0 (if v >>> ((7 : Int32) &&& 31) = 1 then 1 else 0)), ((v <<< ((1 : Int32) &&& 31)) &&& 255) ||| ((μ.1 3 1 >>> ((0 : Int32) &&& 31)) &&& 1))) := by
  have f74 : ∀ (g c : Int32), zpc (fX12_turned_74 μ v 1 g c) (fun r => r = (zsi μ 3 1 (pt (μ.1 3 1) 0 (if g = 1 then 1 else 0)), ((v <<< ((1 : Int32) &&& 31)) &&& 255) ||| c)) := fun g c => by
    unfold fX12_turned_74
    refine zpc_j (K := fun u => fX12_turned_89 μ v 1 c u 0) (a := 1) (b := 0) (fun u eu => ?_)
    unfold fX12_turned_89 fX12_turned_118
    refine zpc_bu p_put' (fun t et => ?_)
    rw [et, eu]
    exact zpc_if (fun q => absurd q (by decide)) (fun _ => zpc_some rfl)
  unfold fX12_turned fX12_turned_11 fX12_turned_26
  refine zpc_ck (zpc_if (fun _ => zpc_if (fun q => absurd q (by decide)) (fun _ => ?_)) (fun q => absurd (by decide) q))
  refine zpc_if (fun _ => zpc_if (fun q => absurd q (by decide)) (fun _ => zpc_bi p_flag (fun t u et => ?_))) (fun q => absurd (by decide) q)
  cases et
  exact f74 _ _
theorem p_rotC3 : zpc (fX5_turn σ 3 v) (fun r => r = (zsi σ 36 1 (crot ((v >>> ((1 : Int32) &&& 31)) ||| ((σ.1 36 1 &&& 1) <<< ((7 : Int32) &&& 31))) (v &&& 1)), (v >>> ((1 : Int32) &&& 31)) ||| ((σ.1 36 1 &&& 1) <<< ((7 : Int32) &&& 31)))) := by
  have f136 : ∀ (g w : Int32), zpc (fX5_turn_136 σ g w) (fun r => r = (zsi σ 36 1 (crot w g), w)) := fun g w => by
    unfold fX5_turn_136 crot
    refine zpc_bi p_byC (fun t x et => ?_)
    cases et
    refine zpc_bi p_parC (fun t x et => ?_)
    cases et
    exact zpc_ck (zpc_bv (fun t et => zpc_some (by rw [et]; rfl)))
  unfold fX5_turn fX5_turn_11 fX5_turn_26 fX5_turn_72 fX5_turn_79 fX5_turn_107 fX5_turn_110
  refine zpc_if (fun q => absurd q (by decide)) (fun _ => zpc_if (fun _ => ?_) (fun q => absurd rfl q))
  exact zpc_if (fun q => absurd q (by decide)) (fun _ => zpc_if (fun q => absurd q (by decide)) (fun _ => zpc_if (fun q => absurd q (by decide)) (fun _ => zpc_if (fun _ => zpc_ck (zpc_bv (fun u eu => by subst eu; exact zpc_if (fun _ => f136 _ _) (fun q => absurd rfl q)))) (fun q => absurd rfl q))))
theorem p_rotM3 : zpc (fX12_turned μ 3 v) (fun r => r = (zsi μ 3 1 (pt (μ.1 3 1) 0 (if v &&& 1 = 1 then 1 else 0)), (v >>> ((1 : Int32) &&& 31)) ||| (((μ.1 3 1 >>> ((0 : Int32) &&& 31)) &&& 1) <<< ((7 : Int32) &&& 31)))) := by
  have f74 : ∀ (g c : Int32), zpc (fX12_turned_74 μ v 0 g c) (fun r => r = (zsi μ 3 1 (pt (μ.1 3 1) 0 (if g = 1 then 1 else 0)), (v >>> ((1 : Int32) &&& 31)) ||| (c <<< ((7 : Int32) &&& 31)))) := fun g c => by
    unfold fX12_turned_74
    refine zpc_j (K := fun u => fX12_turned_89 μ v 0 c u 0) (a := 1) (b := 0) (fun u eu => ?_)
    unfold fX12_turned_89 fX12_turned_118
    refine zpc_bu p_put' (fun t et => ?_)
    rw [et, eu]
    exact zpc_if (fun _ => zpc_some rfl) (fun q => absurd rfl q)
  unfold fX12_turned fX12_turned_11 fX12_turned_26
  refine zpc_ck (zpc_if (fun q => absurd q (by decide)) (fun _ => zpc_if (fun _ => ?_) (fun q => absurd rfl q)))
  refine zpc_if (fun _ => zpc_if (fun q => absurd q (by decide)) (fun _ => zpc_bi p_flag (fun t u et => ?_))) (fun q => absurd (by decide) q)
  cases et
  exact f74 _ _
theorem p_rotC4 : zpc (fX5_turn σ 4 v) (fun r => r = (zsi σ 36 1 (crot (((v <<< ((1 : Int32) &&& 31)) &&& 255) ||| 0) (v >>> ((7 : Int32) &&& 31))), ((v <<< ((1 : Int32) &&& 31)) &&& 255) ||| 0)) := by
  have f136 : ∀ (g w : Int32), zpc (fX5_turn_136 σ g w) (fun r => r = (zsi σ 36 1 (crot w g), w)) := fun g w => by
    unfold fX5_turn_136 crot
    refine zpc_bi p_byC (fun t x et => ?_)
    cases et
    refine zpc_bi p_parC (fun t x et => ?_)
    cases et
    exact zpc_ck (zpc_bv (fun t et => zpc_some (by rw [et]; rfl)))
  unfold fX5_turn fX5_turn_11 fX5_turn_26 fX5_turn_72 fX5_turn_79 fX5_turn_107 fX5_turn_110
  refine zpc_if (fun _ => zpc_if (fun q => absurd q (by decide)) (fun _ => ?_)) (fun q => absurd (by decide) q)
  exact zpc_if (fun q => absurd q (by decide)) (fun _ => zpc_if (fun q => absurd q (by decide)) (fun _ => zpc_if (fun q => absurd q (by decide)) (fun _ => zpc_if (fun q => absurd q (by decide)) (fun _ => zpc_if (fun _ => zpc_if (fun q => absurd q (by decide)) (fun _ => f136 _ _)) (fun q => absurd rfl q)))))
theorem p_rotM4 : zpc (fX12_turned μ 4 v) (fun r => r = (zsi μ 3 1 (pt (μ.1 3 1) 0 (if v >>> ((7 : Int32) &&& 31) = 1 then 1 else 0)), ((v <<< ((1 : Int32) &&& 31)) &&& 255) ||| 0)) := by
  have f74 : ∀ (g c : Int32), zpc (fX12_turned_74 μ v 1 g c) (fun r => r = (zsi μ 3 1 (pt (μ.1 3 1) 0 (if g = 1 then 1 else 0)), ((v <<< ((1 : Int32) &&& 31)) &&& 255) ||| c)) := fun g c => by
    unfold fX12_turned_74
    refine zpc_j (K := fun u => fX12_turned_89 μ v 1 c u 0) (a := 1) (b := 0) (fun u eu => ?_)
    unfold fX12_turned_89 fX12_turned_118
    refine zpc_bu p_put' (fun t et => ?_)
    rw [et, eu]
    exact zpc_if (fun q => absurd q (by decide)) (fun _ => zpc_some rfl)
  unfold fX12_turned fX12_turned_11 fX12_turned_26
  refine zpc_ck (zpc_if (fun _ => zpc_if (fun q => absurd q (by decide)) (fun _ => ?_)) (fun q => absurd (by decide) q))
  exact zpc_if (fun _ => zpc_if (fun _ => zpc_if (fun q => absurd q (by decide)) (fun _ => zpc_if (fun q => absurd q (by decide)) (fun _ => f74 _ _))) (fun q => absurd (by decide) q)) (fun q => absurd (by decide) q)
theorem p_rotC5 : zpc (fX5_turn σ 5 v) (fun r => r = (zsi σ 36 1 (crot ((v >>> ((1 : Int32) &&& 31)) ||| ((v >>> ((7 : Int32) &&& 31)) <<< ((7 : Int32) &&& 31))) (v &&& 1)), (v >>> ((1 : Int32) &&& 31)) ||| ((v >>> ((7 : Int32) &&& 31)) <<< ((7 : Int32) &&& 31)))) := by
  have f136 : ∀ (g w : Int32), zpc (fX5_turn_136 σ g w) (fun r => r = (zsi σ 36 1 (crot w g), w)) := fun g w => by
    unfold fX5_turn_136 crot
    refine zpc_bi p_byC (fun t x et => ?_)
    cases et
    refine zpc_bi p_parC (fun t x et => ?_)
    cases et
    exact zpc_ck (zpc_bv (fun t et => zpc_some (by rw [et]; rfl)))
  unfold fX5_turn fX5_turn_11 fX5_turn_26 fX5_turn_72 fX5_turn_79 fX5_turn_107 fX5_turn_110
  refine zpc_if (fun q => absurd q (by decide)) (fun _ => zpc_if (fun _ => ?_) (fun q => absurd rfl q))
  exact zpc_if (fun q => absurd q (by decide)) (fun _ => zpc_if (fun q => absurd q (by decide)) (fun _ => zpc_if (fun q => absurd q (by decide)) (fun _ => zpc_if (fun q => absurd q (by decide)) (fun _ => zpc_if (fun q => absurd q (by decide)) (fun _ => zpc_if (fun _ => zpc_bv (fun u eu => by subst eu; exact zpc_if (fun _ => f136 _ _) (fun q => absurd rfl q))) (fun q => absurd rfl q))))))
theorem p_rotM5 : zpc (fX12_turned μ 5 v) (fun r => r = (zsi μ 3 1 (pt (μ.1 3 1) 0 (if v &&& 1 = 1 then 1 else 0)), (v >>> ((1 : Int32) &&& 31)) ||| ((v >>> ((7 : Int32) &&& 31)) <<< ((7 : Int32) &&& 31)))) := by
  have f74 : ∀ (g c : Int32), zpc (fX12_turned_74 μ v 0 g c) (fun r => r = (zsi μ 3 1 (pt (μ.1 3 1) 0 (if g = 1 then 1 else 0)), (v >>> ((1 : Int32) &&& 31)) ||| (c <<< ((7 : Int32) &&& 31)))) := fun g c => by
    unfold fX12_turned_74
    refine zpc_j (K := fun u => fX12_turned_89 μ v 0 c u 0) (a := 1) (b := 0) (fun u eu => ?_)
    unfold fX12_turned_89 fX12_turned_118
    refine zpc_bu p_put' (fun t et => ?_)
    rw [et, eu]
    exact zpc_if (fun _ => zpc_some rfl) (fun q => absurd rfl q)
  unfold fX12_turned fX12_turned_11 fX12_turned_26
  refine zpc_ck (zpc_if (fun q => absurd q (by decide)) (fun _ => zpc_if (fun _ => ?_) (fun q => absurd rfl q)))
  exact zpc_if (fun _ => zpc_if (fun _ => zpc_if (fun _ => f74 _ _) (fun q => absurd rfl q)) (fun q => absurd (by decide) q)) (fun q => absurd (by decide) q)
theorem p_rotC6 : zpc (fX5_turn σ 6 v) (fun r => r = (zsi σ 36 1 (crot (((v <<< ((1 : Int32) &&& 31)) &&& 255) ||| 1) (v >>> ((7 : Int32) &&& 31))), ((v <<< ((1 : Int32) &&& 31)) &&& 255) ||| 1)) := by
  have f136 : ∀ (g w : Int32), zpc (fX5_turn_136 σ g w) (fun r => r = (zsi σ 36 1 (crot w g), w)) := fun g w => by
    unfold fX5_turn_136 crot
    refine zpc_bi p_byC (fun t x et => ?_)
    cases et
    refine zpc_bi p_parC (fun t x et => ?_)
    cases et
    exact zpc_ck (zpc_bv (fun t et => zpc_some (by rw [et]; rfl)))
  unfold fX5_turn fX5_turn_11 fX5_turn_26 fX5_turn_72 fX5_turn_79 fX5_turn_107 fX5_turn_110
  refine zpc_if (fun _ => zpc_if (fun q => absurd q (by decide)) (fun _ => ?_)) (fun q => absurd (by decide) q)
  exact zpc_if (fun q => absurd q (by decide)) (fun _ => zpc_if (fun q => absurd q (by decide)) (fun _ => zpc_if (fun q => absurd q (by decide)) (fun _ => zpc_if (fun q => absurd q (by decide)) (fun _ => zpc_if (fun q => absurd q (by decide)) (fun _ => zpc_if (fun q => absurd q (by decide)) (fun _ => zpc_if (fun _ => zpc_if (fun q => absurd q (by decide)) (fun _ => f136 _ _)) (fun q => absurd rfl q)))))))
theorem p_rotM6 : zpc (fX12_turned μ 6 v) (fun r => r = (zsi μ 3 1 (pt (μ.1 3 1) 0 (if v >>> ((7 : Int32) &&& 31) = 1 then 1 else 0)), ((v <<< ((1 : Int32) &&& 31)) &&& 255) ||| 1)) := by
  have f74 : ∀ (g c : Int32), zpc (fX12_turned_74 μ v 1 g c) (fun r => r = (zsi μ 3 1 (pt (μ.1 3 1) 0 (if g = 1 then 1 else 0)), ((v <<< ((1 : Int32) &&& 31)) &&& 255) ||| c)) := fun g c => by
    unfold fX12_turned_74
    refine zpc_j (K := fun u => fX12_turned_89 μ v 1 c u 0) (a := 1) (b := 0) (fun u eu => ?_)
    unfold fX12_turned_89 fX12_turned_118
    refine zpc_bu p_put' (fun t et => ?_)
    rw [et, eu]
    exact zpc_if (fun q => absurd q (by decide)) (fun _ => zpc_some rfl)
  unfold fX12_turned fX12_turned_11 fX12_turned_26
  refine zpc_ck (zpc_if (fun _ => zpc_if (fun q => absurd q (by decide)) (fun _ => ?_)) (fun q => absurd (by decide) q))
  exact zpc_if (fun _ => zpc_if (fun _ => zpc_if (fun q => absurd q (by decide)) (fun _ => zpc_if (fun _ => f74 _ _) (fun q => absurd rfl q))) (fun q => absurd (by decide) q)) (fun q => absurd (by decide) q)
theorem p_rotC7 : zpc (fX5_turn σ 7 v) (fun r => r = (zsi σ 36 1 (crot ((v >>> ((1 : Int32) &&& 31)) ||| (0 <<< ((7 : Int32) &&& 31))) (v &&& 1)), (v >>> ((1 : Int32) &&& 31)) ||| (0 <<< ((7 : Int32) &&& 31)))) := by
  have f136 : ∀ (g w : Int32), zpc (fX5_turn_136 σ g w) (fun r => r = (zsi σ 36 1 (crot w g), w)) := fun g w => by
    unfold fX5_turn_136 crot
    refine zpc_bi p_byC (fun t x et => ?_)
    cases et
    refine zpc_bi p_parC (fun t x et => ?_)
    cases et
    exact zpc_ck (zpc_bv (fun t et => zpc_some (by rw [et]; rfl)))
  unfold fX5_turn fX5_turn_11 fX5_turn_26 fX5_turn_72 fX5_turn_79 fX5_turn_107 fX5_turn_110
  refine zpc_if (fun q => absurd q (by decide)) (fun _ => zpc_if (fun _ => ?_) (fun q => absurd rfl q))
  exact zpc_if (fun q => absurd q (by decide)) (fun _ => zpc_if (fun q => absurd q (by decide)) (fun _ => zpc_if (fun q => absurd q (by decide)) (fun _ => zpc_if (fun q => absurd q (by decide)) (fun _ => zpc_if (fun q => absurd q (by decide)) (fun _ => zpc_if (fun q => absurd q (by decide)) (fun _ => zpc_if (fun q => absurd q (by decide)) (fun _ => zpc_if (fun _ => f136 _ _) (fun q => absurd rfl q))))))))
theorem p_rotM7 : zpc (fX12_turned μ 7 v) (fun r => r = (zsi μ 3 1 (pt (μ.1 3 1) 0 (if v &&& 1 = 1 then 1 else 0)), (v >>> ((1 : Int32) &&& 31)) ||| (0 <<< ((7 : Int32) &&& 31)))) := by
  have f74 : ∀ (g c : Int32), zpc (fX12_turned_74 μ v 0 g c) (fun r => r = (zsi μ 3 1 (pt (μ.1 3 1) 0 (if g = 1 then 1 else 0)), (v >>> ((1 : Int32) &&& 31)) ||| (c <<< ((7 : Int32) &&& 31)))) := fun g c => by
    unfold fX12_turned_74
    refine zpc_j (K := fun u => fX12_turned_89 μ v 0 c u 0) (a := 1) (b := 0) (fun u eu => ?_)
    unfold fX12_turned_89 fX12_turned_118
    refine zpc_bu p_put' (fun t et => ?_)
    rw [et, eu]
    exact zpc_if (fun _ => zpc_some rfl) (fun q => absurd rfl q)
  unfold fX12_turned fX12_turned_11 fX12_turned_26
  refine zpc_ck (zpc_if (fun q => absurd q (by decide)) (fun _ => zpc_if (fun _ => ?_) (fun q => absurd rfl q)))
  exact zpc_if (fun _ => zpc_if (fun _ => zpc_if (fun q => absurd q (by decide)) (fun _ => zpc_if (fun q => absurd q (by decide)) (fun _ => f74 _ _))) (fun q => absurd (by decide) q)) (fun q => absurd (by decide) q)
end ZRT
theorem v_rotf0 : ∀ i : Fin 256, ∀ c : Fin 2, (0 ≤ ((((Int32.ofNat i.val) <<< ((1 : Int32) &&& 31)) &&& 255) ||| ((Int32.ofNat i.val) >>> ((7 : Int32) &&& 31))).toInt ∧ ((((Int32.ofNat i.val) <<< ((1 : Int32) &&& 31)) &&& 255) ||| ((Int32.ofNat i.val) >>> ((7 : Int32) &&& 31))).toInt ≤ 255) ∧ (0 ≤ ((Int32.ofNat i.val) >>> ((7 : Int32) &&& 31)).toInt ∧ ((Int32.ofNat i.val) >>> ((7 : Int32) &&& 31)).toInt ≤ 1) := by decide +kernel
theorem v_rotf1 : ∀ i : Fin 256, ∀ c : Fin 2, (0 ≤ (((Int32.ofNat i.val) >>> ((1 : Int32) &&& 31)) ||| (((Int32.ofNat i.val) &&& 1) <<< ((7 : Int32) &&& 31))).toInt ∧ (((Int32.ofNat i.val) >>> ((1 : Int32) &&& 31)) ||| (((Int32.ofNat i.val) &&& 1) <<< ((7 : Int32) &&& 31))).toInt ≤ 255) ∧ (0 ≤ ((Int32.ofNat i.val) &&& 1).toInt ∧ ((Int32.ofNat i.val) &&& 1).toInt ≤ 1) := by decide +kernel
theorem v_rotf2 : ∀ i : Fin 256, ∀ c : Fin 2, (0 ≤ ((((Int32.ofNat i.val) <<< ((1 : Int32) &&& 31)) &&& 255) ||| (Int32.ofNat c.val)).toInt ∧ ((((Int32.ofNat i.val) <<< ((1 : Int32) &&& 31)) &&& 255) ||| (Int32.ofNat c.val)).toInt ≤ 255) ∧ (0 ≤ ((Int32.ofNat i.val) >>> ((7 : Int32) &&& 31)).toInt ∧ ((Int32.ofNat i.val) >>> ((7 : Int32) &&& 31)).toInt ≤ 1) := by decide +kernel
theorem v_rotf3 : ∀ i : Fin 256, ∀ c : Fin 2, (0 ≤ (((Int32.ofNat i.val) >>> ((1 : Int32) &&& 31)) ||| ((Int32.ofNat c.val) <<< ((7 : Int32) &&& 31))).toInt ∧ (((Int32.ofNat i.val) >>> ((1 : Int32) &&& 31)) ||| ((Int32.ofNat c.val) <<< ((7 : Int32) &&& 31))).toInt ≤ 255) ∧ (0 ≤ ((Int32.ofNat i.val) &&& 1).toInt ∧ ((Int32.ofNat i.val) &&& 1).toInt ≤ 1) := by decide +kernel
theorem v_rotf4 : ∀ i : Fin 256, ∀ c : Fin 2, (0 ≤ ((((Int32.ofNat i.val) <<< ((1 : Int32) &&& 31)) &&& 255) ||| 0).toInt ∧ ((((Int32.ofNat i.val) <<< ((1 : Int32) &&& 31)) &&& 255) ||| 0).toInt ≤ 255) ∧ (0 ≤ ((Int32.ofNat i.val) >>> ((7 : Int32) &&& 31)).toInt ∧ ((Int32.ofNat i.val) >>> ((7 : Int32) &&& 31)).toInt ≤ 1) := by decide +kernel
theorem v_rotf5 : ∀ i : Fin 256, ∀ c : Fin 2, (0 ≤ (((Int32.ofNat i.val) >>> ((1 : Int32) &&& 31)) ||| (((Int32.ofNat i.val) >>> ((7 : Int32) &&& 31)) <<< ((7 : Int32) &&& 31))).toInt ∧ (((Int32.ofNat i.val) >>> ((1 : Int32) &&& 31)) ||| (((Int32.ofNat i.val) >>> ((7 : Int32) &&& 31)) <<< ((7 : Int32) &&& 31))).toInt ≤ 255) ∧ (0 ≤ ((Int32.ofNat i.val) &&& 1).toInt ∧ ((Int32.ofNat i.val) &&& 1).toInt ≤ 1) := by decide +kernel
theorem v_rotf6 : ∀ i : Fin 256, ∀ c : Fin 2, (0 ≤ ((((Int32.ofNat i.val) <<< ((1 : Int32) &&& 31)) &&& 255) ||| 1).toInt ∧ ((((Int32.ofNat i.val) <<< ((1 : Int32) &&& 31)) &&& 255) ||| 1).toInt ≤ 255) ∧ (0 ≤ ((Int32.ofNat i.val) >>> ((7 : Int32) &&& 31)).toInt ∧ ((Int32.ofNat i.val) >>> ((7 : Int32) &&& 31)).toInt ≤ 1) := by decide +kernel
theorem v_rotf7 : ∀ i : Fin 256, ∀ c : Fin 2, (0 ≤ (((Int32.ofNat i.val) >>> ((1 : Int32) &&& 31)) ||| (0 <<< ((7 : Int32) &&& 31))).toInt ∧ (((Int32.ofNat i.val) >>> ((1 : Int32) &&& 31)) ||| (0 <<< ((7 : Int32) &&& 31))).toInt ≤ 255) ∧ (0 ≤ ((Int32.ofNat i.val) &&& 1).toInt ∧ ((Int32.ofNat i.val) &&& 1).toInt ≤ 1) := by decide +kernel
theorem v_rtf : ∀ i : Fin 256, ∀ k : Fin 2, zfl (d7 (Int32.ofNat i.val)) (d6 (Int32.ofNat i.val)) (d5 (Int32.ofNat i.val)) false (d3 (Int32.ofNat i.val)) (bc (gev (Int32.ofNat i.val))) false (bc (if Int32.ofNat k.val = 1 then 1 else 0)) = crot (Int32.ofNat i.val) (Int32.ofNat k.val) := by decide +kernel
theorem v_rt {w g : Int32} (hw : zr 0 255 w) (hg : zr 0 1 g) : zfl (d7 w) (d6 w) (d5 w) false (d3 w) (bc (gev w)) false (bc (if g = 1 then 1 else 0)) = crot w g := by
  obtain ⟨i, ei⟩ := z_byteF hw
  obtain ⟨k, ek⟩ := z_bit1 hg
  subst ei
  subst ek
  exact v_rtf i k
theorem v_r41 : ∀ i : Fin 256, ∀ k : Fin 2, crot (Int32.ofNat i.val) (Int32.ofNat k.val) &&& 41 = ((bif d5 (Int32.ofNat i.val) then 32 else 0) ||| (bif d3 (Int32.ofNat i.val) then 8 else 0)) ||| (bif bc (if Int32.ofNat k.val = 1 then 1 else 0) then 1 else 0) := by decide +kernel
theorem v_196 : ∀ i : Fin 256, Int32.ofNat i.val &&& 196 = ((bif decide (¬ Int32.ofNat i.val &&& 128 = 0) then 128 else 0) ||| (bif decide (¬ Int32.ofNat i.val &&& 64 = 0) then 64 else 0)) ||| (bif decide (¬ Int32.ofNat i.val &&& 4 = 0) then 4 else 0) := by decide +kernel
theorem v_acB : ∀ b7 b6 b5 b3 b2 b0 : Bool, zfl b7 b6 b5 false b3 b2 false b0 = (((bif b7 then 128 else 0) ||| (bif b6 then 64 else 0)) ||| (bif b2 then 4 else 0)) ||| (((bif b5 then 32 else 0) ||| (bif b3 then 8 else 0)) ||| (bif b0 then 1 else 0)) := by decide
/-- the flags behind RLCA and its like -/
theorem v_ac {f w g : Int32} (hf : zr 0 255 f) (hw : zr 0 255 w) (hg : zr 0 1 g) : pt (pt (gxy (pt f 0 (if g = 1 then 1 else 0)) w) 4 0) 1 0 = (f &&& 196) ||| (crot w g &&& 41) := by
  have e : pt (pt (gxy (pt f 0 (if g = 1 then 1 else 0)) w) 4 0) 1 0 = zfl (decide (¬ f &&& 128 = 0)) (decide (¬ f &&& 64 = 0)) (d5 w) false (d3 w) (decide (¬ f &&& 4 = 0)) false (bc (if g = 1 then 1 else 0)) := by
    rw [fl_of hf, pt_0, fl_xy, pt_4, pt_1, ← fl_of hf]
    rfl
  rw [e, v_acB]
  obtain ⟨i, ei⟩ := z_byteF hw
  obtain ⟨k, ek⟩ := z_bit1 hg
  obtain ⟨l, el⟩ := z_byteF hf
  subst ei
  subst ek
  subst el
  rw [v_r41 i k, v_196 l]
end ZJN8
section ZJN9
/-! CONDITIONS -/
theorem v_b0 : ∀ i : Fin 256, ((Int32.ofNat i.val) >>> ((0 : Int32) &&& 31)) &&& 1 = if Int32.ofNat i.val &&& 1 = 0 then 0 else 1 := by decide +kernel
theorem z_bt0 {f : Int32} (h : zr 0 255 f) : (f >>> ((0 : Int32) &&& 31)) &&& 1 = if f &&& 1 = 0 then 0 else 1 := by
  obtain ⟨i, ei⟩ := z_byteF h
  subst ei
  exact v_b0 i
theorem v_b2 : ∀ i : Fin 256, ((Int32.ofNat i.val) >>> ((2 : Int32) &&& 31)) &&& 1 = if Int32.ofNat i.val &&& 4 = 0 then 0 else 1 := by decide +kernel
theorem z_bt2 {f : Int32} (h : zr 0 255 f) : (f >>> ((2 : Int32) &&& 31)) &&& 1 = if f &&& 4 = 0 then 0 else 1 := by
  obtain ⟨i, ei⟩ := z_byteF h
  subst ei
  exact v_b2 i
theorem v_b6 : ∀ i : Fin 256, ((Int32.ofNat i.val) >>> ((6 : Int32) &&& 31)) &&& 1 = if Int32.ofNat i.val &&& 64 = 0 then 0 else 1 := by decide +kernel
theorem z_bt6 {f : Int32} (h : zr 0 255 f) : (f >>> ((6 : Int32) &&& 31)) &&& 1 = if f &&& 64 = 0 then 0 else 1 := by
  obtain ⟨i, ei⟩ := z_byteF h
  subst ei
  exact v_b6 i
theorem v_b7 : ∀ i : Fin 256, ((Int32.ofNat i.val) >>> ((7 : Int32) &&& 31)) &&& 1 = if Int32.ofNat i.val &&& 128 = 0 then 0 else 1 := by decide +kernel
theorem z_bt7 {f : Int32} (h : zr 0 255 f) : (f >>> ((7 : Int32) &&& 31)) &&& 1 = if f &&& 128 = 0 then 0 else 1 := by
  obtain ⟨i, ei⟩ := z_byteF h
  subst ei
  exact v_b7 i
section ZCC
variable {I : zSt → zSt → Prop} {σ μ : zSt}
theorem t_cc (hF : zF σ μ) (hf : zr 0 255 (σ.1 36 1)) {y : Int32} (hy : zr 0 7 y) : zp2 (fX5_holds σ y) (fX12_cc μ y) (fun r r' => r.1 = σ ∧ r'.1 = μ ∧ r'.2 = r.2 ∧ zr 0 1 r.2) := by
  have ef : μ.1 3 1 = σ.1 36 1 := hF
  have r0 : zr 0 1 (0 : Int32) := zr_c (by decide)
  have r1 : zr 0 1 (1 : Int32) := zr_c (by decide)
  unfold fX5_holds fX12_cc fX5_holds_24 fX5_holds_36 fX5_holds_44 fX12_cc_32
  rcases zr_hd (c := 0) hy rfl with e | hy
  · subst e
    refine zp2_ckl (zp2_ckl ?_)
    refine zp2_ifr (fun q => absurd q (by decide)) (fun _ => ?_)
    refine zp2_bir p_flag (fun t u et => ?_)
    cases et
    rw [ef, z_bt6 hf]
    unfold fX12_cc_44 fX12_cc_56 fX12_cc_64
    by_cases q : σ.1 36 1 &&& 64 = 0
    · refine zp2_ifl (fun _ => ?_) (fun r => absurd (show σ.1 36 1 &&& 64 = 0 from q) r)
      refine zp2_ifl (fun q => absurd q (by decide)) (fun _ => ?_)
      refine zp2_ifl (fun _ => zp2_ckl ?_) (fun r => absurd rfl r)
      rw [if_pos q]
      refine zp2_ifr (fun q => absurd q (by decide)) (fun _ => zp2_ckr ?_)
      refine zp2_ifr (fun q => absurd q (by decide)) (fun _ => ?_)
      exact zp2_ifr (fun _ => zp2_ckr (zp2_some ⟨rfl, rfl, rfl, r1⟩)) (fun r => absurd rfl r)
    · refine zp2_ifl (fun r => absurd (show σ.1 36 1 &&& 64 = 0 from r) q) (fun _ => ?_)
      refine zp2_ifl (fun q => absurd q (by decide)) (fun _ => ?_)
      refine zp2_ifl (fun q => absurd q (by decide)) (fun _ => zp2_ckl ?_)
      rw [if_neg q]
      refine zp2_ifr (fun _ => zp2_ckr ?_) (fun r => absurd rfl r)
      refine zp2_ifr (fun q => absurd q (by decide)) (fun _ => ?_)
      exact zp2_ifr (fun q => absurd q (by decide)) (fun _ => zp2_ckr (zp2_some ⟨rfl, rfl, rfl, r0⟩))
  rcases zr_hd (c := 1) hy rfl with e | hy
  · subst e
    refine zp2_ckl (zp2_ckl ?_)
    refine zp2_ifr (fun q => absurd q (by decide)) (fun _ => ?_)
    refine zp2_bir p_flag (fun t u et => ?_)
    cases et
    rw [ef, z_bt6 hf]
    unfold fX12_cc_44 fX12_cc_56 fX12_cc_64
    by_cases q : σ.1 36 1 &&& 64 = 0
    · refine zp2_ifl (fun _ => ?_) (fun r => absurd (show σ.1 36 1 &&& 64 = 0 from q) r)
      refine zp2_ifl (fun _ => ?_) (fun r => absurd (by decide) r)
      refine zp2_ifl (fun q => absurd q (by decide)) (fun _ => zp2_ckl ?_)
      rw [if_pos q]
      refine zp2_ifr (fun q => absurd q (by decide)) (fun _ => zp2_ckr ?_)
      refine zp2_ifr (fun _ => ?_) (fun r => absurd (by decide) r)
      exact zp2_ifr (fun q => absurd q (by decide)) (fun _ => zp2_ckr (zp2_some ⟨rfl, rfl, rfl, r0⟩))
    · refine zp2_ifl (fun r => absurd (show σ.1 36 1 &&& 64 = 0 from r) q) (fun _ => ?_)
      refine zp2_ifl (fun _ => ?_) (fun r => absurd (by decide) r)
      refine zp2_ifl (fun _ => zp2_ckl ?_) (fun r => absurd rfl r)
      rw [if_neg q]
      refine zp2_ifr (fun _ => zp2_ckr ?_) (fun r => absurd rfl r)
      refine zp2_ifr (fun _ => ?_) (fun r => absurd (by decide) r)
      exact zp2_ifr (fun _ => zp2_ckr (zp2_some ⟨rfl, rfl, rfl, r1⟩)) (fun r => absurd rfl r)
  rcases zr_hd (c := 2) hy rfl with e | hy
  · subst e
    refine zp2_ckl (zp2_ckl ?_)
    refine zp2_ifr (fun _ => zp2_ifr (fun q => absurd q (by decide)) (fun _ => ?_)) (fun q => absurd (by decide) q)
    refine zp2_bir p_flag (fun t u et => ?_)
    cases et
    rw [ef, z_bt0 hf]
    unfold fX12_cc_44 fX12_cc_56 fX12_cc_64
    by_cases q : σ.1 36 1 &&& 1 = 0
    · refine zp2_ifl (fun _ => ?_) (fun r => absurd (show σ.1 36 1 &&& 1 = 0 from q) r)
      refine zp2_ifl (fun q => absurd q (by decide)) (fun _ => ?_)
      refine zp2_ifl (fun _ => zp2_ckl ?_) (fun r => absurd rfl r)
      rw [if_pos q]
      refine zp2_ifr (fun q => absurd q (by decide)) (fun _ => zp2_ckr ?_)
      refine zp2_ifr (fun q => absurd q (by decide)) (fun _ => ?_)
      exact zp2_ifr (fun _ => zp2_ckr (zp2_some ⟨rfl, rfl, rfl, r1⟩)) (fun r => absurd rfl r)
    · refine zp2_ifl (fun r => absurd (show σ.1 36 1 &&& 1 = 0 from r) q) (fun _ => ?_)
      refine zp2_ifl (fun q => absurd q (by decide)) (fun _ => ?_)
      refine zp2_ifl (fun q => absurd q (by decide)) (fun _ => zp2_ckl ?_)
      rw [if_neg q]
      refine zp2_ifr (fun _ => zp2_ckr ?_) (fun r => absurd rfl r)
      refine zp2_ifr (fun q => absurd q (by decide)) (fun _ => ?_)
      exact zp2_ifr (fun q => absurd q (by decide)) (fun _ => zp2_ckr (zp2_some ⟨rfl, rfl, rfl, r0⟩))
  rcases zr_hd (c := 3) hy rfl with e | hy
  · subst e
    refine zp2_ckl (zp2_ckl ?_)
    refine zp2_ifr (fun _ => zp2_ifr (fun q => absurd q (by decide)) (fun _ => ?_)) (fun q => absurd (by decide) q)
    refine zp2_bir p_flag (fun t u et => ?_)
    cases et
    rw [ef, z_bt0 hf]
    unfold fX12_cc_44 fX12_cc_56 fX12_cc_64
    by_cases q : σ.1 36 1 &&& 1 = 0
    · refine zp2_ifl (fun _ => ?_) (fun r => absurd (show σ.1 36 1 &&& 1 = 0 from q) r)
      refine zp2_ifl (fun _ => ?_) (fun r => absurd (by decide) r)
      refine zp2_ifl (fun q => absurd q (by decide)) (fun _ => zp2_ckl ?_)
      rw [if_pos q]
      refine zp2_ifr (fun q => absurd q (by decide)) (fun _ => zp2_ckr ?_)
      refine zp2_ifr (fun _ => ?_) (fun r => absurd (by decide) r)
      exact zp2_ifr (fun q => absurd q (by decide)) (fun _ => zp2_ckr (zp2_some ⟨rfl, rfl, rfl, r0⟩))
    · refine zp2_ifl (fun r => absurd (show σ.1 36 1 &&& 1 = 0 from r) q) (fun _ => ?_)
      refine zp2_ifl (fun _ => ?_) (fun r => absurd (by decide) r)
      refine zp2_ifl (fun _ => zp2_ckl ?_) (fun r => absurd rfl r)
      rw [if_neg q]
      refine zp2_ifr (fun _ => zp2_ckr ?_) (fun r => absurd rfl r)
      refine zp2_ifr (fun _ => ?_) (fun r => absurd (by decide) r)
      exact zp2_ifr (fun _ => zp2_ckr (zp2_some ⟨rfl, rfl, rfl, r1⟩)) (fun r => absurd rfl r)
  rcases zr_hd (c := 4) hy rfl with e | hy
  · subst e
    refine zp2_ckl (zp2_ckl ?_)
    refine zp2_ifr (fun _ => zp2_ifr (fun _ => zp2_ifr (fun q => absurd q (by decide)) (fun _ => ?_)) (fun q => absurd (by decide) q)) (fun q => absurd (by decide) q)
    refine zp2_bir p_flag (fun t u et => ?_)
    cases et
    rw [ef, z_bt2 hf]
    unfold fX12_cc_44 fX12_cc_56 fX12_cc_64
    by_cases q : σ.1 36 1 &&& 4 = 0
    · refine zp2_ifl (fun _ => ?_) (fun r => absurd (show σ.1 36 1 &&& 4 = 0 from q) r)
      refine zp2_ifl (fun q => absurd q (by decide)) (fun _ => ?_)
      refine zp2_ifl (fun _ => zp2_ckl ?_) (fun r => absurd rfl r)
      rw [if_pos q]
      refine zp2_ifr (fun q => absurd q (by decide)) (fun _ => zp2_ckr ?_)
      refine zp2_ifr (fun q => absurd q (by decide)) (fun _ => ?_)
      exact zp2_ifr (fun _ => zp2_ckr (zp2_some ⟨rfl, rfl, rfl, r1⟩)) (fun r => absurd rfl r)
    · refine zp2_ifl (fun r => absurd (show σ.1 36 1 &&& 4 = 0 from r) q) (fun _ => ?_)
      refine zp2_ifl (fun q => absurd q (by decide)) (fun _ => ?_)
      refine zp2_ifl (fun q => absurd q (by decide)) (fun _ => zp2_ckl ?_)
      rw [if_neg q]
      refine zp2_ifr (fun _ => zp2_ckr ?_) (fun r => absurd rfl r)
      refine zp2_ifr (fun q => absurd q (by decide)) (fun _ => ?_)
      exact zp2_ifr (fun q => absurd q (by decide)) (fun _ => zp2_ckr (zp2_some ⟨rfl, rfl, rfl, r0⟩))
  rcases zr_hd (c := 5) hy rfl with e | hy
  · subst e
    refine zp2_ckl (zp2_ckl ?_)
    refine zp2_ifr (fun _ => zp2_ifr (fun _ => zp2_ifr (fun q => absurd q (by decide)) (fun _ => ?_)) (fun q => absurd (by decide) q)) (fun q => absurd (by decide) q)
    refine zp2_bir p_flag (fun t u et => ?_)
    cases et
    rw [ef, z_bt2 hf]
    unfold fX12_cc_44 fX12_cc_56 fX12_cc_64
    by_cases q : σ.1 36 1 &&& 4 = 0
    · refine zp2_ifl (fun _ => ?_) (fun r => absurd (show σ.1 36 1 &&& 4 = 0 from q) r)
      refine zp2_ifl (fun _ => ?_) (fun r => absurd (by decide) r)
      refine zp2_ifl (fun q => absurd q (by decide)) (fun _ => zp2_ckl ?_)
      rw [if_pos q]
      refine zp2_ifr (fun q => absurd q (by decide)) (fun _ => zp2_ckr ?_)
      refine zp2_ifr (fun _ => ?_) (fun r => absurd (by decide) r)
      exact zp2_ifr (fun q => absurd q (by decide)) (fun _ => zp2_ckr (zp2_some ⟨rfl, rfl, rfl, r0⟩))
    · refine zp2_ifl (fun r => absurd (show σ.1 36 1 &&& 4 = 0 from r) q) (fun _ => ?_)
      refine zp2_ifl (fun _ => ?_) (fun r => absurd (by decide) r)
      refine zp2_ifl (fun _ => zp2_ckl ?_) (fun r => absurd rfl r)
      rw [if_neg q]
      refine zp2_ifr (fun _ => zp2_ckr ?_) (fun r => absurd rfl r)
      refine zp2_ifr (fun _ => ?_) (fun r => absurd (by decide) r)
      exact zp2_ifr (fun _ => zp2_ckr (zp2_some ⟨rfl, rfl, rfl, r1⟩)) (fun r => absurd rfl r)
  rcases zr_hd (c := 6) hy rfl with e | hy
  · subst e
    refine zp2_ckl (zp2_ckl ?_)
    refine zp2_ifr (fun _ => zp2_ifr (fun _ => zp2_ifr (fun _ => ?_) (fun q => absurd (by decide) q)) (fun q => absurd (by decide) q)) (fun q => absurd (by decide) q)
    refine zp2_bir p_flag (fun t u et => ?_)
    cases et
    rw [ef, z_bt7 hf]
    unfold fX12_cc_44 fX12_cc_56 fX12_cc_64
    by_cases q : σ.1 36 1 &&& 128 = 0
    · refine zp2_ifl (fun _ => ?_) (fun r => absurd (show σ.1 36 1 &&& 128 = 0 from q) r)
      refine zp2_ifl (fun q => absurd q (by decide)) (fun _ => ?_)
      refine zp2_ifl (fun _ => zp2_ckl ?_) (fun r => absurd rfl r)
      rw [if_pos q]
      refine zp2_ifr (fun q => absurd q (by decide)) (fun _ => zp2_ckr ?_)
      refine zp2_ifr (fun q => absurd q (by decide)) (fun _ => ?_)
      exact zp2_ifr (fun _ => zp2_ckr (zp2_some ⟨rfl, rfl, rfl, r1⟩)) (fun r => absurd rfl r)
    · refine zp2_ifl (fun r => absurd (show σ.1 36 1 &&& 128 = 0 from r) q) (fun _ => ?_)
      refine zp2_ifl (fun q => absurd q (by decide)) (fun _ => ?_)
      refine zp2_ifl (fun q => absurd q (by decide)) (fun _ => zp2_ckl ?_)
      rw [if_neg q]
      refine zp2_ifr (fun _ => zp2_ckr ?_) (fun r => absurd rfl r)
      refine zp2_ifr (fun q => absurd q (by decide)) (fun _ => ?_)
      exact zp2_ifr (fun q => absurd q (by decide)) (fun _ => zp2_ckr (zp2_some ⟨rfl, rfl, rfl, r0⟩))
  rcases zr_hd (c := 7) hy rfl with e | hy
  · subst e
    refine zp2_ckl (zp2_ckl ?_)
    refine zp2_ifr (fun _ => zp2_ifr (fun _ => zp2_ifr (fun _ => ?_) (fun q => absurd (by decide) q)) (fun q => absurd (by decide) q)) (fun q => absurd (by decide) q)
    refine zp2_bir p_flag (fun t u et => ?_)
    cases et
    rw [ef, z_bt7 hf]
    unfold fX12_cc_44 fX12_cc_56 fX12_cc_64
    by_cases q : σ.1 36 1 &&& 128 = 0
    · refine zp2_ifl (fun _ => ?_) (fun r => absurd (show σ.1 36 1 &&& 128 = 0 from q) r)
      refine zp2_ifl (fun _ => ?_) (fun r => absurd (by decide) r)
      refine zp2_ifl (fun q => absurd q (by decide)) (fun _ => zp2_ckl ?_)
      rw [if_pos q]
      refine zp2_ifr (fun q => absurd q (by decide)) (fun _ => zp2_ckr ?_)
      refine zp2_ifr (fun _ => ?_) (fun r => absurd (by decide) r)
      exact zp2_ifr (fun q => absurd q (by decide)) (fun _ => zp2_ckr (zp2_some ⟨rfl, rfl, rfl, r0⟩))
    · refine zp2_ifl (fun r => absurd (show σ.1 36 1 &&& 128 = 0 from r) q) (fun _ => ?_)
      refine zp2_ifl (fun _ => ?_) (fun r => absurd (by decide) r)
      refine zp2_ifl (fun _ => zp2_ckl ?_) (fun r => absurd rfl r)
      rw [if_neg q]
      refine zp2_ifr (fun _ => zp2_ckr ?_) (fun r => absurd rfl r)
      refine zp2_ifr (fun _ => ?_) (fun r => absurd (by decide) r)
      exact zp2_ifr (fun _ => zp2_ckr (zp2_some ⟨rfl, rfl, rfl, r1⟩)) (fun r => absurd rfl r)
  exact zr_no9 hy (by decide)
end ZCC
end ZJN9
section ZJN10
/-! A ALONE -/
theorem v_p4a : ∀ i : Fin 256, ((Int32.ofNat i.val &&& ((1 <<< ((4 : Int32) &&& 31)) ^^^ (-1))) >>> ((0 : Int32) &&& 31)) &&& 1 = Int32.ofNat i.val &&& 1 := by decide +kernel
theorem v_p4b : ∀ i : Fin 256, ((Int32.ofNat i.val ||| (1 <<< ((4 : Int32) &&& 31))) >>> ((0 : Int32) &&& 31)) &&& 1 = Int32.ofNat i.val &&& 1 := by decide +kernel
section ZAA
variable {I : zSt → zSt → Prop} {σ μ : zSt}
/-- both states given by A and F -/
theorem zEnq_af (hI : zIoK I) (h : zTT I σ μ) (hW : zWzz σ μ) {A F A' F' bts : Int32} {s t : zSt} (qc : zQ [] [(36, 0, 0), (36, 1, 1)] [] [] σ s) (qm : zQ [] [(3, 0, 0), (3, 1, 1)] [] [] μ t) (c0 : s.1 36 0 = A) (c1 : s.1 36 1 = F) (m0 : t.1 3 0 = A') (m1 : t.1 3 1 = F') (e1 : A' = A) (e2 : F' = F) (r1 : zr 0 255 A) (r2 : zr 0 255 F) : zEnq I (s, bts) (t, bts) := by
  refine ⟨h.upd hI [0, 1] qc qm rfl (zAl2 ⟨by rw [m0, c0, e1], by rw [c0]; exact zrg_b (Or.inl (by decide)) r1⟩ ⟨by rw [m1, c1, e2], by rw [c1]; exact zrg_b (Or.inl (by decide)) r2⟩), ?_, ?_, rfl⟩
  · show t.1 3 1 = s.1 36 1
    rw [m1, c1, e2]
  · exact hW.of (qc.1 36 20 rfl) (qm.1 3 20 rfl)

theorem t_acc0 (hI : zIoK I) (h : zTT I σ μ) (hF : zF σ μ) (hW : zWzz σ μ) : zp2 (zbu (fX5_changeA σ 0) (fun s => some (s, (4 : Int32)))) (fX12_singles μ 0 7) (zEnq I) := by
  have ea : μ.1 3 0 = σ.1 36 0 := h.eq (by decide)
  have ef : μ.1 3 1 = σ.1 36 1 := hF
  have ha : zr 0 255 (σ.1 36 0) := h.b (by decide)
  have hf : zr 0 255 (σ.1 36 1) := h.b (by decide)
  have hwo : zr 0 255 (((σ.1 36 0 <<< ((1 : Int32) &&& 31)) &&& 255) ||| (σ.1 36 0 >>> ((7 : Int32) &&& 31))) ∧ zr 0 1 (σ.1 36 0 >>> ((7 : Int32) &&& 31)) := by
    obtain ⟨i, ei⟩ := z_byteF ha
    obtain ⟨k, ek⟩ := z_bit1 (z_r1 (σ.1 36 1))
    rw [ei]
    exact ⟨(v_rotf0 i k).1, (v_rotf0 i k).2⟩
  have cC : zpc (fX5_changeA σ 0) (fun r => r = zsi (zsi (zsi σ 36 1 (crot (((σ.1 36 0 <<< ((1 : Int32) &&& 31)) &&& 255) ||| (σ.1 36 0 >>> ((7 : Int32) &&& 31))) (σ.1 36 0 >>> ((7 : Int32) &&& 31)))) 36 0 (((σ.1 36 0 <<< ((1 : Int32) &&& 31)) &&& 255) ||| (σ.1 36 0 >>> ((7 : Int32) &&& 31)))) 36 1 ((σ.1 36 1 &&& 196) ||| (crot (((σ.1 36 0 <<< ((1 : Int32) &&& 31)) &&& 255) ||| (σ.1 36 0 >>> ((7 : Int32) &&& 31))) (σ.1 36 0 >>> ((7 : Int32) &&& 31)) &&& 41))) := by
    unfold fX5_changeA
    refine zpc_ck (zpc_bv (fun u eu => zpc_ck (zpc_bv (fun u2 eu2 => zpc_if (fun q => absurd q (by decide)) (fun _ => zpc_if (fun q => absurd q (by decide)) (fun _ => zpc_if (fun q => absurd q (by decide)) (fun _ => zpc_if (fun q => absurd q (by decide)) (fun _ => zpc_ck (zpc_bi p_rotC0 (fun t x et => ?_))))))))))
    cases et
    refine zpc_ck (zpc_bv (fun s1 f1 => zpc_ck (zpc_ck (zpc_bv (fun s2 f2 => zpc_some ?_)))))
    subst eu
    rw [f2, f1]
    rfl
  have cM : zpc (fX12_singles μ 0 7) (fun r => r = (zsi (zsi (zsi μ 3 1 (pt (σ.1 36 1) 0 (if σ.1 36 0 >>> ((7 : Int32) &&& 31) = 1 then 1 else 0))) 3 0 (((σ.1 36 0 <<< ((1 : Int32) &&& 31)) &&& 255) ||| (σ.1 36 0 >>> ((7 : Int32) &&& 31)))) 3 1 (pt (pt (gxy (pt (σ.1 36 1) 0 (if σ.1 36 0 >>> ((7 : Int32) &&& 31) = 1 then 1 else 0)) (((σ.1 36 0 <<< ((1 : Int32) &&& 31)) &&& 255) ||| (σ.1 36 0 >>> ((7 : Int32) &&& 31)))) 4 0) 1 0), 4)) := by
    unfold fX12_singles fX12_singles_316
    refine zpc_if (fun q => absurd q (by decide)) (fun _ => zpc_if (fun _ => zpc_if (fun q => absurd q (by decide)) (fun _ => zpc_ck (zpc_bi p_rotM0 (fun t x et => ?_)))) (fun q => absurd (by decide) q))
    cases et
    rw [show zgi μ 3 (0 : Int32).toNatClampNeg = σ.1 36 0 from ea, ef]
    refine zpc_ck (zpc_bv (fun s1 f1 => zpc_ck (zpc_bu p_xy' (fun s2 f2 => ?_))))
    subst f2
    refine zpc_bu p_put (fun s3 f3 => ?_)
    subst f3
    refine zpc_bu p_put (fun s4 f4 => zpc_some ?_)
    rw [f4, f1]
    rfl
  refine zp2_bul cC (fun s es => ?_)
  intro r r' er er'
  cases er
  rw [cM r' er']
  refine zEnq_af hI h hW (by rw [es]; exact zQ.wi (zQ.wi (zQ.wi zQ.rf rfl) rfl) rfl) (zQ.wi (zQ.wi (zQ.wi zQ.rf rfl) rfl) rfl) (by rw [es]; rfl) (by rw [es]; rfl) rfl rfl rfl (v_ac hf hwo.1 hwo.2) hwo.1 ?_
  rw [← v_ac hf hwo.1 hwo.2, fl_of hf, pt_0, fl_xy, pt_4, pt_1]
  exact zfl_r _ _ _ _ _ _ _ _
theorem t_acc1 (hI : zIoK I) (h : zTT I σ μ) (hF : zF σ μ) (hW : zWzz σ μ) : zp2 (zbu (fX5_changeA σ 1) (fun s => some (s, (4 : Int32)))) (fX12_singles μ 1 7) (zEnq I) := by
  have ea : μ.1 3 0 = σ.1 36 0 := h.eq (by decide)
  have ef : μ.1 3 1 = σ.1 36 1 := hF
  have ha : zr 0 255 (σ.1 36 0) := h.b (by decide)
  have hf : zr 0 255 (σ.1 36 1) := h.b (by decide)
  have hwo : zr 0 255 ((σ.1 36 0 >>> ((1 : Int32) &&& 31)) ||| ((σ.1 36 0 &&& 1) <<< ((7 : Int32) &&& 31))) ∧ zr 0 1 (σ.1 36 0 &&& 1) := by
    obtain ⟨i, ei⟩ := z_byteF ha
    obtain ⟨k, ek⟩ := z_bit1 (z_r1 (σ.1 36 1))
    rw [ei]
    exact ⟨(v_rotf1 i k).1, (v_rotf1 i k).2⟩
  have cC : zpc (fX5_changeA σ 1) (fun r => r = zsi (zsi (zsi σ 36 1 (crot ((σ.1 36 0 >>> ((1 : Int32) &&& 31)) ||| ((σ.1 36 0 &&& 1) <<< ((7 : Int32) &&& 31))) (σ.1 36 0 &&& 1))) 36 0 ((σ.1 36 0 >>> ((1 : Int32) &&& 31)) ||| ((σ.1 36 0 &&& 1) <<< ((7 : Int32) &&& 31)))) 36 1 ((σ.1 36 1 &&& 196) ||| (crot ((σ.1 36 0 >>> ((1 : Int32) &&& 31)) ||| ((σ.1 36 0 &&& 1) <<< ((7 : Int32) &&& 31))) (σ.1 36 0 &&& 1) &&& 41))) := by
    unfold fX5_changeA
    refine zpc_ck (zpc_bv (fun u eu => zpc_ck (zpc_bv (fun u2 eu2 => zpc_if (fun q => absurd q (by decide)) (fun _ => zpc_if (fun q => absurd q (by decide)) (fun _ => zpc_if (fun q => absurd q (by decide)) (fun _ => zpc_if (fun q => absurd q (by decide)) (fun _ => zpc_ck (zpc_bi p_rotC1 (fun t x et => ?_))))))))))
    cases et
    refine zpc_ck (zpc_bv (fun s1 f1 => zpc_ck (zpc_ck (zpc_bv (fun s2 f2 => zpc_some ?_)))))
    subst eu
    rw [f2, f1]
    rfl
  have cM : zpc (fX12_singles μ 1 7) (fun r => r = (zsi (zsi (zsi μ 3 1 (pt (σ.1 36 1) 0 (if σ.1 36 0 &&& 1 = 1 then 1 else 0))) 3 0 ((σ.1 36 0 >>> ((1 : Int32) &&& 31)) ||| ((σ.1 36 0 &&& 1) <<< ((7 : Int32) &&& 31)))) 3 1 (pt (pt (gxy (pt (σ.1 36 1) 0 (if σ.1 36 0 &&& 1 = 1 then 1 else 0)) ((σ.1 36 0 >>> ((1 : Int32) &&& 31)) ||| ((σ.1 36 0 &&& 1) <<< ((7 : Int32) &&& 31)))) 4 0) 1 0), 4)) := by
    unfold fX12_singles fX12_singles_316
    refine zpc_if (fun q => absurd q (by decide)) (fun _ => zpc_if (fun _ => zpc_if (fun q => absurd q (by decide)) (fun _ => zpc_ck (zpc_bi p_rotM1 (fun t x et => ?_)))) (fun q => absurd (by decide) q))
    cases et
    rw [show zgi μ 3 (0 : Int32).toNatClampNeg = σ.1 36 0 from ea, ef]
    refine zpc_ck (zpc_bv (fun s1 f1 => zpc_ck (zpc_bu p_xy' (fun s2 f2 => ?_))))
    subst f2
    refine zpc_bu p_put (fun s3 f3 => ?_)
    subst f3
    refine zpc_bu p_put (fun s4 f4 => zpc_some ?_)
    rw [f4, f1]
    rfl
  refine zp2_bul cC (fun s es => ?_)
  intro r r' er er'
  cases er
  rw [cM r' er']
  refine zEnq_af hI h hW (by rw [es]; exact zQ.wi (zQ.wi (zQ.wi zQ.rf rfl) rfl) rfl) (zQ.wi (zQ.wi (zQ.wi zQ.rf rfl) rfl) rfl) (by rw [es]; rfl) (by rw [es]; rfl) rfl rfl rfl (v_ac hf hwo.1 hwo.2) hwo.1 ?_
  rw [← v_ac hf hwo.1 hwo.2, fl_of hf, pt_0, fl_xy, pt_4, pt_1]
  exact zfl_r _ _ _ _ _ _ _ _
theorem t_acc2 (hI : zIoK I) (h : zTT I σ μ) (hF : zF σ μ) (hW : zWzz σ μ) : zp2 (zbu (fX5_changeA σ 2) (fun s => some (s, (4 : Int32)))) (fX12_singles μ 2 7) (zEnq I) := by
  have ea : μ.1 3 0 = σ.1 36 0 := h.eq (by decide)
  have ef : μ.1 3 1 = σ.1 36 1 := hF
  have ha : zr 0 255 (σ.1 36 0) := h.b (by decide)
  have hf : zr 0 255 (σ.1 36 1) := h.b (by decide)
  have hwo : zr 0 255 (((σ.1 36 0 <<< ((1 : Int32) &&& 31)) &&& 255) ||| (σ.1 36 1 &&& 1)) ∧ zr 0 1 (σ.1 36 0 >>> ((7 : Int32) &&& 31)) := by
    obtain ⟨i, ei⟩ := z_byteF ha
    obtain ⟨k, ek⟩ := z_bit1 (z_r1 (σ.1 36 1))
    rw [ek, ei]
    exact ⟨(v_rotf2 i k).1, (v_rotf2 i k).2⟩
  have cC : zpc (fX5_changeA σ 2) (fun r => r = zsi (zsi (zsi σ 36 1 (crot (((σ.1 36 0 <<< ((1 : Int32) &&& 31)) &&& 255) ||| (σ.1 36 1 &&& 1)) (σ.1 36 0 >>> ((7 : Int32) &&& 31)))) 36 0 (((σ.1 36 0 <<< ((1 : Int32) &&& 31)) &&& 255) ||| (σ.1 36 1 &&& 1))) 36 1 ((σ.1 36 1 &&& 196) ||| (crot (((σ.1 36 0 <<< ((1 : Int32) &&& 31)) &&& 255) ||| (σ.1 36 1 &&& 1)) (σ.1 36 0 >>> ((7 : Int32) &&& 31)) &&& 41))) := by
    unfold fX5_changeA
    refine zpc_ck (zpc_bv (fun u eu => zpc_ck (zpc_bv (fun u2 eu2 => zpc_if (fun q => absurd q (by decide)) (fun _ => zpc_if (fun q => absurd q (by decide)) (fun _ => zpc_if (fun q => absurd q (by decide)) (fun _ => zpc_if (fun q => absurd q (by decide)) (fun _ => zpc_ck (zpc_bi p_rotC2 (fun t x et => ?_))))))))))
    cases et
    refine zpc_ck (zpc_bv (fun s1 f1 => zpc_ck (zpc_ck (zpc_bv (fun s2 f2 => zpc_some ?_)))))
    subst eu
    rw [f2, f1]
    rfl
  have cM : zpc (fX12_singles μ 2 7) (fun r => r = (zsi (zsi (zsi μ 3 1 (pt (σ.1 36 1) 0 (if σ.1 36 0 >>> ((7 : Int32) &&& 31) = 1 then 1 else 0))) 3 0 (((σ.1 36 0 <<< ((1 : Int32) &&& 31)) &&& 255) ||| (σ.1 36 1 &&& 1))) 3 1 (pt (pt (gxy (pt (σ.1 36 1) 0 (if σ.1 36 0 >>> ((7 : Int32) &&& 31) = 1 then 1 else 0)) (((σ.1 36 0 <<< ((1 : Int32) &&& 31)) &&& 255) ||| (σ.1 36 1 &&& 1))) 4 0) 1 0), 4)) := by
    unfold fX12_singles fX12_singles_316
    refine zpc_if (fun q => absurd q (by decide)) (fun _ => zpc_if (fun _ => zpc_if (fun q => absurd q (by decide)) (fun _ => zpc_ck (zpc_bi p_rotM2 (fun t x et => ?_)))) (fun q => absurd (by decide) q))
    cases et
    rw [show zgi μ 3 (0 : Int32).toNatClampNeg = σ.1 36 0 from ea, ef, z_c0 hf]
    refine zpc_ck (zpc_bv (fun s1 f1 => zpc_ck (zpc_bu p_xy' (fun s2 f2 => ?_))))
    subst f2
    refine zpc_bu p_put (fun s3 f3 => ?_)
    subst f3
    refine zpc_bu p_put (fun s4 f4 => zpc_some ?_)
    rw [f4, f1]
    rfl
  refine zp2_bul cC (fun s es => ?_)
  intro r r' er er'
  cases er
  rw [cM r' er']
  refine zEnq_af hI h hW (by rw [es]; exact zQ.wi (zQ.wi (zQ.wi zQ.rf rfl) rfl) rfl) (zQ.wi (zQ.wi (zQ.wi zQ.rf rfl) rfl) rfl) (by rw [es]; rfl) (by rw [es]; rfl) rfl rfl rfl (v_ac hf hwo.1 hwo.2) hwo.1 ?_
  rw [← v_ac hf hwo.1 hwo.2, fl_of hf, pt_0, fl_xy, pt_4, pt_1]
  exact zfl_r _ _ _ _ _ _ _ _
theorem t_acc3 (hI : zIoK I) (h : zTT I σ μ) (hF : zF σ μ) (hW : zWzz σ μ) : zp2 (zbu (fX5_changeA σ 3) (fun s => some (s, (4 : Int32)))) (fX12_singles μ 3 7) (zEnq I) := by
  have ea : μ.1 3 0 = σ.1 36 0 := h.eq (by decide)
  have ef : μ.1 3 1 = σ.1 36 1 := hF
  have ha : zr 0 255 (σ.1 36 0) := h.b (by decide)
  have hf : zr 0 255 (σ.1 36 1) := h.b (by decide)
  have hwo : zr 0 255 ((σ.1 36 0 >>> ((1 : Int32) &&& 31)) ||| ((σ.1 36 1 &&& 1) <<< ((7 : Int32) &&& 31))) ∧ zr 0 1 (σ.1 36 0 &&& 1) := by
    obtain ⟨i, ei⟩ := z_byteF ha
    obtain ⟨k, ek⟩ := z_bit1 (z_r1 (σ.1 36 1))
    rw [ek, ei]
    exact ⟨(v_rotf3 i k).1, (v_rotf3 i k).2⟩
  have cC : zpc (fX5_changeA σ 3) (fun r => r = zsi (zsi (zsi σ 36 1 (crot ((σ.1 36 0 >>> ((1 : Int32) &&& 31)) ||| ((σ.1 36 1 &&& 1) <<< ((7 : Int32) &&& 31))) (σ.1 36 0 &&& 1))) 36 0 ((σ.1 36 0 >>> ((1 : Int32) &&& 31)) ||| ((σ.1 36 1 &&& 1) <<< ((7 : Int32) &&& 31)))) 36 1 ((σ.1 36 1 &&& 196) ||| (crot ((σ.1 36 0 >>> ((1 : Int32) &&& 31)) ||| ((σ.1 36 1 &&& 1) <<< ((7 : Int32) &&& 31))) (σ.1 36 0 &&& 1) &&& 41))) := by
    unfold fX5_changeA
    refine zpc_ck (zpc_bv (fun u eu => zpc_ck (zpc_bv (fun u2 eu2 => zpc_if (fun q => absurd q (by decide)) (fun _ => zpc_if (fun q => absurd q (by decide)) (fun _ => zpc_if (fun q => absurd q (by decide)) (fun _ => zpc_if (fun q => absurd q (by decide)) (fun _ => zpc_ck (zpc_bi p_rotC3 (fun t x et => ?_))))))))))
    cases et
    refine zpc_ck (zpc_bv (fun s1 f1 => zpc_ck (zpc_ck (zpc_bv (fun s2 f2 => zpc_some ?_)))))
    subst eu
    rw [f2, f1]
    rfl
  have cM : zpc (fX12_singles μ 3 7) (fun r => r = (zsi (zsi (zsi μ 3 1 (pt (σ.1 36 1) 0 (if σ.1 36 0 &&& 1 = 1 then 1 else 0))) 3 0 ((σ.1 36 0 >>> ((1 : Int32) &&& 31)) ||| ((σ.1 36 1 &&& 1) <<< ((7 : Int32) &&& 31)))) 3 1 (pt (pt (gxy (pt (σ.1 36 1) 0 (if σ.1 36 0 &&& 1 = 1 then 1 else 0)) ((σ.1 36 0 >>> ((1 : Int32) &&& 31)) ||| ((σ.1 36 1 &&& 1) <<< ((7 : Int32) &&& 31)))) 4 0) 1 0), 4)) := by
    unfold fX12_singles fX12_singles_316
    refine zpc_if (fun q => absurd q (by decide)) (fun _ => zpc_if (fun _ => zpc_if (fun q => absurd q (by decide)) (fun _ => zpc_ck (zpc_bi p_rotM3 (fun t x et => ?_)))) (fun q => absurd (by decide) q))
    cases et
    rw [show zgi μ 3 (0 : Int32).toNatClampNeg = σ.1 36 0 from ea, ef, z_c0 hf]
    refine zpc_ck (zpc_bv (fun s1 f1 => zpc_ck (zpc_bu p_xy' (fun s2 f2 => ?_))))
    subst f2
    refine zpc_bu p_put (fun s3 f3 => ?_)
    subst f3
    refine zpc_bu p_put (fun s4 f4 => zpc_some ?_)
    rw [f4, f1]
    rfl
  refine zp2_bul cC (fun s es => ?_)
  intro r r' er er'
  cases er
  rw [cM r' er']
  refine zEnq_af hI h hW (by rw [es]; exact zQ.wi (zQ.wi (zQ.wi zQ.rf rfl) rfl) rfl) (zQ.wi (zQ.wi (zQ.wi zQ.rf rfl) rfl) rfl) (by rw [es]; rfl) (by rw [es]; rfl) rfl rfl rfl (v_ac hf hwo.1 hwo.2) hwo.1 ?_
  rw [← v_ac hf hwo.1 hwo.2, fl_of hf, pt_0, fl_xy, pt_4, pt_1]
  exact zfl_r _ _ _ _ _ _ _ _
theorem v_cplB : ∀ b7 b6 b5 b3 b2 b0 : Bool, zfl b7 b6 b5 true b3 b2 true b0 = (((((((bif b7 then 128 else 0) ||| (bif b6 then 64 else 0)) ||| (bif b2 then 4 else 0)) ||| (bif b0 then 1 else 0)) ||| 16) ||| 2) ||| ((bif b5 then 32 else 0) ||| (bif b3 then 8 else 0)) : Int32) := by decide
theorem v_scfB : ∀ b7 b6 b5 b3 b2 : Bool, zfl b7 b6 b5 false b3 b2 false true = (((((bif b7 then 128 else 0) ||| (bif b6 then 64 else 0)) ||| (bif b2 then 4 else 0)) ||| 1) ||| ((bif b5 then 32 else 0) ||| (bif b3 then 8 else 0)) : Int32) := by decide
theorem v_ccfB : ∀ b7 b6 b5 b3 b2 : Bool, zfl b7 b6 b5 true b3 b2 false false = (((((bif b7 then 128 else 0) ||| (bif b6 then 64 else 0)) ||| (bif b2 then 4 else 0)) ||| 16) ||| ((bif b5 then 32 else 0) ||| (bif b3 then 8 else 0)) : Int32) := by decide
theorem v_f1 : ∀ i : Fin 256, Int32.ofNat i.val &&& 1 = bif decide (¬ Int32.ofNat i.val &&& 1 = 0) then 1 else 0 := by decide +kernel
theorem z_40 {b : Int32} (h : zr 0 255 b) : b &&& 40 = (bif d5 b then 32 else 0) ||| (bif d3 b then 8 else 0) := by
  obtain ⟨i, e⟩ := z_byteF h
  rw [e]
  exact v_40 i
theorem z_196 {f : Int32} (h : zr 0 255 f) : f &&& 196 = ((bif decide (¬ f &&& 128 = 0) then 128 else 0) ||| (bif decide (¬ f &&& 64 = 0) then 64 else 0)) ||| (bif decide (¬ f &&& 4 = 0) then 4 else 0) := by
  obtain ⟨i, e⟩ := z_byteF h
  rw [e]
  exact v_196 i
theorem z_f1 {f : Int32} (h : zr 0 255 f) : f &&& 1 = bif decide (¬ f &&& 1 = 0) then 1 else 0 := by
  obtain ⟨i, e⟩ := z_byteF h
  rw [e]
  exact v_f1 i
theorem t_acc5 (hI : zIoK I) (h : zTT I σ μ) (hF : zF σ μ) (hW : zWzz σ μ) : zp2 (zbu (fX5_changeA σ 5) (fun s => some (s, (4 : Int32)))) (fX12_singles μ 5 7) (zEnq I) := by
  have ea : μ.1 3 0 = σ.1 36 0 := h.eq (by decide)
  have ef : μ.1 3 1 = σ.1 36 1 := hF
  have ha : zr 0 255 (σ.1 36 0) := h.b (by decide)
  have hf : zr 0 255 (σ.1 36 1) := h.b (by decide)
  have hw : zr 0 255 (σ.1 36 0 ^^^ 255) := z_xb ha (zr_c (by decide))
  have cC : zpc (fX5_changeA σ 5) (fun r => r = zsi (zsi σ 36 0 (σ.1 36 0 ^^^ 255)) 36 1 (((((σ.1 36 1 &&& 196) ||| (σ.1 36 1 &&& 1)) ||| 16) ||| 2) ||| ((σ.1 36 0 ^^^ 255) &&& 40))) := by
    unfold fX5_changeA
    refine zpc_ck (zpc_bv (fun u eu => zpc_ck (zpc_bv (fun u2 eu2 => zpc_if (fun q => absurd q (by decide)) (fun _ => zpc_if (fun _ => zpc_ck (zpc_ck (zpc_bv (fun s1 f1 => zpc_ck (zpc_ck (zpc_bv (fun s2 f2 => zpc_some ?_))))))) (fun q => absurd rfl q))))))
    subst eu
    subst eu2
    rw [f2, f1]
    rfl
  have cM : zpc (fX12_singles μ 5 7) (fun r => r = (zsi (zsi μ 3 0 (σ.1 36 0 ^^^ 255)) 3 1 (gxy (pt (pt (σ.1 36 1) 4 1) 1 1) (σ.1 36 0 ^^^ 255)), 4)) := by
    unfold fX12_singles fX12_singles_316
    refine zpc_if (fun q => absurd q (by decide)) (fun _ => zpc_if (fun _ => zpc_if (fun _ => zpc_if (fun q => absurd q (by decide)) (fun _ => zpc_if (fun _ => zpc_ck (zpc_ck (zpc_bv (fun s1 f1 => zpc_bu p_put' (fun s2 f2 => ?_))))) (fun q => absurd rfl q))) (fun q => absurd (by decide) q)) (fun q => absurd (by decide) q))
    subst f2
    refine zpc_bu p_put (fun s3 f3 => ?_)
    subst f3
    refine zpc_ck (zpc_bu p_xy (fun s4 f4 => zpc_some ?_))
    rw [f4, f1]
    show (zsi (zsi μ 3 0 (μ.1 3 0 ^^^ 255)) 3 1 (gxy (pt (pt (μ.1 3 1) 4 1) 1 1) (μ.1 3 0 ^^^ 255)), (4 : Int32)) = _
    rw [ea, ef]
  have e : gxy (pt (pt (σ.1 36 1) 4 1) 1 1) (σ.1 36 0 ^^^ 255) = ((((σ.1 36 1 &&& 196) ||| (σ.1 36 1 &&& 1)) ||| 16) ||| 2) ||| ((σ.1 36 0 ^^^ 255) &&& 40) := by
    rw [z_196 hf, z_f1 hf, z_40 hw, ← v_cplB]
    conv => lhs; rw [fl_of hf, pt_4, pt_1, fl_xy]
    rfl
  refine zp2_bul cC (fun s es => ?_)
  intro r r' er er'
  cases er
  rw [cM r' er']
  refine zEnq_af hI h hW (by rw [es]; exact zQ.wi (zQ.wi zQ.rf rfl) rfl) (zQ.wi (zQ.wi zQ.rf rfl) rfl) (by rw [es]; rfl) (by rw [es]; rfl) rfl rfl rfl e hw ?_
  rw [← e, fl_of hf, pt_4, pt_1, fl_xy]
  exact zfl_r _ _ _ _ _ _ _ _
theorem p_scfM {y : Int32} {g : Int32} (hy : y = 6 ∨ (¬ y = 6 ∧ (σ.1 36 1 &&& 1 = 0 ∨ ¬ σ.1 36 1 &&& 1 = 0))) (hf : zr 0 255 (σ.1 36 1)) (ef : μ.1 3 1 = σ.1 36 1) : zpc (fX12_singles_273 μ y g 4) (fun r => r = (zsi μ 3 1 (gxy (pt (pt (pt (σ.1 36 1) 4 g) 0 (if y = 6 then 1 else if σ.1 36 1 &&& 1 = 0 then 1 else 0)) 1 0) (μ.1 3 0)), 4)) := by
  have f297 : ∀ w, zpc (fX12_singles_297 (zsi μ 3 1 (pt (σ.1 36 1) 4 g)) w 0) (fun r => r = (zsi μ 3 1 (gxy (pt (pt (pt (σ.1 36 1) 4 g) 0 w) 1 0) (μ.1 3 0)), 4)) := fun w => by
    unfold fX12_singles_297 fX12_singles_316
    refine zpc_bu p_put (fun s f => ?_)
    subst f
    refine zpc_bu p_put (fun s f => ?_)
    subst f
    refine zpc_ck (zpc_bu p_xy (fun s f => zpc_some ?_))
    rw [f]
    rfl
  unfold fX12_singles_273
  refine zpc_bu p_put' (fun s f => ?_)
  rw [ef] at f
  subst f
  unfold fX12_singles_292
  refine zpc_if (fun q => ?_) (fun q => zpc_bi p_flag (fun t u et => ?_))
  · rw [if_pos q]; exact f297 1
  · cases et
    rw [if_neg q]
    have e : ((zsi μ 3 1 (pt (σ.1 36 1) 4 g)).1 3 1 >>> ((0 : Int32) &&& 31)) &&& 1 = σ.1 36 1 &&& 1 := by
      show (pt (σ.1 36 1) 4 g >>> ((0 : Int32) &&& 31)) &&& 1 = _
      obtain ⟨i, ei⟩ := z_byteF hf
      rw [ei]
      unfold pt
      by_cases q : g = 0
      · rw [if_pos q]
        exact v_p4a i
      · rw [if_neg q]
        exact v_p4b i
    rw [e]
    refine zpc_if (fun q2 => ?_) (fun q2 => ?_)
    · rw [if_pos q2]; exact f297 1
    · rw [if_neg q2]; exact f297 0
theorem t_acc6 (hI : zIoK I) (h : zTT I σ μ) (hF : zF σ μ) (hW : zWzz σ μ) : zp2 (zbu (fX5_changeA σ 6) (fun s => some (s, (4 : Int32)))) (fX12_singles μ 6 7) (zEnq I) := by
  have ea : μ.1 3 0 = σ.1 36 0 := h.eq (by decide)
  have ef : μ.1 3 1 = σ.1 36 1 := hF
  have ha : zr 0 255 (σ.1 36 0) := h.b (by decide)
  have hf : zr 0 255 (σ.1 36 1) := h.b (by decide)
  have cC : zpc (fX5_changeA σ 6) (fun r => r = zsi σ 36 1 (((σ.1 36 1 &&& 196) ||| 1) ||| (σ.1 36 0 &&& 40))) := by
    unfold fX5_changeA
    refine zpc_ck (zpc_bv (fun u eu => zpc_ck (zpc_bv (fun u2 eu2 => zpc_if (fun q => absurd q (by decide)) (fun _ => zpc_if (fun q => absurd q (by decide)) (fun _ => zpc_if (fun _ => zpc_ck (zpc_ck (zpc_bv (fun s1 f1 => zpc_some ?_)))) (fun q => absurd rfl q)))))))
    subst eu
    rw [f1]
    rfl
  have cM : zpc (fX12_singles μ 6 7) (fun r => r = (zsi μ 3 1 (gxy (pt (pt (pt (σ.1 36 1) 4 0) 0 1) 1 0) (σ.1 36 0)), 4)) := by
    unfold fX12_singles fX12_singles_272
    refine zpc_if (fun q => absurd q (by decide)) (fun _ => zpc_if (fun _ => zpc_if (fun _ => zpc_if (fun q => absurd q (by decide)) (fun _ => zpc_if (fun q => absurd q (by decide)) (fun _ => zpc_if (fun q => absurd q (by decide)) (fun _ => ?_)))) (fun q => absurd (by decide) q)) (fun q => absurd (by decide) q))
    have m := p_scfM (σ := σ) (μ := μ) (y := 6) (g := 0) (Or.inl rfl) hf ef
    rw [ea] at m
    exact m
  have e : gxy (pt (pt (pt (σ.1 36 1) 4 0) 0 1) 1 0) (σ.1 36 0) = ((σ.1 36 1 &&& 196) ||| 1) ||| (σ.1 36 0 &&& 40) := by
    rw [z_196 hf, z_40 ha, ← v_scfB]
    conv => lhs; rw [fl_of hf, pt_4, pt_0, pt_1, fl_xy]
    rfl
  refine zp2_bul cC (fun s es => ?_)
  intro r r' er er'
  cases er
  rw [cM r' er']
  refine zEnq_af hI h hW (by rw [es]; exact zQ.wi zQ.rf rfl) (zQ.wi zQ.rf rfl) (by rw [es]; rfl) (by rw [es]; rfl) (show (zsi μ 3 1 _).1 3 0 = σ.1 36 0 from ea) rfl rfl e ha ?_
  rw [← e, fl_of hf, pt_4, pt_0, pt_1, fl_xy]
  exact zfl_r _ _ _ _ _ _ _ _
theorem t_acc7 (hI : zIoK I) (h : zTT I σ μ) (hF : zF σ μ) (hW : zWzz σ μ) : zp2 (zbu (fX5_changeA σ 7) (fun s => some (s, (4 : Int32)))) (fX12_singles μ 7 7) (zEnq I) := by
  have ea : μ.1 3 0 = σ.1 36 0 := h.eq (by decide)
  have ef : μ.1 3 1 = σ.1 36 1 := hF
  have ha : zr 0 255 (σ.1 36 0) := h.b (by decide)
  have hf : zr 0 255 (σ.1 36 1) := h.b (by decide)
  have cC : zpc (fX5_changeA σ 7) (fun r => r = zsi σ 36 1 (((σ.1 36 1 &&& 196) ||| (if σ.1 36 1 &&& 1 = 0 then 1 else 16)) ||| (σ.1 36 0 &&& 40))) := by
    unfold fX5_changeA fX5_changeA_130
    refine zpc_ck (zpc_bv (fun u eu => zpc_ck (zpc_bv (fun u2 eu2 => zpc_if (fun q => absurd q (by decide)) (fun _ => zpc_if (fun q => absurd q (by decide)) (fun _ => zpc_if (fun q => absurd q (by decide)) (fun _ => zpc_if (fun _ => ?_) (fun q => absurd rfl q))))))))
    subst eu
    subst eu2
    refine zpc_if (fun q => zpc_ck (zpc_ck (zpc_bv (fun s1 f1 => zpc_some ?_)))) (fun q => zpc_ck (zpc_ck (zpc_bv (fun s1 f1 => zpc_some ?_))))
    · rw [f1, if_pos (show σ.1 36 1 &&& 1 = 0 from q)]; rfl
    · rw [f1, if_neg (show ¬ σ.1 36 1 &&& 1 = 0 from q)]; rfl
  have cM : zpc (fX12_singles μ 7 7) (fun r => r = (zsi μ 3 1 (gxy (pt (pt (pt (σ.1 36 1) 4 (if σ.1 36 1 &&& 1 = 0 then 0 else 1)) 0 (if σ.1 36 1 &&& 1 = 0 then 1 else 0)) 1 0) (σ.1 36 0)), 4)) := by
    unfold fX12_singles fX12_singles_272
    refine zpc_if (fun q => absurd q (by decide)) (fun _ => zpc_if (fun _ => zpc_if (fun _ => zpc_if (fun q => absurd q (by decide)) (fun _ => zpc_if (fun q => absurd q (by decide)) (fun _ => zpc_if (fun _ => zpc_bi p_flag (fun t u et => ?_)) (fun q => absurd rfl q)))) (fun q => absurd (by decide) q)) (fun q => absurd (by decide) q))
    cases et
    rw [ef, z_bt0 hf]
    by_cases q : σ.1 36 1 &&& 1 = 0
    · rw [if_pos q]
      refine zpc_if (fun q => absurd q (by decide)) (fun _ => ?_)
      have m := p_scfM (σ := σ) (μ := μ) (y := 7) (g := 0) (Or.inr ⟨by decide, Or.inl q⟩) hf ef
      rw [ea, if_neg (show ¬ (7 : Int32) = 6 by decide), if_pos q] at m
      rw [if_pos q]
      exact m
    · rw [if_neg q]
      refine zpc_if (fun _ => ?_) (fun q => absurd rfl q)
      have m := p_scfM (σ := σ) (μ := μ) (y := 7) (g := 1) (Or.inr ⟨by decide, Or.inr q⟩) hf ef
      rw [ea, if_neg (show ¬ (7 : Int32) = 6 by decide), if_neg q] at m
      rw [if_neg q]
      exact m
  have e : gxy (pt (pt (pt (σ.1 36 1) 4 (if σ.1 36 1 &&& 1 = 0 then 0 else 1)) 0 (if σ.1 36 1 &&& 1 = 0 then 1 else 0)) 1 0) (σ.1 36 0) = ((σ.1 36 1 &&& 196) ||| (if σ.1 36 1 &&& 1 = 0 then 1 else 16)) ||| (σ.1 36 0 &&& 40) := by
    by_cases q : σ.1 36 1 &&& 1 = 0
    · rw [if_pos q, if_pos q, if_pos q, z_196 hf, z_40 ha, ← v_scfB]
      conv => lhs; rw [fl_of hf, pt_4, pt_0, pt_1, fl_xy]
      rfl
    · rw [if_neg q, if_neg q, if_neg q, z_196 hf, z_40 ha, ← v_ccfB]
      conv => lhs; rw [fl_of hf, pt_4, pt_0, pt_1, fl_xy]
      rfl
  refine zp2_bul cC (fun s es => ?_)
  intro r r' er er'
  cases er
  rw [cM r' er']
  refine zEnq_af hI h hW (by rw [es]; exact zQ.wi zQ.rf rfl) (zQ.wi zQ.rf rfl) (by rw [es]; rfl) (by rw [es]; rfl) (show (zsi μ 3 1 _).1 3 0 = σ.1 36 0 from ea) rfl rfl e ha ?_
  rw [← e, fl_of hf, pt_4, pt_0, pt_1, fl_xy]
  exact zfl_r _ _ _ _ _ _ _ _
end ZAA
end ZJN10
section ZJN11
/-! DAA -/
theorem z_jx {α : Type} {c : Prop} {d : Decidable c} {K : Int32 → Option α} {X Y : Option α} {a b : Int32} (ex : X = K a) (ey : Y = K b) : @ite _ c d X Y = K (@ite _ c d a b) := by
  by_cases q : c
  · rw [if_pos q, if_pos q]; exact ex
  · rw [if_neg q, if_neg q]; exact ey
theorem zpc_jx {α : Type} {c : Prop} {d : Decidable c} {K : Int32 → Option α} {X Y : Option α} {a b : Int32} {Q : α → Prop} (ex : X = K a) (ey : Y = K b) (h : ∀ v, v = @ite _ c d a b → zpc (K v) Q) : zpc (@ite _ c d X Y) Q := by
  rw [z_jx (K := K) ex ey]
  exact h _ rfl
theorem fl_a16 : ∀ b7 b6 b5 b4 b3 b2 b1 b0 : Bool, zfl b7 b6 b5 b4 b3 b2 b1 b0 &&& 16 = bif b4 then 16 else 0 := by decide
theorem fl_a2 : ∀ b7 b6 b5 b4 b3 b2 b1 b0 : Bool, zfl b7 b6 b5 b4 b3 b2 b1 b0 &&& 2 = bif b1 then 2 else 0 := by decide
theorem fl_a1 : ∀ b7 b6 b5 b4 b3 b2 b1 b0 : Bool, zfl b7 b6 b5 b4 b3 b2 b1 b0 &&& 1 = bif b0 then 1 else 0 := by decide
theorem fl_g0 : ∀ b7 b6 b5 b4 b3 b2 b1 b0 : Bool, (zfl b7 b6 b5 b4 b3 b2 b1 b0 >>> ((0 : Int32) &&& 31)) &&& 1 = bif b0 then 1 else 0 := by decide
theorem fl_g1 : ∀ b7 b6 b5 b4 b3 b2 b1 b0 : Bool, (zfl b7 b6 b5 b4 b3 b2 b1 b0 >>> ((1 : Int32) &&& 31)) &&& 1 = bif b1 then 1 else 0 := by decide
theorem fl_g2 : ∀ b7 b6 b5 b4 b3 b2 b1 b0 : Bool, (zfl b7 b6 b5 b4 b3 b2 b1 b0 >>> ((2 : Int32) &&& 31)) &&& 1 = bif b2 then 1 else 0 := by decide
theorem fl_g4 : ∀ b7 b6 b5 b4 b3 b2 b1 b0 : Bool, (zfl b7 b6 b5 b4 b3 b2 b1 b0 >>> ((4 : Int32) &&& 31)) &&& 1 = bif b4 then 1 else 0 := by decide
theorem fl_g6 : ∀ b7 b6 b5 b4 b3 b2 b1 b0 : Bool, (zfl b7 b6 b5 b4 b3 b2 b1 b0 >>> ((6 : Int32) &&& 31)) &&& 1 = bif b6 then 1 else 0 := by decide
noncomputable def dH (h : Bool) : Int32 := if (bif h then (16 : Int32) else 0) = 0 then 0 else 1
noncomputable def dN (n : Bool) : Int32 := if (bif n then (2 : Int32) else 0) = 0 then 0 else 1
noncomputable def dC (a : Int32) (c : Bool) : Int32 := if a ≤ 153 then (bif c then 1 else 0) else 1
noncomputable def dL (l : Int32) (h : Bool) : Int32 := if 9 < l then 6 else if dH h = 0 then 0 else 6
noncomputable def dG (l : Int32) (h n : Bool) : Int32 := if dN n = 0 then (if l ≤ 9 then 0 else 1) else if dH h = 0 then 0 else if 6 ≤ l then 0 else 1
noncomputable def dD (l : Int32) (h : Bool) (c : Int32) : Int32 := dL l h + (if c = 0 then 0 else 96)
noncomputable def dW (a l : Int32) (h n : Bool) (c : Int32) : Int32 := (if dN n = 0 then a + dD l h c else a - dD l h c) &&& 255
noncomputable def dF (w g c : Int32) (n : Bool) : Int32 := (((cby w ||| cpar w) ||| (if g = 0 then 0 else 16)) ||| (bif n then 2 else 0)) ||| c
section ZDA
variable {σ μ : zSt} {b7 b6 b5 b4 b3 b2 b1 b0 : Bool} {a d : Int32}
theorem p_daC (hf : σ.1 36 1 = zfl b7 b6 b5 b4 b3 b2 b1 b0) (ha : σ.1 36 0 = a) : zpc (fX5_adjustA σ ) (fun r => r = zsi (zsi σ 36 0 (dW a (a &&& 15) b4 b1 (dC a b0))) 36 1 (dF (dW a (a &&& 15) b4 b1 (dC a b0)) (dG (a &&& 15) b4 b1) (dC a b0) b1)) := by
  have g1 : zgi σ 36 (1 : Int32).toNatClampNeg = zfl b7 b6 b5 b4 b3 b2 b1 b0 := hf
  have g0 : zgi σ 36 (0 : Int32).toNatClampNeg = a := ha
  unfold fX5_adjustA
  refine zpc_ck (zpc_bv (fun l el => zpc_ck ?_))
  have el : l = a &&& 15 := by rw [el, g0]
  rw [← el, g1, fl_a16]
  refine zpc_jx (K := fun v => fX5_adjustA_27 σ l v) (a := 0) (b := 1) rfl rfl (fun h eh => ?_)
  have eh : h = dH b4 := eh
  unfold fX5_adjustA_27
  refine zpc_ck ?_
  rw [g1, fl_a2]
  refine zpc_jx (K := fun v => fX5_adjustA_44 σ l h v) (a := 0) (b := 1) rfl rfl (fun n en => ?_)
  have en : n = dN b1 := en
  have nx : ∀ c, zpc (fX5_adjustA_69 σ l h n c) (fun r => r = zsi (zsi σ 36 0 (dW a l b4 b1 c)) 36 1 (dF (dW a l b4 b1 c) (dG l b4 b1) c b1)) := fun c => by
    unfold fX5_adjustA_69
    refine zpc_jx (K := fun v => fX5_adjustA_87 σ l h n c v) (a := 6) rfl (z_jx (a := 0) (b := 6) rfl rfl) (fun m em => ?_)
    unfold fX5_adjustA_87
    refine zpc_jx (K := fun v => fX5_adjustA_98 σ l h n c v m) (a := 0) (b := 96) rfl rfl (fun t et => ?_)
    unfold fX5_adjustA_98
    refine zpc_bv (fun d ed => ?_)
    have ed : d = dD l b4 c := by rw [ed, em, et, eh]; rfl
    refine zpc_jx (K := fun v => fX5_adjustA_134 σ n c d v) (z_jx (a := 0) (b := 1) rfl rfl) (z_jx (a := 0) rfl (z_jx (a := 0) (b := 1) rfl rfl)) (fun g eg => ?_)
    have eg : g = dG l b4 b1 := by rw [eg, en, eh]; rfl
    have n2 : ∀ x, zpc (fX5_adjustA_161 σ c g x) (fun r => r = zsi (zsi σ 36 0 (x &&& 255)) 36 1 (dF (x &&& 255) g c b1)) := fun x => by
      unfold fX5_adjustA_161
      refine zpc_bv (fun w ew => zpc_ck (zpc_bv (fun s es => zpc_bi p_byC (fun s1 v1 e1 => ?_))))
      cases e1
      refine zpc_bi p_parC (fun s1 v1 e1 => ?_)
      cases e1
      refine zpc_jx (K := fun v => fX5_adjustA_202 s c v (cby w ||| cpar w) 1) (a := 0) (b := 16) rfl rfl (fun u eu => ?_)
      unfold fX5_adjustA_202
      refine zpc_ck (zpc_ck (zpc_bv (fun s2 e2 => zpc_some ?_)))
      have gs : zgi s 36 (1 : Int32).toNatClampNeg = zfl b7 b6 b5 b4 b3 b2 b1 b0 := by rw [es]; exact hf
      rw [e2, gs, fl_a2, es, eu, ew]
      rfl
    unfold fX5_adjustA_134
    rw [g0]
    unfold dW
    refine zpc_if (fun q => zpc_ck ?_) (fun q => zpc_ck ?_)
    · rw [if_pos (en ▸ q), ← ed, ← eg]; exact n2 _
    · rw [if_neg (en ▸ q), ← ed, ← eg]; exact n2 _
  unfold fX5_adjustA_44
  rw [g0, g1, fl_a1]
  unfold dC
  refine zpc_ck (zpc_if (fun q => zpc_ck ?_) (fun q => ?_))
  · rw [if_pos q]; exact nx _
  · rw [if_neg q]; exact nx _
/-! the reference -/
noncomputable def eG (l : Int32) (h n : Bool) : Int32 := bif n then (bif h then (if 6 ≤ l then 0 else 1) else 0) else (if l ≤ 9 then 0 else 1)
noncomputable def eW (a d : Int32) (n : Bool) : Int32 := (bif n then a - d else a + d) &&& 255
theorem p_da130 {x : Int32} : zpc (fX12_adjusts_130 (zsi μ 3 1 (zfl b7 b6 b5 b4 b3 b2 b1 b0)) x 0) (fun r => r = zsi (zsi μ 3 0 (x &&& 255)) 3 1 (zfl (d7 (x &&& 255)) (d6 (x &&& 255)) (d5 (x &&& 255)) b4 (d3 (x &&& 255)) (bc (gev (x &&& 255))) b1 b0)) := by
  unfold fX12_adjusts_130
  refine zpc_ck (zpc_bv (fun s es => zpc_ck ?_))
  have g0 : zgi s 3 (0 : Int32).toNatClampNeg = x &&& 255 := by rw [es]; rfl
  have g1 : s.1 3 1 = zfl b7 b6 b5 b4 b3 b2 b1 b0 := by rw [es]; rfl
  rw [g0]
  refine zpc_bu p_by' (fun s1 e1 => zpc_ck ?_)
  rw [g1, fl_by] at e1
  subst e1
  rw [show zgi (zsi s 3 1 (zfl (d7 (x &&& 255)) (d6 (x &&& 255)) (d5 (x &&& 255)) b4 (d3 (x &&& 255)) b2 b1 b0)) 3 (0 : Int32).toNatClampNeg = x &&& 255 from g0]
  refine zpc_bi p_even (fun s2 v2 e2 => ?_)
  cases e2
  refine zpc_bu p_put (fun s3 e3 => zpc_some ?_)
  rw [pt_2] at e3
  rw [e3, es, show zsi (zsi (zsi μ 3 1 (zfl b7 b6 b5 b4 b3 b2 b1 b0)) 3 (0 : Int32).toNatClampNeg (x &&& 255)) 3 1 = zsi (zsi (zsi μ 3 0 (x &&& 255)) 3 1 (zfl b7 b6 b5 b4 b3 b2 b1 b0)) 3 1 from by rw [show (0 : Int32).toNatClampNeg = 0 from rfl, zsi_comm (by decide)], zsi_ow]
  rfl
theorem p_da55 : zpc (fX12_adjusts_55 (zsi μ 3 1 (zfl b7 b6 b5 b4 b3 b2 b1 b0)) a d) (fun r => r = zsi (zsi μ 3 0 (eW a d b1)) 3 1 (zfl (d7 (eW a d b1)) (d6 (eW a d b1)) (d5 (eW a d b1)) (bc (eG (a &&& 15) b4 b1)) (d3 (eW a d b1)) (bc (gev (eW a d b1))) b1 b0)) := by
  have nx : ∀ g, zpc (fX12_adjusts_105 (zsi μ 3 1 (zfl b7 b6 b5 b4 b3 b2 b1 b0)) a d g 4) (fun r => r = zsi (zsi μ 3 0 (eW a d b1)) 3 1 (zfl (d7 (eW a d b1)) (d6 (eW a d b1)) (d5 (eW a d b1)) (bc g) (d3 (eW a d b1)) (bc (gev (eW a d b1))) b1 b0)) := fun g => by
    unfold fX12_adjusts_105
    refine zpc_bu p_put (fun s es => ?_)
    rw [pt_4] at es
    subst es
    refine zpc_bi p_flag (fun s1 v1 e1 => ?_)
    cases e1
    rw [show (zsi μ 3 1 (zfl b7 b6 b5 (decide (¬ g = 0)) b3 b2 b1 b0)).1 3 1 = zfl b7 b6 b5 (decide (¬ g = 0)) b3 b2 b1 b0 from rfl, fl_g1]
    cases b1
    · exact zpc_if (fun _ => p_da130) (fun q => absurd rfl q)
    · exact zpc_if (fun q => absurd q (by decide)) (fun _ => p_da130)
  unfold fX12_adjusts_55 fX12_adjusts_104
  refine zpc_bi p_flag (fun s1 v1 e1 => ?_)
  cases e1
  rw [show (zsi μ 3 1 (zfl b7 b6 b5 b4 b3 b2 b1 b0)).1 3 1 = zfl b7 b6 b5 b4 b3 b2 b1 b0 from rfl, fl_g1]
  cases b1
  · refine zpc_if (fun _ => ?_) (fun q => absurd rfl q)
    refine zpc_jx (K := fun g => fX12_adjusts_105 (zsi μ 3 1 (zfl b7 b6 b5 b4 b3 b2 false b0)) a d g 4) (a := 0) (b := 1) rfl rfl (fun g eg => ?_)
    have n1 := nx g
    rw [eg] at n1 ⊢
    exact n1
  · refine zpc_if (fun q => absurd q (by decide)) (fun _ => zpc_bi p_flag (fun s1 v1 e1 => ?_))
    cases e1
    rw [show (zsi μ 3 1 (zfl b7 b6 b5 b4 b3 b2 true b0)).1 3 1 = zfl b7 b6 b5 b4 b3 b2 true b0 from rfl, fl_g4]
    cases b4
    · exact zpc_if (fun q => absurd q (by decide)) (fun _ => nx 0)
    · refine zpc_if (fun _ => ?_) (fun q => absurd rfl q)
      refine zpc_jx (K := fun g => fX12_adjusts_105 (zsi μ 3 1 (zfl b7 b6 b5 true b3 b2 true b0)) a d g 4) (a := 0) (b := 1) rfl rfl (fun g eg => ?_)
      have n1 := nx g
      rw [eg] at n1 ⊢
      exact n1
noncomputable def eC (a : Int32) (c : Bool) : Bool := bif c then true else decide (153 < a)
noncomputable def eD (a d : Int32) (c : Bool) : Int32 := bif eC a c then d + 96 else d
theorem p_da30 : zpc (fX12_adjusts_30 (zsi μ 3 1 (zfl b7 b6 b5 b4 b3 b2 b1 b0)) a d) (fun r => r = zsi (zsi μ 3 0 (eW a (eD a d b0) b1)) 3 1 (zfl (d7 (eW a (eD a d b0) b1)) (d6 (eW a (eD a d b0) b1)) (d5 (eW a (eD a d b0) b1)) (bc (eG (a &&& 15) b4 b1)) (d3 (eW a (eD a d b0) b1)) (bc (gev (eW a (eD a d b0) b1))) b1 (eC a b0))) := by
  have n46 : zpc (fX12_adjusts_46 (zsi μ 3 1 (zfl b7 b6 b5 b4 b3 b2 b1 b0)) a d) (fun r => r = zsi (zsi μ 3 0 (eW a (d + 96) b1)) 3 1 (zfl (d7 (eW a (d + 96) b1)) (d6 (eW a (d + 96) b1)) (d5 (eW a (d + 96) b1)) (bc (eG (a &&& 15) b4 b1)) (d3 (eW a (d + 96) b1)) (bc (gev (eW a (d + 96) b1))) b1 true)) := by
    unfold fX12_adjusts_46
    refine zpc_bv (fun v ev => zpc_bu p_put (fun s es => ?_))
    rw [pt_0] at es
    subst es
    subst ev
    exact p_da55
  unfold fX12_adjusts_30
  refine zpc_if (fun q => ?_) (fun q => zpc_bi p_flag (fun s1 v1 e1 => ?_))
  · have e : eC a b0 = true := by unfold eC; rw [decide_eq_true q]; cases b0 <;> rfl
    unfold eD
    rw [e]
    exact n46
  · cases e1
    rw [show (zsi μ 3 1 (zfl b7 b6 b5 b4 b3 b2 b1 b0)).1 3 1 = zfl b7 b6 b5 b4 b3 b2 b1 b0 from rfl, fl_g0]
    cases b0
    · have e : eC a false = false := decide_eq_false q
      unfold eD
      rw [e]
      exact zpc_if (fun q => absurd q (by decide)) (fun _ => p_da55)
    · exact zpc_if (fun _ => n46) (fun q => absurd rfl q)
noncomputable def eL (l : Int32) (h : Bool) : Int32 := if 9 < l then 6 else bif h then 6 else 0
theorem p_da (hf : μ.1 3 1 = zfl b7 b6 b5 b4 b3 b2 b1 b0) (ha : μ.1 3 0 = a) : zpc (fX12_adjusts μ ) (fun r => r = zsi (zsi μ 3 0 (eW a (eD a (eL (a &&& 15) b4) b0) b1)) 3 1 (zfl (d7 (eW a (eD a (eL (a &&& 15) b4) b0) b1)) (d6 (eW a (eD a (eL (a &&& 15) b4) b0) b1)) (d5 (eW a (eD a (eL (a &&& 15) b4) b0) b1)) (bc (eG (a &&& 15) b4 b1)) (d3 (eW a (eD a (eL (a &&& 15) b4) b0) b1)) (bc (gev (eW a (eD a (eL (a &&& 15) b4) b0) b1))) b1 (eC a b0))) := by
  have e27 : ∀ v, fX12_adjusts_27 μ a v = fX12_adjusts_30 (zsi μ 3 1 (zfl b7 b6 b5 b4 b3 b2 b1 b0)) a (v + 6) := fun v => by
    rw [← hf, zsi_own]
    rfl
  have e30 : ∀ v, fX12_adjusts_30 μ a v = fX12_adjusts_30 (zsi μ 3 1 (zfl b7 b6 b5 b4 b3 b2 b1 b0)) a v := fun v => by
    rw [← hf, zsi_own]
  unfold fX12_adjusts
  refine zpc_ck (zpc_bv (fun v ev => ?_))
  have ev : v = a := ev.trans ha
  subst ev
  unfold eL
  refine zpc_if (fun q => ?_) (fun q => zpc_bi p_flag (fun s1 v1 e1 => ?_))
  · rw [if_pos q, e27]; exact p_da30
  · cases e1
    rw [hf, fl_g4, if_neg q]
    cases b4
    · refine zpc_if (fun q => absurd q (by decide)) (fun _ => ?_)
      rw [e30]; exact p_da30
    · refine zpc_if (fun _ => ?_) (fun q => absurd rfl q)
      rw [e27]; exact p_da30
end ZDA
theorem v_daf : ∀ i : Fin 256, ∀ h n c : Bool, eW (Int32.ofNat i.val) (eD (Int32.ofNat i.val) (eL (Int32.ofNat i.val &&& 15) h) c) n = dW (Int32.ofNat i.val) (Int32.ofNat i.val &&& 15) h n (dC (Int32.ofNat i.val) c) ∧ bc (eG (Int32.ofNat i.val &&& 15) h n) = bc (dG (Int32.ofNat i.val &&& 15) h n) ∧ dC (Int32.ofNat i.val) c = (bif eC (Int32.ofNat i.val) c then 1 else 0) ∧ (if dG (Int32.ofNat i.val &&& 15) h n = 0 then (0 : Int32) else 16) = bif bc (dG (Int32.ofNat i.val &&& 15) h n) then 16 else 0 := by decide +kernel
theorem v_da {a : Int32} (ha : zr 0 255 a) (h n c : Bool) : eW a (eD a (eL (a &&& 15) h) c) n = dW a (a &&& 15) h n (dC a c) ∧ bc (eG (a &&& 15) h n) = bc (dG (a &&& 15) h n) ∧ dC a c = (bif eC a c then 1 else 0) ∧ (if dG (a &&& 15) h n = 0 then (0 : Int32) else 16) = bif bc (dG (a &&& 15) h n) then 16 else 0 := by
  obtain ⟨i, e⟩ := z_byteF ha
  subst e
  exact v_daf i h n c
theorem v_daB : ∀ b7 b6 b5 h b3 b2 n c : Bool, zfl b7 b6 b5 h b3 b2 n c = ((zfl b7 b6 b5 h b3 b2 false false) ||| (bif n then 2 else 0)) ||| (bif c then 1 else 0) := by decide
section ZDB
variable {I : zSt → zSt → Prop} {σ μ : zSt}
theorem t_acc4 (hI : zIoK I) (h : zTT I σ μ) (hF : zF σ μ) (hW : zWzz σ μ) : zp2 (zbu (fX5_changeA σ 4) (fun s => some (s, (4 : Int32)))) (fX12_singles μ 4 7) (zEnq I) := by
  have ea : μ.1 3 0 = σ.1 36 0 := h.eq (by decide)
  have ef : μ.1 3 1 = σ.1 36 1 := hF
  have ha : zr 0 255 (σ.1 36 0) := h.b (by decide)
  have hf : zr 0 255 (σ.1 36 1) := h.b (by decide)
  have cC := p_daC (σ := σ) (fl_of hf) rfl
  have cM := p_da (μ := μ) (ef.trans (fl_of hf)) ea
  unfold fX5_changeA fX12_singles fX12_singles_316
  refine zp2_ifr (fun q => absurd q (by decide)) (fun _ => zp2_ifr (fun _ => zp2_ifr (fun _ => zp2_ifr (fun _ => zp2_bur cM (fun t et => ?_)) (fun q => absurd rfl q)) (fun q => absurd (by decide) q)) (fun q => absurd (by decide) q))
  refine zp2_bul (zpc_ck (zpc_bv (fun u1 _ => zpc_ck (zpc_bv (fun u2 _ => zpc_if (fun _ => zpc_bu cC (fun s es => zpc_some es)) (fun q => absurd rfl q)))))) (fun s es => zp2_some ?_)
  obtain ⟨v1, v2, v3, v4⟩ := v_da ha (decide (¬ σ.1 36 1 &&& 16 = 0)) (decide (¬ σ.1 36 1 &&& 2 = 0)) (decide (¬ σ.1 36 1 &&& 1 = 0))
  rw [v1, v2] at et
  have rW : zr 0 255 (dW (σ.1 36 0) (σ.1 36 0 &&& 15) (decide (¬ σ.1 36 1 &&& 16 = 0)) (decide (¬ σ.1 36 1 &&& 2 = 0)) (dC (σ.1 36 0) (decide (¬ σ.1 36 1 &&& 1 = 0)))) := z_r8 _
  rw [v_daB, v_lg rW, ← v4, ← v3] at et
  have rF : zr 0 255 (dF (dW (σ.1 36 0) (σ.1 36 0 &&& 15) (decide (¬ σ.1 36 1 &&& 16 = 0)) (decide (¬ σ.1 36 1 &&& 2 = 0)) (dC (σ.1 36 0) (decide (¬ σ.1 36 1 &&& 1 = 0)))) (dG (σ.1 36 0 &&& 15) (decide (¬ σ.1 36 1 &&& 16 = 0)) (decide (¬ σ.1 36 1 &&& 2 = 0))) (dC (σ.1 36 0) (decide (¬ σ.1 36 1 &&& 1 = 0))) (decide (¬ σ.1 36 1 &&& 2 = 0))) := by
    unfold dF
    rw [v4, ← v_lg rW, v3, ← v_daB]
    exact zfl_r _ _ _ _ _ _ _ _
  exact zEnq_af hI h hW (by rw [es]; exact zQ.wi (zQ.wi zQ.rf rfl) rfl) (by rw [et]; exact zQ.wi (zQ.wi zQ.rf rfl) rfl) (by rw [es]; rfl) (by rw [es]; rfl) (by rw [et]; rfl) (by rw [et]; rfl) rfl rfl rW rF
end ZDB
end ZJN11
section ZJN12
/-! THE FIRST QUARTER -/
theorem zp2_sm {α β : Type} {σ μ : zSt} {o p : Option (zSt × Int32)} {f : zSt → Int32 → Option α} {g : zSt → Int32 → Option β} {Q : α → β → Prop} {lo hi : Int} (h : zp2 o p (fun r r' => r.1 = σ ∧ r'.1 = μ ∧ r'.2 = r.2 ∧ zr lo hi r.2)) (k : ∀ v, zr lo hi v → zp2 (f σ v) (g μ v) Q) : zp2 (zbi o f) (zbi p g) Q := by
  refine zp2_bii h (fun s v t w q => ?_)
  obtain ⟨q1, q2, q3, q4⟩ := q
  have q1 : s = σ := q1
  have q2 : t = μ := q2
  have q3 : w = v := q3
  subst q1
  subst q2
  subst q3
  exact k w q4
theorem z_tc (x : Int32) : (0 ≤ x.toInt ∧ (x.toBitVec.toNat : Int) = x.toInt) ∨ (x.toInt < 0 ∧ (x.toBitVec.toNat : Int) = x.toInt + 4294967296) := by
  by_cases h : 0 ≤ x.toInt
  · exact Or.inl ⟨h, by rw [z_tN h]⟩
  · refine Or.inr ⟨by omega, ?_⟩
    have e : x.toInt = x.toBitVec.toInt := rfl
    have c := BitVec.toInt_eq_toNat_cond x.toBitVec
    rw [e] at h ⊢
    rw [c] at h ⊢
    by_cases q : 2 * x.toBitVec.toNat < 2 ^ 32
    · rw [if_pos q] at h; omega
    · rw [if_neg q]; omega
noncomputable def zbt (k : Nat) (x : Int32) : Bool := x.toBitVec.getLsbD k
theorem zbt_n {k : Nat} {x : Int32} : zbt k x = decide (x.toBitVec.toNat / 2 ^ k % 2 = 1) := by
  unfold zbt
  rw [← BitVec.testBit_toNat, Nat.testBit_eq_decide_div_mod_eq]
theorem zbt_xor {k : Nat} {x y : Int32} : zbt k (x ^^^ y) = (zbt k x ^^ zbt k y) := by
  unfold zbt
  rw [Int32.toBitVec_xor, BitVec.getLsbD_xor]
theorem zbt_and {k : Nat} {x y : Int32} : zbt k (x &&& y) = (zbt k x && zbt k y) := by
  unfold zbt
  rw [Int32.toBitVec_and, BitVec.getLsbD_and]
theorem zbt_sar {k n : Nat} {x s : Int32} (hs : (s.toBitVec.smod 32).toNat = n) (h : n + k < 32) : zbt k (x >>> s) = zbt (n + k) x := by
  unfold zbt
  have e : (x >>> s).toBitVec = x.toBitVec.sshiftRight (s.toBitVec.smod 32).toNat := rfl
  rw [e, hs, BitVec.getLsbD_sshiftRight, if_pos h, show decide (32 ≤ k) = false from decide_eq_false (by omega)]
  rfl
theorem zbt_l4 : ∀ i, i < 32 → ((16 : Int32).toBitVec.getLsbD i = decide (i = 4)) := by decide
theorem zbt_m4 {x : Int32} : x &&& 16 = bif zbt 4 x then 16 else 0 := by
  refine Int32.toBitVec_inj.1 (BitVec.eq_of_getLsbD_eq (fun i hi => ?_))
  rw [Int32.toBitVec_and, BitVec.getLsbD_and, zbt_l4 i hi]
  unfold zbt
  by_cases q : i = 4
  · subst q
    cases h : x.toBitVec.getLsbD 4 <;> rfl
  · rw [decide_eq_false q, Bool.and_false]
    cases h : x.toBitVec.getLsbD 4
    · exact (BitVec.getLsbD_zero (w := 32)).symm
    · exact ((zbt_l4 i hi).trans (decide_eq_false q)).symm
theorem zbt_l0 : ∀ i, i < 32 → ((1 : Int32).toBitVec.getLsbD i = decide (i = 0)) := by decide
theorem zbt_m0 {x : Int32} : x &&& 1 = bif zbt 0 x then 1 else 0 := by
  refine Int32.toBitVec_inj.1 (BitVec.eq_of_getLsbD_eq (fun i hi => ?_))
  rw [Int32.toBitVec_and, BitVec.getLsbD_and, zbt_l0 i hi]
  unfold zbt
  by_cases q : i = 0
  · subst q
    cases h : x.toBitVec.getLsbD 0 <;> rfl
  · rw [decide_eq_false q, Bool.and_false]
    cases h : x.toBitVec.getLsbD 0
    · exact (BitVec.getLsbD_zero (w := 32)).symm
    · exact ((zbt_l0 i hi).trans (decide_eq_false q)).symm
theorem zbt_l7 : ∀ i, i < 32 → ((128 : Int32).toBitVec.getLsbD i = decide (i = 7)) := by decide
theorem zbt_m7 {x : Int32} : x &&& 128 = bif zbt 7 x then 128 else 0 := by
  refine Int32.toBitVec_inj.1 (BitVec.eq_of_getLsbD_eq (fun i hi => ?_))
  rw [Int32.toBitVec_and, BitVec.getLsbD_and, zbt_l7 i hi]
  unfold zbt
  by_cases q : i = 7
  · subst q
    cases h : x.toBitVec.getLsbD 7 <;> rfl
  · rw [decide_eq_false q, Bool.and_false]
    cases h : x.toBitVec.getLsbD 7
    · exact (BitVec.getLsbD_zero (w := 32)).symm
    · exact ((zbt_l7 i hi).trans (decide_eq_false q)).symm
theorem zbt_l15 : ∀ i, i < 32 → ((32768 : Int32).toBitVec.getLsbD i = decide (i = 15)) := by decide
theorem zbt_m15 {x : Int32} : x &&& 32768 = bif zbt 15 x then 32768 else 0 := by
  refine Int32.toBitVec_inj.1 (BitVec.eq_of_getLsbD_eq (fun i hi => ?_))
  rw [Int32.toBitVec_and, BitVec.getLsbD_and, zbt_l15 i hi]
  unfold zbt
  by_cases q : i = 15
  · subst q
    cases h : x.toBitVec.getLsbD 15 <;> rfl
  · rw [decide_eq_false q, Bool.and_false]
    cases h : x.toBitVec.getLsbD 15
    · exact (BitVec.getLsbD_zero (w := 32)).symm
    · exact ((zbt_l15 i hi).trans (decide_eq_false q)).symm
theorem v_h12 {a b v X : Int32} {c : Int} (ha : zr 0 65535 a) (hb : zr 0 65535 b) (hv : v.toInt = a.toInt + b.toInt + c) (hc : 0 ≤ c ∧ c ≤ 1) (hX : X = (a ^^^ b) ^^^ v) {K : Prop} {d : Decidable K} (hK : K ↔ a.toInt % 4096 + b.toInt % 4096 + c ≤ 4095) : (X >>> ((8 : Int32) &&& 31)) &&& 16 = bif bc (@ite _ K d 0 1) then 16 else 0 := by
  rw [zbt_m4, zbt_sar (n := 8) rfl (by decide), hX, zbt_xor, zbt_xor, zbt_n, zbt_n, zbt_n]
  have a0 := ha.1
  have a1 := ha.2
  have b0 := hb.1
  have b1 := hb.2
  have ta := z_tc a
  have tb := z_tc b
  have tv := z_tc v
  show (bif (decide (a.toBitVec.toNat / 4096 % 2 = 1) ^^ decide (b.toBitVec.toNat / 4096 % 2 = 1)) ^^ decide (v.toBitVec.toNat / 4096 % 2 = 1) then (16 : Int32) else 0) = _
  by_cases k : K
  · have k1 := hK.mp k
    rw [if_pos k]
    by_cases p : a.toBitVec.toNat / 4096 % 2 = 1 <;> by_cases q : b.toBitVec.toNat / 4096 % 2 = 1 <;> by_cases r : v.toBitVec.toNat / 4096 % 2 = 1 <;> first | (exfalso; omega) | (rw [decide_eq_true_eq.mpr p] <;> skip; skip) | skip
    all_goals (simp only [p, q, r, decide_true, decide_false]; rfl)
  · have k1 : ¬ a.toInt % 4096 + b.toInt % 4096 + c ≤ 4095 := fun q => k (hK.mpr q)
    rw [if_neg k]
    by_cases p : a.toBitVec.toNat / 4096 % 2 = 1 <;> by_cases q : b.toBitVec.toNat / 4096 % 2 = 1 <;> by_cases r : v.toBitVec.toNat / 4096 % 2 = 1 <;> first | (exfalso; omega) | skip
    all_goals (simp only [p, q, r, decide_true, decide_false]; rfl)
theorem v_405 : ∀ i : Fin 512, Int32.ofNat i.val &&& 40 = (bif d5 (Int32.ofNat i.val) then 32 else 0) ||| (bif d3 (Int32.ofNat i.val) then 8 else 0) := by decide +kernel
theorem v_ahB : ∀ b7 b6 b5 h b3 b2 c : Bool, zfl b7 b6 b5 h b3 b2 false c = (((((bif b7 then 128 else 0) ||| (bif b6 then 64 else 0)) ||| (bif b2 then 4 else 0)) ||| ((bif b5 then 32 else 0) ||| (bif b3 then 8 else 0))) ||| (bif h then 16 else 0)) ||| (bif c then 1 else 0) := by decide
theorem v_17 {v : Int32} (h : zr 0 131071 v) : v >>> ((16 : Int32) &&& 31) = bif bc (if v ≤ 65535 then 0 else 1) then 1 else 0 := by
  have e := z_quo (k := 16) (s := (16 : Int32) &&& 31) h.1 rfl
  have h0 := h.1
  have h1 := h.2
  have c : (65535 : Int32).toInt = 65535 := rfl
  have e : (v >>> ((16 : Int32) &&& 31)).toInt = v.toInt / 65536 := e
  refine Int32.toInt_inj.mp ?_
  rw [e]
  by_cases q : v ≤ 65535
  · have q1 := Int32.le_iff_toInt_le.mp q
    rw [if_pos q]
    show v.toInt / 65536 = 0
    omega
  · have q1 := Int32.lt_iff_toInt_lt.mp (z_nle q)
    rw [if_neg q]
    show v.toInt / 65536 = 1
    omega
theorem z_x512 {v : Int32} (h : zr 0 131071 v) : (v >>> ((8 : Int32) &&& 31)) &&& 40 = (bif d5 (v >>> ((8 : Int32) &&& 31)) then 32 else 0) ||| (bif d3 (v >>> ((8 : Int32) &&& 31)) then 8 else 0) := by
  have e : (v >>> ((8 : Int32) &&& 31)).toInt = v.toInt / 256 := z_quo (k := 8) (s := (8 : Int32) &&& 31) h.1 rfl
  have h0 := h.1
  have h1 := h.2
  generalize v >>> ((8 : Int32) &&& 31) = x at e
  obtain ⟨i, hi⟩ : ∃ i : Nat, x.toInt = i := ⟨x.toInt.toNat, by omega⟩
  rw [z_ofN hi]
  exact v_405 ⟨i, by omega⟩
theorem v_i8f : ∀ i : Fin 256, (Int32.ofNat i.val).toInt8.toInt32 = sg (Int32.ofNat i.val) := by decide +kernel
theorem z_i8s {v : Int32} (h : zr 0 255 v) : v.toInt8.toInt32 = sg v := by
  obtain ⟨i, e⟩ := z_byteF h
  subst e
  exact v_i8f i
theorem zAl4 {P : Nat → Prop} {a b c d : Nat} (p : P a) (q : P b) (r : P c) (s : P d) : zall [a, b, c, d] P := zAlc p (zAl3 q r s)
section ZQ1
variable {I : zSt → zSt → Prop} {σ μ : zSt}
theorem zTT.mem (hI : zIoK I) (h : zTT I σ μ) {s t : zSt} (hm : zM2 s t) (q1 : zQ [15, 17, 19] [] [] [] σ s) (q2 : zQ [5, 6] [(3, 29, 32)] [] [] μ t) : zTT I s t := h.fin hI [] hm (q1.mono rfl rfl) (q2.mono rfl rfl) rfl zAl0 (h.2.2.1.of (q1.1 7 4 rfl) (q2.1 0 31 rfl))
theorem t_go (hI : zIoK I) (h : zTT I σ μ) {d : Int32} : zp2 (fX5_goTo σ (((zgi σ 36 (19 : Int32).toNatClampNeg) + d) &&& 65535)) (fX12_jump μ d) (fun r r' => zTT I r r' ∧ zWzz r r' ∧ zQ [] [(36, 19, 20)] [] [] σ r ∧ zQ [] [(3, 19, 20)] [] [] μ r') := by
  unfold fX5_goTo fX12_jump
  refine zp2_ckl (zp2_bvl (fun s1 f1 => zp2_ckl (zp2_bvl (fun s2 f2 => zp2_ckr (zp2_ckr (zp2_bvr (fun t1 g1 => zp2_ckr (zp2_ckr (zp2_bvr (fun t2 g2 => zp2_some ?_))))))))))
  have e : μ.1 3 19 = σ.1 36 19 := h.eq (by decide)
  have g2 : t2 = zsi (zsi μ 3 19 ((σ.1 36 19 + d) &&& 65535)) 3 20 ((σ.1 36 19 + d) &&& 65535) := by
    rw [g2, g1, ← e]; rfl
  have f2 : s2 = zsi (zsi σ 36 19 ((σ.1 36 19 + d) &&& 65535)) 36 20 ((σ.1 36 19 + d) &&& 65535) := by
    rw [f2, f1]; rfl
  subst f2
  subst g2
  exact ⟨h.upd hI [19, 20] (zQ.wi (zQ.wi zQ.rf rfl) rfl) (zQ.wi (zQ.wi zQ.rf rfl) rfl) rfl (zAl2 ⟨rfl, zrg_w (by decide) (by decide) (z_r16 _)⟩ ⟨rfl, zrg_w (by decide) (by decide) (z_r16 _)⟩), rfl, zQ.wi (zQ.wi zQ.rf rfl) rfl, zQ.wi (zQ.wi zQ.rf rfl) rfl⟩
theorem t_nr0 (hI : zIoK I) (h : zTT I σ μ) (hF : zF σ μ) (hW : zWzz σ μ) {y d : Int32} : zp2 (fX5_near_92 σ y d 0) (fX12_zero_109 μ y d 0) (zEnq I) := by
  unfold fX5_near_92 fX12_zero_109
  refine zp2_ifl (fun _ => zp2_ifr (fun _ => ?_) (fun q => absurd rfl q)) (fun q => absurd rfl q)
  unfold fX5_near_112 fX12_zero_122
  refine zp2_ifl (fun _ => ?_) (fun q => absurd rfl q)
  unfold fX5_near_123
  by_cases y2 : y = 2
  · rw [if_pos y2, if_pos y2]
    exact zp2_ifr (fun _ => zp2_some ⟨h, hF, hW, rfl⟩) (fun q => absurd rfl q)
  · rw [if_neg y2, if_neg y2]
    exact zp2_ifr (fun _ => zp2_some ⟨h, hF, hW, rfl⟩) (fun q => absurd rfl q)
theorem t_nr1 (hI : zIoK I) (h : zTT I σ μ) (hF : zF σ μ) (hW : zWzz σ μ) {y d : Int32} : zp2 (fX5_near_92 σ y d 1) (fX12_zero_109 μ y d 1) (zEnq I) := by
  unfold fX5_near_92 fX12_zero_109
  refine zp2_ifl (fun q => absurd q (by decide)) (fun _ => zp2_ifr (fun q => absurd q (by decide)) (fun _ => zp2_ckl (zp2_buu (t_go hI h) (fun s t q => ?_))))
  obtain ⟨h1, w1, qc, qm⟩ := q
  have f1 : zF s t := hF.of (qc.1 36 1 rfl) (qm.1 3 1 rfl)
  unfold fX5_near_112 fX12_zero_122
  refine zp2_ifl (fun q => absurd q (by decide)) (fun _ => ?_)
  unfold fX5_near_123
  by_cases y2 : y = 2
  · rw [if_pos y2, if_pos y2]
    exact zp2_ifr (fun q => absurd q (by decide)) (fun _ => zp2_some ⟨h1, f1, w1, rfl⟩)
  · rw [if_neg y2, if_neg y2]
    exact zp2_ifr (fun q => absurd q (by decide)) (fun _ => zp2_some ⟨h1, f1, w1, rfl⟩)
theorem p_cwC0 : zpc (fX5_changeWithOther σ 0) (fun r => r = zsi (zsi σ 36 0 (σ.1 36 8)) 36 8 (σ.1 36 0)) := by
  unfold fX5_changeWithOther
  exact zpc_ck (zpc_bv (fun v ev => zpc_ck (zpc_ck (zpc_bv (fun s es => zpc_ck (zpc_bv (fun s2 e2 => zpc_some (by rw [e2, es, ev]; rfl))))))))
theorem p_cwM0 : zpc (fX12_change μ 0 8) (fun r => r = zsi (zsi μ 3 0 (μ.1 3 8)) 3 8 (μ.1 3 0)) := by
  unfold fX12_change
  exact zpc_ck (zpc_bv (fun v ev => zpc_ck (zpc_ck (zpc_bv (fun s es => zpc_ck (zpc_bv (fun s2 e2 => zpc_some (by rw [e2, es, ev]; rfl))))))))
theorem p_cwC1 : zpc (fX5_changeWithOther σ 1) (fun r => r = zsi (zsi σ 36 1 (σ.1 36 9)) 36 9 (σ.1 36 1)) := by
  unfold fX5_changeWithOther
  exact zpc_ck (zpc_bv (fun v ev => zpc_ck (zpc_ck (zpc_bv (fun s es => zpc_ck (zpc_bv (fun s2 e2 => zpc_some (by rw [e2, es, ev]; rfl))))))))
theorem p_cwM1 : zpc (fX12_change μ 1 9) (fun r => r = zsi (zsi μ 3 1 (μ.1 3 9)) 3 9 (μ.1 3 1)) := by
  unfold fX12_change
  exact zpc_ck (zpc_bv (fun v ev => zpc_ck (zpc_ck (zpc_bv (fun s es => zpc_ck (zpc_bv (fun s2 e2 => zpc_some (by rw [e2, es, ev]; rfl))))))))
theorem p_cwC2 : zpc (fX5_changeWithOther σ 2) (fun r => r = zsi (zsi σ 36 2 (σ.1 36 10)) 36 10 (σ.1 36 2)) := by
  unfold fX5_changeWithOther
  exact zpc_ck (zpc_bv (fun v ev => zpc_ck (zpc_ck (zpc_bv (fun s es => zpc_ck (zpc_bv (fun s2 e2 => zpc_some (by rw [e2, es, ev]; rfl))))))))
theorem p_cwM2 : zpc (fX12_change μ 2 10) (fun r => r = zsi (zsi μ 3 2 (μ.1 3 10)) 3 10 (μ.1 3 2)) := by
  unfold fX12_change
  exact zpc_ck (zpc_bv (fun v ev => zpc_ck (zpc_ck (zpc_bv (fun s es => zpc_ck (zpc_bv (fun s2 e2 => zpc_some (by rw [e2, es, ev]; rfl))))))))
theorem p_cwC3 : zpc (fX5_changeWithOther σ 3) (fun r => r = zsi (zsi σ 36 3 (σ.1 36 11)) 36 11 (σ.1 36 3)) := by
  unfold fX5_changeWithOther
  exact zpc_ck (zpc_bv (fun v ev => zpc_ck (zpc_ck (zpc_bv (fun s es => zpc_ck (zpc_bv (fun s2 e2 => zpc_some (by rw [e2, es, ev]; rfl))))))))
theorem p_cwM3 : zpc (fX12_change μ 3 11) (fun r => r = zsi (zsi μ 3 3 (μ.1 3 11)) 3 11 (μ.1 3 3)) := by
  unfold fX12_change
  exact zpc_ck (zpc_bv (fun v ev => zpc_ck (zpc_ck (zpc_bv (fun s es => zpc_ck (zpc_bv (fun s2 e2 => zpc_some (by rw [e2, es, ev]; rfl))))))))
theorem p_cwC4 : zpc (fX5_changeWithOther σ 4) (fun r => r = zsi (zsi σ 36 4 (σ.1 36 12)) 36 12 (σ.1 36 4)) := by
  unfold fX5_changeWithOther
  exact zpc_ck (zpc_bv (fun v ev => zpc_ck (zpc_ck (zpc_bv (fun s es => zpc_ck (zpc_bv (fun s2 e2 => zpc_some (by rw [e2, es, ev]; rfl))))))))
theorem p_cwM4 : zpc (fX12_change μ 4 12) (fun r => r = zsi (zsi μ 3 4 (μ.1 3 12)) 3 12 (μ.1 3 4)) := by
  unfold fX12_change
  exact zpc_ck (zpc_bv (fun v ev => zpc_ck (zpc_ck (zpc_bv (fun s es => zpc_ck (zpc_bv (fun s2 e2 => zpc_some (by rw [e2, es, ev]; rfl))))))))
theorem p_cwC5 : zpc (fX5_changeWithOther σ 5) (fun r => r = zsi (zsi σ 36 5 (σ.1 36 13)) 36 13 (σ.1 36 5)) := by
  unfold fX5_changeWithOther
  exact zpc_ck (zpc_bv (fun v ev => zpc_ck (zpc_ck (zpc_bv (fun s es => zpc_ck (zpc_bv (fun s2 e2 => zpc_some (by rw [e2, es, ev]; rfl))))))))
theorem p_cwM5 : zpc (fX12_change μ 5 13) (fun r => r = zsi (zsi μ 3 5 (μ.1 3 13)) 3 13 (μ.1 3 5)) := by
  unfold fX12_change
  exact zpc_ck (zpc_bv (fun v ev => zpc_ck (zpc_ck (zpc_bv (fun s es => zpc_ck (zpc_bv (fun s2 e2 => zpc_some (by rw [e2, es, ev]; rfl))))))))
theorem p_cwC6 : zpc (fX5_changeWithOther σ 6) (fun r => r = zsi (zsi σ 36 6 (σ.1 36 14)) 36 14 (σ.1 36 6)) := by
  unfold fX5_changeWithOther
  exact zpc_ck (zpc_bv (fun v ev => zpc_ck (zpc_ck (zpc_bv (fun s es => zpc_ck (zpc_bv (fun s2 e2 => zpc_some (by rw [e2, es, ev]; rfl))))))))
theorem p_cwM6 : zpc (fX12_change μ 6 14) (fun r => r = zsi (zsi μ 3 6 (μ.1 3 14)) 3 14 (μ.1 3 6)) := by
  unfold fX12_change
  exact zpc_ck (zpc_bv (fun v ev => zpc_ck (zpc_ck (zpc_bv (fun s es => zpc_ck (zpc_bv (fun s2 e2 => zpc_some (by rw [e2, es, ev]; rfl))))))))
theorem p_cwC7 : zpc (fX5_changeWithOther σ 7) (fun r => r = zsi (zsi σ 36 7 (σ.1 36 15)) 36 15 (σ.1 36 7)) := by
  unfold fX5_changeWithOther
  exact zpc_ck (zpc_bv (fun v ev => zpc_ck (zpc_ck (zpc_bv (fun s es => zpc_ck (zpc_bv (fun s2 e2 => zpc_some (by rw [e2, es, ev]; rfl))))))))
theorem p_cwM7 : zpc (fX12_change μ 7 15) (fun r => r = zsi (zsi μ 3 7 (μ.1 3 15)) 3 15 (μ.1 3 7)) := by
  unfold fX12_change
  exact zpc_ck (zpc_bv (fun v ev => zpc_ck (zpc_ck (zpc_bv (fun s es => zpc_ck (zpc_bv (fun s2 e2 => zpc_some (by rw [e2, es, ev]; rfl))))))))
theorem t_cw0 (hI : zIoK I) (h : zTT I σ μ) : zp2 (fX5_changeWithOther σ 0) (fX12_change μ 0 8) (fun r r' => zTT I r r' ∧ zQ [] [(36, 0, 0), (36, 8, 8)] [] [] σ r ∧ zQ [] [(3, 0, 0), (3, 8, 8)] [] [] μ r') := by
  intro r r' er er'
  rw [p_cwC0 r er, p_cwM0 r' er']
  exact ⟨h.upd hI [0, 8] (zQ.wi (zQ.wi zQ.rf rfl) rfl) (zQ.wi (zQ.wi zQ.rf rfl) rfl) rfl (zAl2 ⟨h.eq (j := 8) (by decide), zrg_b (Or.inl (by decide)) (h.b (j := 8) (by decide))⟩ ⟨h.eq (j := 0) (by decide), zrg_b (Or.inl (by decide)) (h.b (j := 0) (by decide))⟩), zQ.wi (zQ.wi zQ.rf rfl) rfl, zQ.wi (zQ.wi zQ.rf rfl) rfl⟩
theorem t_cw2 (hI : zIoK I) (h : zTT I σ μ) : zp2 (fX5_changeWithOther σ 2) (fX12_change μ 2 10) (fun r r' => zTT I r r' ∧ zQ [] [(36, 2, 2), (36, 10, 10)] [] [] σ r ∧ zQ [] [(3, 2, 2), (3, 10, 10)] [] [] μ r') := by
  intro r r' er er'
  rw [p_cwC2 r er, p_cwM2 r' er']
  exact ⟨h.upd hI [2, 10] (zQ.wi (zQ.wi zQ.rf rfl) rfl) (zQ.wi (zQ.wi zQ.rf rfl) rfl) rfl (zAl2 ⟨h.eq (j := 10) (by decide), zrg_b (Or.inl (by decide)) (h.b (j := 10) (by decide))⟩ ⟨h.eq (j := 2) (by decide), zrg_b (Or.inl (by decide)) (h.b (j := 2) (by decide))⟩), zQ.wi (zQ.wi zQ.rf rfl) rfl, zQ.wi (zQ.wi zQ.rf rfl) rfl⟩
theorem t_cw3 (hI : zIoK I) (h : zTT I σ μ) : zp2 (fX5_changeWithOther σ 3) (fX12_change μ 3 11) (fun r r' => zTT I r r' ∧ zQ [] [(36, 3, 3), (36, 11, 11)] [] [] σ r ∧ zQ [] [(3, 3, 3), (3, 11, 11)] [] [] μ r') := by
  intro r r' er er'
  rw [p_cwC3 r er, p_cwM3 r' er']
  exact ⟨h.upd hI [3, 11] (zQ.wi (zQ.wi zQ.rf rfl) rfl) (zQ.wi (zQ.wi zQ.rf rfl) rfl) rfl (zAl2 ⟨h.eq (j := 11) (by decide), zrg_b (Or.inl (by decide)) (h.b (j := 11) (by decide))⟩ ⟨h.eq (j := 3) (by decide), zrg_b (Or.inl (by decide)) (h.b (j := 3) (by decide))⟩), zQ.wi (zQ.wi zQ.rf rfl) rfl, zQ.wi (zQ.wi zQ.rf rfl) rfl⟩
theorem t_cw4 (hI : zIoK I) (h : zTT I σ μ) : zp2 (fX5_changeWithOther σ 4) (fX12_change μ 4 12) (fun r r' => zTT I r r' ∧ zQ [] [(36, 4, 4), (36, 12, 12)] [] [] σ r ∧ zQ [] [(3, 4, 4), (3, 12, 12)] [] [] μ r') := by
  intro r r' er er'
  rw [p_cwC4 r er, p_cwM4 r' er']
  exact ⟨h.upd hI [4, 12] (zQ.wi (zQ.wi zQ.rf rfl) rfl) (zQ.wi (zQ.wi zQ.rf rfl) rfl) rfl (zAl2 ⟨h.eq (j := 12) (by decide), zrg_b (Or.inl (by decide)) (h.b (j := 12) (by decide))⟩ ⟨h.eq (j := 4) (by decide), zrg_b (Or.inl (by decide)) (h.b (j := 4) (by decide))⟩), zQ.wi (zQ.wi zQ.rf rfl) rfl, zQ.wi (zQ.wi zQ.rf rfl) rfl⟩
theorem t_cw5 (hI : zIoK I) (h : zTT I σ μ) : zp2 (fX5_changeWithOther σ 5) (fX12_change μ 5 13) (fun r r' => zTT I r r' ∧ zQ [] [(36, 5, 5), (36, 13, 13)] [] [] σ r ∧ zQ [] [(3, 5, 5), (3, 13, 13)] [] [] μ r') := by
  intro r r' er er'
  rw [p_cwC5 r er, p_cwM5 r' er']
  exact ⟨h.upd hI [5, 13] (zQ.wi (zQ.wi zQ.rf rfl) rfl) (zQ.wi (zQ.wi zQ.rf rfl) rfl) rfl (zAl2 ⟨h.eq (j := 13) (by decide), zrg_b (Or.inl (by decide)) (h.b (j := 13) (by decide))⟩ ⟨h.eq (j := 5) (by decide), zrg_b (Or.inl (by decide)) (h.b (j := 5) (by decide))⟩), zQ.wi (zQ.wi zQ.rf rfl) rfl, zQ.wi (zQ.wi zQ.rf rfl) rfl⟩
theorem t_cw6 (hI : zIoK I) (h : zTT I σ μ) : zp2 (fX5_changeWithOther σ 6) (fX12_change μ 6 14) (fun r r' => zTT I r r' ∧ zQ [] [(36, 6, 6), (36, 14, 14)] [] [] σ r ∧ zQ [] [(3, 6, 6), (3, 14, 14)] [] [] μ r') := by
  intro r r' er er'
  rw [p_cwC6 r er, p_cwM6 r' er']
  exact ⟨h.upd hI [6, 14] (zQ.wi (zQ.wi zQ.rf rfl) rfl) (zQ.wi (zQ.wi zQ.rf rfl) rfl) rfl (zAl2 ⟨h.eq (j := 14) (by decide), zrg_b (Or.inl (by decide)) (h.b (j := 14) (by decide))⟩ ⟨h.eq (j := 6) (by decide), zrg_b (Or.inl (by decide)) (h.b (j := 6) (by decide))⟩), zQ.wi (zQ.wi zQ.rf rfl) rfl, zQ.wi (zQ.wi zQ.rf rfl) rfl⟩
theorem t_cw7 (hI : zIoK I) (h : zTT I σ μ) : zp2 (fX5_changeWithOther σ 7) (fX12_change μ 7 15) (fun r r' => zTT I r r' ∧ zQ [] [(36, 7, 7), (36, 15, 15)] [] [] σ r ∧ zQ [] [(3, 7, 7), (3, 15, 15)] [] [] μ r') := by
  intro r r' er er'
  rw [p_cwC7 r er, p_cwM7 r' er']
  exact ⟨h.upd hI [7, 15] (zQ.wi (zQ.wi zQ.rf rfl) rfl) (zQ.wi (zQ.wi zQ.rf rfl) rfl) rfl (zAl2 ⟨h.eq (j := 15) (by decide), zrg_b (Or.inl (by decide)) (h.b (j := 15) (by decide))⟩ ⟨h.eq (j := 7) (by decide), zrg_b (Or.inl (by decide)) (h.b (j := 7) (by decide))⟩), zQ.wi (zQ.wi zQ.rf rfl) rfl, zQ.wi (zQ.wi zQ.rf rfl) rfl⟩
theorem t_cw1 (hI : zIoK I) (h : zTT I σ μ) (hF : zF σ μ) : zp2 (fX5_changeWithOther σ 1) (fX12_change μ 1 9) (fun r r' => zTT I r r' ∧ zF r r' ∧ zQ [] [(36, 1, 1), (36, 9, 9)] [] [] σ r ∧ zQ [] [(3, 1, 1), (3, 9, 9)] [] [] μ r') := by
  intro r r' er er'
  rw [p_cwC1 r er, p_cwM1 r' er']
  exact ⟨h.upd hI [1, 9] (zQ.wi (zQ.wi zQ.rf rfl) rfl) (zQ.wi (zQ.wi zQ.rf rfl) rfl) rfl (zAl2 ⟨h.eq (j := 9) (by decide), zrg_b (Or.inl (by decide)) (h.b (j := 9) (by decide))⟩ ⟨hF, zrg_b (Or.inl (by decide)) (h.b (j := 1) (by decide))⟩), h.eq (j := 9) (by decide), zQ.wi (zQ.wi zQ.rf rfl) rfl, zQ.wi (zQ.wi zQ.rf rfl) rfl⟩
theorem t_near (hI : zIoK I) (h : zTT I σ μ) (hF : zF σ μ) (hW : zWzz σ μ) {y : Int32} (hy : zr 0 7 y) : zp2 (fX5_near σ y) (fX12_zero μ y 0) (zEnq I) := by
  unfold fX5_near fX12_zero
  refine zp2_bvr (fun p _ => zp2_ifr (fun _ => ?_) (fun q => absurd rfl q))
  rcases zr_hd (c := 0) hy rfl with e | hy
  · subst e
    exact zp2_ifl (fun q => absurd q (by decide)) (fun _ => zp2_ifl (fun q => absurd q (by decide)) (fun _ => zp2_ifr (fun _ => zp2_some ⟨h, hF, hW, rfl⟩) (fun q => absurd rfl q)))
  rcases zr_hd (c := 1) hy rfl with e | hy
  · subst e
    refine zp2_ifl (fun q => absurd q (by decide)) (fun _ => zp2_ifl (fun _ => zp2_ifr (fun q => absurd q (by decide)) (fun _ => zp2_ifr (fun _ => ?_) (fun q => absurd rfl q))) (fun q => absurd rfl q))
    refine zp2_buu (t_cw0 hI h) (fun s t q => ?_)
    obtain ⟨h1, qc, qm⟩ := q
    refine zp2_buu (t_cw1 hI h1 (hF.of (qc.1 36 1 rfl) (qm.1 3 1 rfl))) (fun s2 t2 q2 => zp2_some ?_)
    obtain ⟨h2, f2, qc2, qm2⟩ := q2
    exact ⟨h2, f2, hW.of ((qc2.1 36 20 rfl).trans (qc.1 36 20 rfl)) ((qm2.1 3 20 rfl).trans (qm.1 3 20 rfl)), rfl⟩
  have y2 : 2 ≤ y := Int32.le_iff_toInt_le.mpr (by have := hy.1; have c : (2 : Int32).toInt = 2 := rfl; omega)
  have n0 : ¬ y = 0 := fun e => by rw [e] at y2; exact absurd y2 (by decide)
  have n1 : ¬ y = 1 := fun e => by rw [e] at y2; exact absurd y2 (by decide)
  refine zp2_ifl (fun _ => zp2_ifr (fun q => absurd q n0) (fun _ => zp2_ifr (fun q => absurd q n1) (fun _ => ?_))) (fun q => absurd y2 q)
  refine zp2_bii (t_next hI h) (fun s v t v' q => ?_)
  obtain ⟨h1, e1, rv, qc, qm⟩ := q
  have e1 : v' = v := e1
  subst e1
  have f1 : zF s t := hF.of (qc.1 36 1 rfl) (qm.1 3 1 rfl)
  have w1 : zWzz s t := hW.of (qc.1 36 20 rfl) (qm.1 3 20 rfl)
  refine zp2_bir p_signed (fun t1 v1 et => ?_)
  cases et
  refine zp2_bvl (fun d ed => ?_)
  have ed : d = if 128 ≤ v' then v' - 256 else v' := ed.trans (z_i8s rv)
  rw [← ed]
  unfold fX5_near_48 fX5_near_52 fX5_near_53 fX5_near_91 fX12_zero_67 fX12_zero_104
  rcases zr_hd (c := 2) hy rfl with e | hy
  · subst e
    refine zp2_ifl (fun q => absurd q (by decide)) (fun _ => zp2_ifl (fun _ => zp2_ifl (fun _ => zp2_ifr (fun _ => ?_) (fun q => absurd rfl q)) (fun q => absurd rfl q)) (fun q => absurd (by decide) q))
    refine zp2_ckl (zp2_ckl (zp2_bvl (fun s2 f2 => zp2_ckl (zp2_ckr (zp2_ckr (zp2_bvr (fun t2 g2 => zp2_ifr (fun _ => zp2_ckr ?_) (fun q => absurd rfl q))))))))
    have eb : t2.1 3 2 = s2.1 36 2 := by
      rw [f2, g2]
      show (t.1 3 2 - 1) &&& 255 = (s.1 36 2 - 1) &&& 255
      rw [h1.eq (by decide)]
    have h2 : zTT I s2 t2 := h1.upd hI [2] (by rw [f2]; exact zQ.wi zQ.rf rfl) (by rw [g2]; exact zQ.wi zQ.rf rfl) rfl (zAl1 ⟨eb, by rw [f2]; exact zrg_b (Or.inl (by decide)) (z_r8 _)⟩)
    have f3 : zF s2 t2 := f1.of (by rw [f2]; rfl) (by rw [g2]; rfl)
    have w3 : zWzz s2 t2 := w1.of (by rw [f2]; rfl) (by rw [g2]; rfl)
    by_cases b0 : s2.1 36 2 = 0
    · exact zp2_ifl (fun _ => zp2_ifr (fun _ => t_nr0 hI h2 f3 w3) (fun q => absurd (eb.trans b0) q)) (fun q => absurd b0 q)
    · exact zp2_ifl (fun q => absurd q b0) (fun _ => zp2_ifr (fun q => absurd (eb.symm.trans q) b0) (fun _ => t_nr1 hI h2 f3 w3))
  rcases zr_hd (c := 3) hy rfl with e | hy
  · subst e
    exact zp2_ifl (fun _ => zp2_ifl (fun q => absurd q (by decide)) (fun _ => zp2_ifr (fun q => absurd q (by decide)) (fun _ => zp2_ifr (fun q => absurd q (by decide)) (fun _ => zp2_ifr (fun _ => t_nr1 hI h1 f1 w1) (fun q => absurd rfl q))))) (fun q => absurd rfl q)
  have y4 : ¬ y ≤ 3 := fun q => by have := Int32.le_iff_toInt_le.mp q; have := hy.1; have c : (3 : Int32).toInt = 3 := rfl; omega
  have n2 : ¬ y = 2 := fun e => y4 (by rw [e]; decide)
  have n3 : ¬ y = 3 := fun e => y4 (by rw [e]; decide)
  have r4 : zr 0 7 (y - 4) := zr_sub (lo := 0) (hi := 7) hy (zr_c (lo := 4) (hi := 4) (x := 4) (by decide)) (by decide)
  refine zp2_ifl (fun q => absurd q n3) (fun _ => zp2_ifl (fun q => absurd q y4) (fun _ => zp2_ifr (fun q => absurd q n2) (fun _ => zp2_ifr (fun q => absurd q n2) (fun _ => zp2_ifr (fun q => absurd q n3) (fun _ => ?_)))))
  refine zp2_bii (t_cc f1 (h1.b (j := 1) (by decide)) r4) (fun s2 v2 t2 v3 q => ?_)
  obtain ⟨q1, q2, q3, q4⟩ := q
  have q1 : s2 = s := q1
  have q2 : t2 = t := q2
  have q3 : v3 = v2 := q3
  subst q1
  subst q2
  subst q3
  exact zp2_if (fun _ => zp2_ifl (fun q => absurd q n2) (fun _ => t_nr0 hI h1 f1 w1)) (fun _ => zp2_ifl (fun q => absurd q n2) (fun _ => t_nr1 hI h1 f1 w1))
/-! ld rp, nn; add hl, rp; inc, dec rp -/
theorem t_ldrp (hI : zIoK I) (h : zTT I σ μ) (hF : zF σ μ) (hW : zWzz σ μ) {p : Int32} : zp2 (fX5_loadPair σ p) (zbi (fX12_nextWord μ ) (fun σ21 v22 => zbu (fX12_rpTo σ21 p v22) (fun σ23 => some (σ23, (10 : Int32))))) (zEnq I) := by
  unfold fX5_loadPair
  refine zp2_bii (t_word hI h) (fun s v t v' q => ?_)
  obtain ⟨h1, e1, rv, qc, qm⟩ := q
  refine zp2_buu (t_rpTo hI h1 e1) (fun s2 t2 q2 => zp2_some ?_)
  obtain ⟨h2, qc2, qm2⟩ := q2
  exact ⟨h2, hF.of ((qc2.1 36 1 rfl).trans (qc.1 36 1 rfl)) ((qm2.1 3 1 rfl).trans (qm.1 3 1 rfl)), hW.of ((qc2.1 36 20 rfl).trans (qc.1 36 20 rfl)) ((qm2.1 3 20 rfl).trans (qm.1 3 20 rfl)), rfl⟩
theorem p_ahM {t : zSt} {v : Int32} {K : Prop} {d : Decidable K} : zpc (@ite _ K d (fX12_zero_249 t v 0 4) (fX12_zero_249 t v 1 4)) (fun r => r = (zsi t 3 1 (gxy (pt (pt (pt (t.1 3 1) 4 (@ite _ K d 0 1)) 0 (if v ≤ 65535 then 0 else 1)) 1 0) (v >>> ((8 : Int32) &&& 31))), 11)) := by
  refine zpc_j (K := fun g => fX12_zero_249 t v g 4) (a := 0) (b := 1) (fun g eg => ?_)
  unfold fX12_zero_249
  refine zpc_bu p_put' (fun s es => ?_)
  subst es
  refine zpc_j (K := fun c => fX12_zero_266 (zsi t 3 1 (pt (t.1 3 1) 4 g)) v c 0) (a := 0) (b := 1) (fun c ec => ?_)
  unfold fX12_zero_266
  refine zpc_bu p_put (fun s es => ?_)
  subst es
  refine zpc_bu p_put (fun s es => ?_)
  subst es
  refine zpc_bu p_xy (fun s es => zpc_some ?_)
  rw [es, eg, ec]
theorem t_addhl (hI : zIoK I) (h : zTT I σ μ) (hF : zF σ μ) {y p : Int32} (hp : zr 0 3 p) : zp2 (fX5_addPair σ p) (fX12_zero_178 μ y 1 p) (zEnq I) := by
  unfold fX5_addPair fX12_zero_178
  refine zp2_ifr (fun _ => zp2_sm (t_hl h) (fun a' ra => zp2_sm (t_rp h hp) (fun b' rb => ?_))) (fun q => absurd rfl q)
  refine zp2_bvl (fun v ev => zp2_ckl (zp2_bvl (fun s2 f2 => zp2_ckr (zp2_bvr (fun t2 g2 => zp2_bvr (fun v' ev' => ?_))))))
  have ev2 : v' = v := ev'.trans ev.symm
  subst ev2
  have h1 : zTT I s2 t2 := h.upd hI [20] (by rw [f2]; exact zQ.wi zQ.rf rfl) (by rw [g2]; exact zQ.wi zQ.rf rfl) rfl (zAl1 ⟨by rw [f2, g2]; rfl, by rw [f2]; exact zrg_w (by decide) (by decide) (z_r16 _)⟩)
  have w1 : zWzz s2 t2 := by rw [f2, g2]; rfl
  have f1 : zF s2 t2 := hF.of (by rw [f2]; rfl) (by rw [g2]; rfl)
  refine zp2_buu (t_hlTo hI h1 (v := v') (w := v') rfl) (fun s3 t3 q => ?_)
  obtain ⟨h3, qc, qm⟩ := q
  have f3 : zF s3 t3 := f1.of (qc.1 36 1 rfl) (qm.1 3 1 rfl)
  have w3 : zWzz s3 t3 := w1.of (qc.1 36 20 rfl) (qm.1 3 20 rfl)
  have hf : zr 0 255 (s3.1 36 1) := h3.b (by decide)
  refine zp2_ckl (zp2_ckl (zp2_bvl (fun s4 f4 => ?_)))
  intro r r' er er'
  cases er
  rw [p_ahM r' er']
  have tv : v'.toInt = a'.toInt + b'.toInt := by rw [ev']; exact z_tadd ra rb (by decide)
  have rv : zr 0 131071 v' := by rw [ev']; exact zr_add (lo := 0) (hi := 131071) ra rb (by decide)
  have m1 : (a' &&& 4095).toInt = a'.toInt % 4096 := z_mask (k := 12) ra.1 rfl (by decide)
  have m2 : (b' &&& 4095).toInt = b'.toInt % 4096 := z_mask (k := 12) rb.1 rfl (by decide)
  have a12 : ∀ x : Int32, zr 0 4095 (x &&& 4095) := fun x => zr_andr (lo := 0) (hi := 4095) (zr_c (lo := 4095) (hi := 4095) (by decide)) (by decide)
  have m3 : ((a' &&& 4095) + (b' &&& 4095)).toInt = (a' &&& 4095).toInt + (b' &&& 4095).toInt := z_tadd (a12 _) (a12 _) (by decide)
  have c4 : (4095 : Int32).toInt = 4095 := rfl
  have hh := v_h12 (a := a') (b := b') (v := v') (X := (a' ^^^ b') ^^^ v') (c := 0) (K := ((a' &&& 4095) + (b' &&& 4095)) ≤ 4095) (d := inferInstance) ra rb (by omega) (by decide) rfl (by rw [Int32.le_iff_toInt_le]; omega)
  have eF : t3.1 3 1 = s3.1 36 1 := f3
  have e : gxy (pt (pt (pt (s3.1 36 1) 4 (if ((a' &&& 4095) + (b' &&& 4095)) ≤ 4095 then 0 else 1)) 0 (if v' ≤ 65535 then 0 else 1)) 1 0) (v' >>> ((8 : Int32) &&& 31)) = (((s3.1 36 1 &&& 196) ||| ((v' >>> ((8 : Int32) &&& 31)) &&& 40)) ||| ((((a' ^^^ b') ^^^ v') >>> ((8 : Int32) &&& 31)) &&& 16)) ||| (v' >>> ((16 : Int32) &&& 31)) := by
    rw [hh, z_196 hf, z_x512 rv, v_17 rv, ← v_ahB]
    conv => lhs; rw [fl_of hf, pt_4, pt_0, pt_1, fl_xy]
    rfl
  have rF : zr 0 255 ((((s3.1 36 1 &&& 196) ||| ((v' >>> ((8 : Int32) &&& 31)) &&& 40)) ||| ((((a' ^^^ b') ^^^ v') >>> ((8 : Int32) &&& 31)) &&& 16)) ||| (v' >>> ((16 : Int32) &&& 31))) := by
    rw [hh, z_196 hf, z_x512 rv, v_17 rv, ← v_ahB]
    exact zfl_r _ _ _ _ _ _ _ _
  rw [eF, e, f4]
  exact ⟨(h3.onC hI (Or.inl rfl) (zrg_b (Or.inl (by decide)) rF)).onM hI (Or.inl rfl), rfl, w3, rfl⟩
theorem t_ldn (hI : zIoK I) (h : zTT I σ μ) (hF : zF σ μ) (hW : zWzz σ μ) (hp : zPlc σ μ) {y : Int32} (hy : zr 0 7 y) : zp2 (zbi (fX5_fetch σ ) (fun s v => zbu (fX5_putOne s y v) (fun s2 => if y = 6 then fX5_firstQuarter_193 s2 10 else fX5_firstQuarter_193 s2 7))) (fX12_singles μ y 6) (zEnq I) := by
  unfold fX12_singles
  refine zp2_ifr (fun _ => zp2_bii (t_next hI h) (fun s v t v' q => ?_)) (fun q => absurd rfl q)
  obtain ⟨h1, e1, rv, qc, qm⟩ := q
  have e1 : v' = v := e1
  subst e1
  refine zp2_buu (t_putOne hI h1 (hp.of (qc.1 7 5 rfl) (qc.1 36 6 rfl) (qc.1 36 7 rfl) (qm.1 3 20 rfl) (qm.1 0 32 rfl)) hy (z_m255 rv) rv) (fun s2 t2 q2 => ?_)
  obtain ⟨h2, qc2, qm2⟩ := q2
  have f2 : zF s2 t2 := hF.of ((qc2.1 36 1 rfl).trans (qc.1 36 1 rfl)) ((qm2.1 3 1 rfl).trans (qm.1 3 1 rfl))
  have w2 : zWzz s2 t2 := hW.of ((qc2.1 36 20 rfl).trans (qc.1 36 20 rfl)) ((qm2.1 3 20 rfl).trans (qm.1 3 20 rfl))
  unfold fX5_firstQuarter_193 fX12_singles_28
  exact zp2_if (fun _ => zp2_some ⟨h2, f2, w2, rfl⟩) (fun _ => zp2_some ⟨h2, f2, w2, rfl⟩)
end ZQ1
end ZJN12
section ZJN13
/-! FAR AND MOVES -/
section ZFA
variable {I : zSt → zSt → Prop} {σ μ : zSt}
theorem t_p0 (h : zTT I σ μ) : zp2 (fX5_pair σ 0) (fX12_pair μ 2) (fun r r' => r.1 = σ ∧ r'.1 = μ ∧ r'.2 = r.2 ∧ zr 0 65535 r.2) := by
  unfold fX5_pair
  exact zp2_ifl (fun _ => zp2_bilp (t_pair2 h) (fun s v b q => zp2_some q)) (fun q => absurd rfl q)
theorem t_p1 (h : zTT I σ μ) : zp2 (fX5_pair σ 1) (fX12_pair μ 4) (fun r r' => r.1 = σ ∧ r'.1 = μ ∧ r'.2 = r.2 ∧ zr 0 65535 r.2) := by
  unfold fX5_pair
  exact zp2_ifl (fun q => absurd q (by decide)) (fun _ => zp2_ifl (fun _ => zp2_bilp (t_pair4 h) (fun s v b q => zp2_some q)) (fun q => absurd rfl q))
/-- behind a read or a write: WZ is put on both sides -/
theorem zEnq.wz (hI : zIoK I) (h : zTT I σ μ) (hF : zF σ μ) {v w b : Int32} (e : w = v) (hv : zr 0 65535 v) : zEnq I (zsi σ 36 20 v, b) (zsi μ 3 20 w, b) := by
  subst e
  exact ⟨(h.onC hI (Or.inr rfl) (zrg_w (by decide) (by decide) hv)).onM hI (Or.inr rfl), hF, rfl, rfl⟩
theorem z_awz {a v : Int32} (ha : zr 0 255 a) : zr 0 65535 ((a <<< ((8 : Int32) &&& 31)) ||| ((v + 1) &&& 255)) := z_rw' ha (z_r8 _)
theorem t_far (hI : zIoK I) (h : zTT I σ μ) (hF : zF σ μ) {y : Int32} (hy : zr 0 7 y) : zp2 (fX5_far σ y) (fX12_moves μ (y >>> ((1 : Int32) &&& 31)) (y &&& 1)) (zEnq I) := by
  unfold fX5_far fX12_moves fX5_far_12 fX12_moves_15 fX12_moves_114 fX12_moves_160 fX12_moves_195 fX12_moves_201 fX12_moves_85 fX12_moves_214
  rcases zr_hd (c := 0) hy rfl with e | hy
  · subst e
    refine zp2_ifl (fun q => absurd q (by decide)) (fun _ => ?_)
    refine zp2_ifl (fun q => absurd q (by decide)) (fun _ => zp2_ifr (fun q => absurd q (by decide)) (fun _ => ?_))
    refine zp2_ifr (fun _ => ?_) (fun q => absurd (by decide) q)
    refine zp2_bii (t_p0 h) (fun s v t v' q => ?_)
    obtain ⟨q1, q2, q3, rv⟩ := q
    have q1 : s = σ := q1
    have q2 : t = μ := q2
    have q3 : v' = v := q3
    subst q1
    subst q2
    subst q3
    have rv : zr 0 65535 v' := rv
    unfold fX5_far_32 fX5_far_140 fX5_far_152 fX5_far_78
    refine zp2_ckl (zp2_bvl (fun s1 f1 => ?_))
    have h1 : zTT I s1 t := by rw [f1]; exact h.onC hI (Or.inr rfl) (zrg_w (by decide) (by decide) (z_r16 _))
    have F1 : zF s1 t := hF.of (by rw [f1]; rfl) rfl
    have wz : s1 = zsi s1 36 20 ((v' + 1) &&& 65535) := by rw [f1]; exact zsi_ow.symm
    refine zp2_ifl (fun q => absurd q (by decide)) (fun _ => ?_)
    refine zp2_ifl (fun _ => zp2_ckl (zp2_ifr (fun _ => zp2_ckr ?_) (fun q => absurd (by decide) q))) (fun q => absurd rfl q)
    refine zp2_wr h1.1 rfl (by rw [show zgi t 3 (0 : Int32).toNatClampNeg = s1.1 36 0 from h1.eq (by decide)]; exact z_m255 (h1.b (by decide))) (h1.b (j := 0) (by decide)) (fun s3 t3 hm qc3 qm3 => ?_)
    have h3 := h1.mem hI hm qc3 qm3
    have ea : zgi t3 3 (0 : Int32).toNatClampNeg = zgi s3 36 (0 : Int32).toNatClampNeg := h3.eq (by decide)
    refine zp2_ckl (zp2_ckl (zp2_bvl (fun s4 f4 => zp2_ifl (fun q => absurd q (by decide)) (fun _ => ?_))))
    refine zp2_ckr (zp2_ckr (zp2_bvr (fun t4 g4 => zp2_some ?_)))
    rw [f4, g4]
    exact zEnq.wz hI h3 (F1.of (qc3.1 36 1 rfl) (qm3.1 3 1 rfl)) (by rw [ea]) (z_awz (h3.b (j := 0) (by decide)))
  rcases zr_hd (c := 1) hy rfl with e | hy
  · subst e
    refine zp2_ifl (fun _ => ?_) (fun q => absurd rfl q)
    refine zp2_ifl (fun q => absurd q (by decide)) (fun _ => zp2_ifr (fun q => absurd q (by decide)) (fun _ => ?_))
    refine zp2_ifr (fun _ => ?_) (fun q => absurd (by decide) q)
    refine zp2_bii (t_p0 h) (fun s v t v' q => ?_)
    obtain ⟨q1, q2, q3, rv⟩ := q
    have q1 : s = σ := q1
    have q2 : t = μ := q2
    have q3 : v' = v := q3
    subst q1
    subst q2
    subst q3
    have rv : zr 0 65535 v' := rv
    unfold fX5_far_32 fX5_far_140 fX5_far_152 fX5_far_78
    refine zp2_ckl (zp2_bvl (fun s1 f1 => ?_))
    have h1 : zTT I s1 t := by rw [f1]; exact h.onC hI (Or.inr rfl) (zrg_w (by decide) (by decide) (z_r16 _))
    have F1 : zF s1 t := hF.of (by rw [f1]; rfl) rfl
    have wz : s1 = zsi s1 36 20 ((v' + 1) &&& 65535) := by rw [f1]; exact zsi_ow.symm
    refine zp2_ifl (fun q => absurd q (by decide)) (fun _ => ?_)
    refine zp2_ifl (fun q => absurd q (by decide)) (fun _ => zp2_ifr (fun q => absurd q (by decide)) (fun _ => ?_))
    refine zp2_rd h1.1 rfl (fun b rb => zp2_ckl (zp2_bvl (fun s4 f4 => zp2_ifl (fun q => absurd q (by decide)) (fun _ => ?_))))
    refine zp2_ckr (zp2_bvr (fun t3 g3 => ?_))
    have h3 : zTT I s4 t3 := h1.upd hI [0] (by rw [f4]; exact zQ.wi zQ.rf rfl) (by rw [g3]; exact zQ.wi zQ.rf rfl) rfl (zAl1 ⟨by rw [f4, g3]; rfl, by rw [f4]; exact zrg_b (Or.inl (by decide)) rb⟩)
    have F3 : zF s4 t3 := F1.of (by rw [f4]; rfl) (by rw [g3]; rfl)
    have w3 : s4 = zsi s4 36 20 ((v' + 1) &&& 65535) := by
      have e : s4.1 36 20 = (v' + 1) &&& 65535 := by rw [f4, f1]; rfl
      rw [← e]; exact zsi_own.symm
    refine zp2_ckr (zp2_bvr (fun t4 g4 => zp2_some ?_))
    rw [w3, g4]
    exact zEnq.wz hI h3 F3 rfl (z_r16 _)
  rcases zr_hd (c := 2) hy rfl with e | hy
  · subst e
    refine zp2_ifl (fun q => absurd q (by decide)) (fun _ => ?_)
    refine zp2_ifl (fun q => absurd q (by decide)) (fun _ => zp2_ifr (fun q => absurd q (by decide)) (fun _ => ?_))
    refine zp2_ifr (fun q => absurd q (by decide)) (fun _ => ?_)
    refine zp2_bii (t_p1 h) (fun s v t v' q => ?_)
    obtain ⟨q1, q2, q3, rv⟩ := q
    have q1 : s = σ := q1
    have q2 : t = μ := q2
    have q3 : v' = v := q3
    subst q1
    subst q2
    subst q3
    have rv : zr 0 65535 v' := rv
    unfold fX5_far_32 fX5_far_140 fX5_far_152 fX5_far_78
    refine zp2_ckl (zp2_bvl (fun s1 f1 => ?_))
    have h1 : zTT I s1 t := by rw [f1]; exact h.onC hI (Or.inr rfl) (zrg_w (by decide) (by decide) (z_r16 _))
    have F1 : zF s1 t := hF.of (by rw [f1]; rfl) rfl
    have wz : s1 = zsi s1 36 20 ((v' + 1) &&& 65535) := by rw [f1]; exact zsi_ow.symm
    refine zp2_ifl (fun q => absurd q (by decide)) (fun _ => ?_)
    refine zp2_ifl (fun _ => zp2_ckl (zp2_ifr (fun _ => zp2_ckr ?_) (fun q => absurd (by decide) q))) (fun q => absurd rfl q)
    refine zp2_wr h1.1 rfl (by rw [show zgi t 3 (0 : Int32).toNatClampNeg = s1.1 36 0 from h1.eq (by decide)]; exact z_m255 (h1.b (by decide))) (h1.b (j := 0) (by decide)) (fun s3 t3 hm qc3 qm3 => ?_)
    have h3 := h1.mem hI hm qc3 qm3
    have ea : zgi t3 3 (0 : Int32).toNatClampNeg = zgi s3 36 (0 : Int32).toNatClampNeg := h3.eq (by decide)
    refine zp2_ckl (zp2_ckl (zp2_bvl (fun s4 f4 => zp2_ifl (fun q => absurd q (by decide)) (fun _ => ?_))))
    refine zp2_ckr (zp2_ckr (zp2_bvr (fun t4 g4 => zp2_some ?_)))
    rw [f4, g4]
    exact zEnq.wz hI h3 (F1.of (qc3.1 36 1 rfl) (qm3.1 3 1 rfl)) (by rw [ea]) (z_awz (h3.b (j := 0) (by decide)))
  rcases zr_hd (c := 3) hy rfl with e | hy
  · subst e
    refine zp2_ifl (fun _ => ?_) (fun q => absurd rfl q)
    refine zp2_ifl (fun q => absurd q (by decide)) (fun _ => zp2_ifr (fun q => absurd q (by decide)) (fun _ => ?_))
    refine zp2_ifr (fun q => absurd q (by decide)) (fun _ => ?_)
    refine zp2_bii (t_p1 h) (fun s v t v' q => ?_)
    obtain ⟨q1, q2, q3, rv⟩ := q
    have q1 : s = σ := q1
    have q2 : t = μ := q2
    have q3 : v' = v := q3
    subst q1
    subst q2
    subst q3
    have rv : zr 0 65535 v' := rv
    unfold fX5_far_32 fX5_far_140 fX5_far_152 fX5_far_78
    refine zp2_ckl (zp2_bvl (fun s1 f1 => ?_))
    have h1 : zTT I s1 t := by rw [f1]; exact h.onC hI (Or.inr rfl) (zrg_w (by decide) (by decide) (z_r16 _))
    have F1 : zF s1 t := hF.of (by rw [f1]; rfl) rfl
    have wz : s1 = zsi s1 36 20 ((v' + 1) &&& 65535) := by rw [f1]; exact zsi_ow.symm
    refine zp2_ifl (fun q => absurd q (by decide)) (fun _ => ?_)
    refine zp2_ifl (fun q => absurd q (by decide)) (fun _ => zp2_ifr (fun q => absurd q (by decide)) (fun _ => ?_))
    refine zp2_rd h1.1 rfl (fun b rb => zp2_ckl (zp2_bvl (fun s4 f4 => zp2_ifl (fun q => absurd q (by decide)) (fun _ => ?_))))
    refine zp2_ckr (zp2_bvr (fun t3 g3 => ?_))
    have h3 : zTT I s4 t3 := h1.upd hI [0] (by rw [f4]; exact zQ.wi zQ.rf rfl) (by rw [g3]; exact zQ.wi zQ.rf rfl) rfl (zAl1 ⟨by rw [f4, g3]; rfl, by rw [f4]; exact zrg_b (Or.inl (by decide)) rb⟩)
    have F3 : zF s4 t3 := F1.of (by rw [f4]; rfl) (by rw [g3]; rfl)
    have w3 : s4 = zsi s4 36 20 ((v' + 1) &&& 65535) := by
      have e : s4.1 36 20 = (v' + 1) &&& 65535 := by rw [f4, f1]; rfl
      rw [← e]; exact zsi_own.symm
    refine zp2_ckr (zp2_bvr (fun t4 g4 => zp2_some ?_))
    rw [w3, g4]
    exact zEnq.wz hI h3 F3 rfl (z_r16 _)
  rcases zr_hd (c := 4) hy rfl with e | hy
  · subst e
    refine zp2_ifl (fun q => absurd q (by decide)) (fun _ => ?_)
    refine zp2_ifl (fun _ => zp2_ifr (fun _ => ?_) (fun q => absurd (by decide) q)) (fun q => absurd (by decide) q)
    refine zp2_bii (t_word hI h) (fun s v t v' q => ?_)
    obtain ⟨h0, e1, rv, qc, qm⟩ := q
    have e1 : v' = v := e1
    subst e1
    have hF : zF s t := hF.of (qc.1 36 1 rfl) (qm.1 3 1 rfl)
    have h := h0
    have rv : zr 0 65535 v' := rv
    unfold fX5_far_32 fX5_far_140 fX5_far_152 fX5_far_78
    refine zp2_ckl (zp2_bvl (fun s1 f1 => ?_))
    have h1 : zTT I s1 t := by rw [f1]; exact h.onC hI (Or.inr rfl) (zrg_w (by decide) (by decide) (z_r16 _))
    have F1 : zF s1 t := hF.of (by rw [f1]; rfl) rfl
    have wz : s1 = zsi s1 36 20 ((v' + 1) &&& 65535) := by rw [f1]; exact zsi_ow.symm
    refine zp2_ifl (fun _ => ?_) (fun q => absurd (by decide) q)
    refine zp2_ifr (fun _ => ?_) (fun q => absurd (by decide) q)
    refine zp2_ifl (fun _ => zp2_ifr (fun _ => zp2_ifr (fun _ => ?_) (fun q => absurd (by decide) q)) (fun q => absurd (by decide) q)) (fun q => absurd rfl q)
    refine zp2_bii (t_hl h1) (fun s2 w t2 w' q => ?_)
    obtain ⟨q1, q2, q3, rw1⟩ := q
    have q1 : s2 = s1 := q1
    have q2 : t2 = t := q2
    have q3 : w' = w := q3
    subst q1
    subst q2
    subst q3
    refine zp2_buu (t_wword h1.1 rfl rfl rw1) (fun s3 t3 q => ?_)
    obtain ⟨hm, qc3, qm3⟩ := q
    have h3 := h1.mem hI hm qc3 qm3
    refine zp2_ifr (fun q => absurd q (by decide)) (fun _ => zp2_ckr (zp2_bvr (fun t4 g4 => zp2_ifr (fun _ => zp2_some ?_) (fun q => absurd (by decide) q))))
    have w3 : s3 = zsi s3 36 20 ((v' + 1) &&& 65535) := by
      have e : s3.1 36 20 = (v' + 1) &&& 65535 := by rw [qc3.1 36 20 rfl, f1]; rfl
      rw [← e]; exact zsi_own.symm
    rw [w3, g4]
    exact zEnq.wz hI h3 (F1.of (qc3.1 36 1 rfl) (qm3.1 3 1 rfl)) rfl (z_r16 _)
  rcases zr_hd (c := 5) hy rfl with e | hy
  · subst e
    refine zp2_ifl (fun _ => ?_) (fun q => absurd rfl q)
    refine zp2_ifl (fun _ => zp2_ifr (fun _ => ?_) (fun q => absurd (by decide) q)) (fun q => absurd (by decide) q)
    refine zp2_bii (t_word hI h) (fun s v t v' q => ?_)
    obtain ⟨h0, e1, rv, qc, qm⟩ := q
    have e1 : v' = v := e1
    subst e1
    have hF : zF s t := hF.of (qc.1 36 1 rfl) (qm.1 3 1 rfl)
    have h := h0
    have rv : zr 0 65535 v' := rv
    unfold fX5_far_32 fX5_far_140 fX5_far_152 fX5_far_78
    refine zp2_ckl (zp2_bvl (fun s1 f1 => ?_))
    have h1 : zTT I s1 t := by rw [f1]; exact h.onC hI (Or.inr rfl) (zrg_w (by decide) (by decide) (z_r16 _))
    have F1 : zF s1 t := hF.of (by rw [f1]; rfl) rfl
    have wz : s1 = zsi s1 36 20 ((v' + 1) &&& 65535) := by rw [f1]; exact zsi_ow.symm
    refine zp2_ifl (fun _ => ?_) (fun q => absurd (by decide) q)
    refine zp2_ifr (fun _ => ?_) (fun q => absurd (by decide) q)
    refine zp2_ifl (fun q => absurd q (by decide)) (fun _ => zp2_ifr (fun q => absurd q (by decide)) (fun _ => ?_))
    refine zp2_bii (t_rword h1.1 rfl) (fun s2 w t2 w' q => ?_)
    obtain ⟨q1, q2, q3, rw1⟩ := q
    have q1 : s2 = s1 := q1
    have q2 : t2 = t := q2
    have q3 : w' = w := q3
    subst q1
    subst q2
    subst q3
    refine zp2_buu (t_hlTo hI h1 rfl) (fun s3 t3 q => ?_)
    obtain ⟨h3, qc3, qm3⟩ := q
    refine zp2_ifr (fun q => absurd q (by decide)) (fun _ => zp2_ckr (zp2_bvr (fun t4 g4 => zp2_ifr (fun _ => zp2_some ?_) (fun q => absurd (by decide) q))))
    have w3 : s3 = zsi s3 36 20 ((v' + 1) &&& 65535) := by
      have e : s3.1 36 20 = (v' + 1) &&& 65535 := by rw [qc3.1 36 20 rfl, f1]; rfl
      rw [← e]; exact zsi_own.symm
    rw [w3, g4]
    exact zEnq.wz hI h3 (F1.of (qc3.1 36 1 rfl) (qm3.1 3 1 rfl)) rfl (z_r16 _)
  rcases zr_hd (c := 6) hy rfl with e | hy
  · subst e
    refine zp2_ifl (fun q => absurd q (by decide)) (fun _ => ?_)
    refine zp2_ifl (fun _ => zp2_ifr (fun _ => ?_) (fun q => absurd (by decide) q)) (fun q => absurd (by decide) q)
    refine zp2_bii (t_word hI h) (fun s v t v' q => ?_)
    obtain ⟨h0, e1, rv, qc, qm⟩ := q
    have e1 : v' = v := e1
    subst e1
    have hF : zF s t := hF.of (qc.1 36 1 rfl) (qm.1 3 1 rfl)
    have h := h0
    have rv : zr 0 65535 v' := rv
    unfold fX5_far_32 fX5_far_140 fX5_far_152 fX5_far_78
    refine zp2_ckl (zp2_bvl (fun s1 f1 => ?_))
    have h1 : zTT I s1 t := by rw [f1]; exact h.onC hI (Or.inr rfl) (zrg_w (by decide) (by decide) (z_r16 _))
    have F1 : zF s1 t := hF.of (by rw [f1]; rfl) rfl
    have wz : s1 = zsi s1 36 20 ((v' + 1) &&& 65535) := by rw [f1]; exact zsi_ow.symm
    refine zp2_ifl (fun q => absurd q (by decide)) (fun _ => ?_)
    refine zp2_ifr (fun q => absurd q (by decide)) (fun _ => zp2_ifr (fun q => absurd q (by decide)) (fun _ => ?_))
    refine zp2_ifl (fun _ => zp2_ckl (zp2_ifr (fun _ => zp2_ckr ?_) (fun q => absurd (by decide) q))) (fun q => absurd rfl q)
    refine zp2_wr h1.1 rfl (by rw [show zgi t 3 (0 : Int32).toNatClampNeg = s1.1 36 0 from h1.eq (by decide)]; exact z_m255 (h1.b (by decide))) (h1.b (j := 0) (by decide)) (fun s3 t3 hm qc3 qm3 => ?_)
    have h3 := h1.mem hI hm qc3 qm3
    have ea : zgi t3 3 (0 : Int32).toNatClampNeg = zgi s3 36 (0 : Int32).toNatClampNeg := h3.eq (by decide)
    refine zp2_ckl (zp2_ckl (zp2_bvl (fun s4 f4 => zp2_ifl (fun _ => ?_) (fun q => absurd (by decide) q))))
    refine zp2_ifr (fun _ => zp2_ifr (fun _ => zp2_ckr (zp2_ckr (zp2_bvr (fun t4 g4 => zp2_ifr (fun q => absurd q (by decide)) (fun _ => zp2_some ?_))))) (fun q => absurd (by decide) q)) (fun q => absurd (by decide) q)
    rw [f4, g4]
    exact zEnq.wz hI h3 (F1.of (qc3.1 36 1 rfl) (qm3.1 3 1 rfl)) (by rw [ea]) (z_awz (h3.b (j := 0) (by decide)))
  rcases zr_hd (c := 7) hy rfl with e | hy
  · subst e
    refine zp2_ifl (fun _ => ?_) (fun q => absurd rfl q)
    refine zp2_ifl (fun _ => zp2_ifr (fun _ => ?_) (fun q => absurd (by decide) q)) (fun q => absurd (by decide) q)
    refine zp2_bii (t_word hI h) (fun s v t v' q => ?_)
    obtain ⟨h0, e1, rv, qc, qm⟩ := q
    have e1 : v' = v := e1
    subst e1
    have hF : zF s t := hF.of (qc.1 36 1 rfl) (qm.1 3 1 rfl)
    have h := h0
    have rv : zr 0 65535 v' := rv
    unfold fX5_far_32 fX5_far_140 fX5_far_152 fX5_far_78
    refine zp2_ckl (zp2_bvl (fun s1 f1 => ?_))
    have h1 : zTT I s1 t := by rw [f1]; exact h.onC hI (Or.inr rfl) (zrg_w (by decide) (by decide) (z_r16 _))
    have F1 : zF s1 t := hF.of (by rw [f1]; rfl) rfl
    have wz : s1 = zsi s1 36 20 ((v' + 1) &&& 65535) := by rw [f1]; exact zsi_ow.symm
    refine zp2_ifl (fun q => absurd q (by decide)) (fun _ => ?_)
    refine zp2_ifr (fun q => absurd q (by decide)) (fun _ => zp2_ifr (fun q => absurd q (by decide)) (fun _ => ?_))
    refine zp2_ifl (fun q => absurd q (by decide)) (fun _ => zp2_ifr (fun q => absurd q (by decide)) (fun _ => ?_))
    refine zp2_rd h1.1 rfl (fun b rb => zp2_ckl (zp2_bvl (fun s4 f4 => zp2_ifl (fun _ => ?_) (fun q => absurd (by decide) q))))
    refine zp2_ckr (zp2_bvr (fun t3 g3 => ?_))
    have h3 : zTT I s4 t3 := h1.upd hI [0] (by rw [f4]; exact zQ.wi zQ.rf rfl) (by rw [g3]; exact zQ.wi zQ.rf rfl) rfl (zAl1 ⟨by rw [f4, g3]; rfl, by rw [f4]; exact zrg_b (Or.inl (by decide)) rb⟩)
    have F3 : zF s4 t3 := F1.of (by rw [f4]; rfl) (by rw [g3]; rfl)
    have w3 : s4 = zsi s4 36 20 ((v' + 1) &&& 65535) := by
      have e : s4.1 36 20 = (v' + 1) &&& 65535 := by rw [f4, f1]; rfl
      rw [← e]; exact zsi_own.symm
    refine zp2_ifr (fun _ => zp2_ifr (fun q => absurd q (by decide)) (fun _ => zp2_ckr (zp2_bvr (fun t4 g4 => zp2_ifr (fun q => absurd q (by decide)) (fun _ => zp2_some ?_))))) (fun q => absurd (by decide) q)
    rw [w3, g4]
    exact zEnq.wz hI h3 F3 rfl (z_r16 _)
  exact zr_no9 hy (by decide)
end ZFA
end ZJN13
section ZJN14
/-! THREE QUARTERS -/
theorem zp2_birp {α β : Type} {o : Option α} {p : Option (zSt × Int32)} {g : zSt → Int32 → Option β} {P : α → zSt × Int32 → Prop} {Q : α → β → Prop} (h : zp2 o p P) (k : ∀ a t w, P a (t, w) → zp2 (some a) (g t w) Q) : zp2 o (zbi p g) Q := by
  intro a b ea eb
  cases e : p with
  | none => rw [e] at eb; cases eb
  | some r =>
    rw [e] at eb
    exact k a r.1 r.2 (h a r ea e) a b rfl eb
theorem z_fin8 {x : Int32} (h : zr 0 7 x) : ∃ i : Fin 8, x = Int32.ofNat i.val := by
  obtain ⟨h0, h1⟩ := h
  obtain ⟨i, hi⟩ : ∃ i : Nat, x.toInt = i := ⟨x.toInt.toNat, by omega⟩
  exact ⟨⟨i, by omega⟩, z_ofN hi⟩
theorem v_par : ∀ i : Fin 8, ((Int32.ofNat i.val &&& 1 = 0 ∧ zrem (Int32.ofNat i.val) 2 = 0) ∨ (Int32.ofNat i.val &&& 1 = 1 ∧ zrem (Int32.ofNat i.val) 2 = 1)) ∧ (0 ≤ (Int32.ofNat i.val >>> ((1 : Int32) &&& 31)).toInt ∧ (Int32.ofNat i.val >>> ((1 : Int32) &&& 31)).toInt ≤ 3) := by decide +kernel
theorem z_par {y : Int32} (h : zr 0 7 y) : ((y &&& 1 = 0 ∧ zrem y 2 = 0) ∨ (y &&& 1 = 1 ∧ zrem y 2 = 1)) ∧ zr 0 3 (y >>> ((1 : Int32) &&& 31)) := by
  obtain ⟨i, e⟩ := z_fin8 h
  subst e
  exact v_par i
theorem z_r7 (x : Int32) : zr 0 7 (x &&& 7) := zr_andr (lo := 0) (hi := 7) (zr_c (lo := 7) (hi := 7) (by decide)) (by decide)
section ZQ3
variable {I : zSt → zSt → Prop} {σ μ : zSt}
theorem t_inc3 (hI : zIoK I) (h : zTT I σ μ) (hF : zF σ μ) (hW : zWzz σ μ) {p c v : Int32} : zp2 (fX5_firstQuarter_110 σ c v p) (fX12_zero_328 μ c v p) (zEnq I) := by
  unfold fX5_firstQuarter_110 fX12_zero_328
  refine zp2_buu (t_rpTo hI h rfl) (fun s2 t2 q2 => zp2_some ?_)
  obtain ⟨h2, qc2, qm2⟩ := q2
  exact ⟨h2, hF.of (qc2.1 36 1 rfl) (qm2.1 3 1 rfl), hW.of (qc2.1 36 20 rfl) (qm2.1 3 20 rfl), rfl⟩
theorem t_z1 (hI : zIoK I) (h : zTT I σ μ) (hF : zF σ μ) (hW : zWzz σ μ) {y : Int32} (hy : zr 0 7 y) : zp2 (if (y &&& 1) = 0 then zbi (fX5_loadPair σ (y >>> ((1 : Int32) &&& 31))) (fun σ7 v8 => fX5_firstQuarter_81 σ7 v8) else zbi (fX5_addPair σ (y >>> ((1 : Int32) &&& 31))) (fun σ5 v6 => fX5_firstQuarter_81 σ5 v6)) (fX12_zero μ y 1) (zEnq I) := by
  obtain ⟨par, hp⟩ := z_par hy
  unfold fX12_zero fX5_firstQuarter_81
  refine zp2_bvr (fun p ep => zp2_ifr (fun q => absurd q (by decide)) (fun _ => zp2_ifr (fun _ => zp2_ckr ?_) (fun q => absurd rfl q)))
  subst ep
  rcases par with ⟨e1, e2⟩ | ⟨e1, e2⟩
  · rw [e1, e2]
    exact zp2_ifl (fun _ => zp2_ifr (fun _ => zp2_bilp (t_ldrp hI h hF hW) (fun s v b q => zp2_some q)) (fun q => absurd rfl q)) (fun q => absurd rfl q)
  · rw [e1, e2]
    exact zp2_ifl (fun q => absurd q (by decide)) (fun _ => zp2_ifr (fun q => absurd q (by decide)) (fun _ => zp2_bilp (t_addhl hI h hF hp) (fun s v b q => zp2_some q)))
theorem t_z2 (hI : zIoK I) (h : zTT I σ μ) (hF : zF σ μ) {y : Int32} (hy : zr 0 7 y) : zp2 (fX5_far σ y) (fX12_zero μ y 2) (zEnq I) := by
  obtain ⟨par, hp⟩ := z_par hy
  have t := t_far hI h hF hy
  unfold fX12_zero fX12_zero_178 fX12_zero_306
  refine zp2_bvr (fun p ep => zp2_ifr (fun q => absurd q (by decide)) (fun _ => zp2_ifr (fun q => absurd q (by decide)) (fun _ => zp2_ifr (fun q => absurd q (by decide)) (fun _ => zp2_ifr (fun _ => zp2_ckr ?_) (fun q => absurd rfl q)))))
  subst ep
  rcases par with ⟨e1, e2⟩ | ⟨e1, e2⟩
  · rw [e2]
    rw [e1] at t
    exact zp2_ifr (fun q => absurd q (by decide)) (fun _ => zp2_birp t (fun a t w q => zp2_some q))
  · rw [e2]
    rw [e1] at t
    exact zp2_ifr (fun _ => zp2_birp t (fun a t w q => zp2_some q)) (fun q => absurd rfl q)
theorem t_z3 (hI : zIoK I) (h : zTT I σ μ) (hF : zF σ μ) (hW : zWzz σ μ) {y : Int32} (hy : zr 0 7 y) : zp2 (zbi (fX5_pair σ (y >>> ((1 : Int32) &&& 31))) (fun σ11 v12 => if (y &&& 1) = 0 then fX5_firstQuarter_110 σ11 1 v12 (y >>> ((1 : Int32) &&& 31)) else fX5_firstQuarter_110 σ11 (-1) v12 (y >>> ((1 : Int32) &&& 31)))) (fX12_zero μ y 3) (zEnq I) := by
  obtain ⟨par, hp⟩ := z_par hy
  unfold fX12_zero fX12_zero_178
  refine zp2_bvr (fun p ep => zp2_ifr (fun q => absurd q (by decide)) (fun _ => zp2_ifr (fun q => absurd q (by decide)) (fun _ => zp2_ifr (fun q => absurd q (by decide)) (fun _ => zp2_ifr (fun q => absurd q (by decide)) (fun _ => ?_)))))
  subst ep
  refine zp2_bii (t_rp h hp) (fun s1 b t1 b' q => ?_)
  obtain ⟨q1, q2, q3, rb⟩ := q
  have q1 : s1 = σ := q1
  have q2 : t1 = μ := q2
  have q3 : b' = b := q3
  subst q1
  subst q2
  subst q3
  refine zp2_ckr ?_
  rcases par with ⟨e1, e2⟩ | ⟨e1, e2⟩
  · rw [e1, e2]
    exact zp2_ifl (fun _ => zp2_ifr (fun _ => t_inc3 hI h hF hW) (fun q => absurd rfl q)) (fun q => absurd rfl q)
  · rw [e1, e2]
    exact zp2_ifl (fun q => absurd q (by decide)) (fun _ => zp2_ifr (fun q => absurd q (by decide)) (fun _ => t_inc3 hI h hF hW))
theorem t_z7 (hI : zIoK I) (h : zTT I σ μ) (hF : zF σ μ) (hW : zWzz σ μ) {y : Int32} (hy : zr 0 7 y) : zp2 (zbu (fX5_changeA σ y) (fun s => some (s, (4 : Int32)))) (fX12_singles μ y 7) (zEnq I) := by
  rcases zr_hd (c := 0) hy rfl with e | hy
  · subst e; exact t_acc0 hI h hF hW
  rcases zr_hd (c := 1) hy rfl with e | hy
  · subst e; exact t_acc1 hI h hF hW
  rcases zr_hd (c := 2) hy rfl with e | hy
  · subst e; exact t_acc2 hI h hF hW
  rcases zr_hd (c := 3) hy rfl with e | hy
  · subst e; exact t_acc3 hI h hF hW
  rcases zr_hd (c := 4) hy rfl with e | hy
  · subst e; exact t_acc4 hI h hF hW
  rcases zr_hd (c := 5) hy rfl with e | hy
  · subst e; exact t_acc5 hI h hF hW
  rcases zr_hd (c := 6) hy rfl with e | hy
  · subst e; exact t_acc6 hI h hF hW
  rcases zr_hd (c := 7) hy rfl with e | hy
  · subst e; exact t_acc7 hI h hF hW
  exact zr_no9 hy (by decide)
theorem t_first (hI : zIoK I) (h : zTT I σ μ) (hF : zF σ μ) (hW : zWzz σ μ) (hp : zPlc σ μ) {op : Int32} (hx : op >>> ((6 : Int32) &&& 31) = 0) : zp2 (fX5_firstQuarter σ op) (fX12_plain μ op) (zEnq I) := by
  have hy : zr 0 7 ((op >>> ((3 : Int32) &&& 31)) &&& 7) := z_r7 _
  have hz : zr 0 7 (op &&& 7) := z_r7 _
  unfold fX5_firstQuarter fX12_plain fX12_plain_64
  refine zp2_bvl (fun y ey => zp2_bvr (fun y' ey' => zp2_bvr (fun z ez => zp2_ifr (fun _ => ?_) (fun q => absurd hx q))))
  rw [← ey] at ey' hy
  subst ey'
  rw [← ez] at hz ⊢
  clear ez
  rcases zr_hd (c := 0) hz rfl with e | hz
  · subst e
    exact zp2_ifl (fun _ => zp2_ifr (fun q => absurd q (by decide)) (fun _ => zp2_bii (t_near hI h hF hW hy) (fun s v t w q => zp2_some q))) (fun q => absurd rfl q)
  rcases zr_hd (c := 1) hz rfl with e | hz
  · subst e
    exact zp2_ifl (fun q => absurd q (by decide)) (fun _ => zp2_ifl (fun _ => zp2_ifr (fun q => absurd q (by decide)) (fun _ => zp2_birp (t_z1 hI h hF hW hy) (fun a t w q => zp2_some q))) (fun q => absurd rfl q))
  rcases zr_hd (c := 2) hz rfl with e | hz
  · subst e
    exact zp2_ifl (fun q => absurd q (by decide)) (fun _ => zp2_ifl (fun q => absurd q (by decide)) (fun _ => zp2_ifl (fun _ => zp2_ifr (fun q => absurd q (by decide)) (fun _ => zp2_bii (t_z2 hI h hF hy) (fun s v t w q => zp2_some q))) (fun q => absurd rfl q)))
  rcases zr_hd (c := 3) hz rfl with e | hz
  · subst e
    exact zp2_ifl (fun q => absurd q (by decide)) (fun _ => zp2_ifl (fun q => absurd q (by decide)) (fun _ => zp2_ifl (fun q => absurd q (by decide)) (fun _ => zp2_ifl (fun _ => zp2_ifr (fun q => absurd q (by decide)) (fun _ => zp2_birp (t_z3 hI h hF hW hy) (fun a t w q => zp2_some q))) (fun q => absurd rfl q))))
  rcases zr_hd (c := 4) hz rfl with e | hz
  · subst e
    exact zp2_ifl (fun q => absurd q (by decide)) (fun _ => zp2_ifl (fun q => absurd q (by decide)) (fun _ => zp2_ifl (fun q => absurd q (by decide)) (fun _ => zp2_ifl (fun q => absurd q (by decide)) (fun _ => zp2_ifl (fun _ => zp2_ifr (fun _ => zp2_birp (t_inc hI h hF hW hp hy) (fun a t w q => zp2_some q)) (fun q => absurd (by decide) q)) (fun q => absurd rfl q)))))
  rcases zr_hd (c := 5) hz rfl with e | hz
  · subst e
    exact zp2_ifl (fun q => absurd q (by decide)) (fun _ => zp2_ifl (fun q => absurd q (by decide)) (fun _ => zp2_ifl (fun q => absurd q (by decide)) (fun _ => zp2_ifl (fun q => absurd q (by decide)) (fun _ => zp2_ifl (fun q => absurd q (by decide)) (fun _ => zp2_ifl (fun _ => zp2_ifr (fun _ => zp2_birp (t_dec hI h hF hW hp hy) (fun a t w q => zp2_some q)) (fun q => absurd (by decide) q)) (fun q => absurd rfl q))))))
  rcases zr_hd (c := 6) hz rfl with e | hz
  · subst e
    exact zp2_ifl (fun q => absurd q (by decide)) (fun _ => zp2_ifl (fun q => absurd q (by decide)) (fun _ => zp2_ifl (fun q => absurd q (by decide)) (fun _ => zp2_ifl (fun q => absurd q (by decide)) (fun _ => zp2_ifl (fun q => absurd q (by decide)) (fun _ => zp2_ifl (fun q => absurd q (by decide)) (fun _ => zp2_ifl (fun _ => zp2_ifr (fun _ => zp2_birp (t_ldn hI h hF hW hp hy) (fun a t w q => zp2_some q)) (fun q => absurd (by decide) q)) (fun q => absurd rfl q)))))))
  rcases zr_hd (c := 7) hz rfl with e | hz
  · subst e
    exact zp2_ifl (fun q => absurd q (by decide)) (fun _ => zp2_ifl (fun q => absurd q (by decide)) (fun _ => zp2_ifl (fun q => absurd q (by decide)) (fun _ => zp2_ifl (fun q => absurd q (by decide)) (fun _ => zp2_ifl (fun q => absurd q (by decide)) (fun _ => zp2_ifl (fun q => absurd q (by decide)) (fun _ => zp2_ifl (fun q => absurd q (by decide)) (fun _ => zp2_ifr (fun _ => zp2_birp (t_z7 hI h hF hW hy) (fun a t w q => zp2_some q)) (fun q => absurd (by decide) q))))))))
  exact zr_no9 hz (by decide)
theorem t_move (hI : zIoK I) (h : zTT I σ μ) (hF : zF σ μ) (hW : zWzz σ μ) (hp : zPlc σ μ) {op : Int32} (hx : op >>> ((6 : Int32) &&& 31) = 1) : zp2 (fX5_move σ op) (fX12_plain μ op) (zEnq I) := by
  have hy : zr 0 7 ((op >>> ((3 : Int32) &&& 31)) &&& 7) := z_r7 _
  have hz : zr 0 7 (op &&& 7) := z_r7 _
  unfold fX5_move fX12_plain fX12_plain_92 fX12_plain_115 fX12_plain_110 fX12_plain_116 fX5_move_50 fX5_move_56
  rw [hx]
  refine zp2_bvr (fun y' ey' => zp2_bvr (fun z ez => zp2_ifr (fun q => absurd q (by decide)) (fun _ => zp2_ifr (fun _ => ?_) (fun q => absurd rfl q))))
  by_cases q : op = 118
  · refine zp2_ifl (fun _ => zp2_ifr (fun _ => ?_) (fun r => absurd q r)) (fun r => absurd q r)
    refine zp2_ckl (zp2_bvl (fun s f => zp2_ckr (zp2_bvr (fun t g => zp2_ifr (fun _ => zp2_some ?_) (fun r => absurd q r)))))
    subst f
    subst g
    exact ⟨h.upd hI [26] (zQ.wi zQ.rf rfl) (zQ.wi zQ.rf rfl) rfl (zAl1 ⟨rfl, zrg_1 (by decide) (by decide) (show zr 0 1 (1 : Int32) from zr_c (by decide))⟩), hF, hW, rfl⟩
  · refine zp2_ifl (fun r => absurd r q) (fun _ => zp2_ifr (fun r => absurd r q) (fun _ => ?_))
    refine zp2_bvl (fun y ey => zp2_bvl (fun z2 ez2 => ?_))
    have e1 : y' = y := ey'.trans ey.symm
    have e2 : z2 = z := ez2.trans ez.symm
    subst e1
    subst e2
    rw [← ey] at hy
    rw [← ez] at hz
    refine zp2_bii (t_one h hp hz) (fun s v t v' q => ?_)
    obtain ⟨q1, q2, q3, rv⟩ := q
    have q1 : s = σ := q1
    have q2 : t = μ := q2
    have q3 : v' = v := q3
    subst q1
    subst q2
    subst q3
    refine zp2_buu (t_putOne hI h hp hy (z_m255 rv) rv) (fun s2 t2 q2 => ?_)
    obtain ⟨h2, qc, qm⟩ := q2
    have f2 : zF s2 t2 := hF.of (qc.1 36 1 rfl) (qm.1 3 1 rfl)
    have w2 : zWzz s2 t2 := hW.of (qc.1 36 20 rfl) (qm.1 3 20 rfl)
    exact zp2_ifr (fun r => absurd r q) (fun _ => zp2_if (fun _ => zp2_some ⟨h2, f2, w2, rfl⟩) (fun _ => zp2_if (fun _ => zp2_some ⟨h2, f2, w2, rfl⟩) (fun _ => zp2_some ⟨h2, f2, w2, rfl⟩)))
theorem t_dor (hI : zIoK I) (h : zTT I σ μ) (hF : zF σ μ) (hW : zWzz σ μ) (hp : zPlc σ μ) {op : Int32} (hx : op >>> ((6 : Int32) &&& 31) = 2) : zp2 (fX5_doWithRegister σ op) (fX12_plain μ op) (zEnq I) := by
  have hy : zr 0 7 ((op >>> ((3 : Int32) &&& 31)) &&& 7) := z_r7 _
  have hz : zr 0 7 (op &&& 7) := z_r7 _
  unfold fX5_doWithRegister fX12_plain fX12_plain_139 fX5_doWithRegister_33
  rw [hx]
  refine zp2_bvr (fun y ey => zp2_bvr (fun z ez => zp2_ifr (fun q => absurd q (by decide)) (fun _ => zp2_ifr (fun q => absurd q (by decide)) (fun _ => zp2_ifr (fun _ => ?_) (fun q => absurd rfl q)))))
  rw [← ey, ← ez]
  rw [← ey] at hy
  rw [← ez] at hz
  refine zp2_bii (t_one h hp hz) (fun s v t v' q => ?_)
  obtain ⟨q1, q2, q3, rv⟩ := q
  have q1 : s = σ := q1
  have q2 : t = μ := q2
  have q3 : v' = v := q3
  subst q1
  subst q2
  subst q3
  refine zp2_buu (t_do hI h hF hy rv) (fun s2 t2 q2 => ?_)
  obtain ⟨h2, f2, qc, qm⟩ := q2
  have w2 : zWzz s2 t2 := hW.of (qc.1 36 20 rfl) (qm.1 3 20 rfl)
  exact zp2_if (fun _ => zp2_some ⟨h2, f2, w2, rfl⟩) (fun _ => zp2_some ⟨h2, f2, w2, rfl⟩)
theorem t_first_r1 (hI : zIoK I) (h : zTT I σ μ) (hF : zF σ μ) (hW : zWzz σ μ) (hp : zPlc σ μ) {op : Int32} (hx : op >>> ((6 : Int32) &&& 31) = 0) : zp2 (fX5_firstQuarter σ op) (fX12_plain_r1 μ op) (zEnq I) := by
  have hy : zr 0 7 ((op >>> ((3 : Int32) &&& 31)) &&& 7) := z_r7 _
  have hz : zr 0 7 (op &&& 7) := z_r7 _
  unfold fX5_firstQuarter fX12_plain_r1 fX12_plain_r1_64
  refine zp2_bvl (fun y ey => zp2_bvr (fun y' ey' => zp2_bvr (fun z ez => zp2_ifr (fun _ => ?_) (fun q => absurd hx q))))
  rw [← ey] at ey' hy
  subst ey'
  rw [← ez] at hz ⊢
  clear ez
  rcases zr_hd (c := 0) hz rfl with e | hz
  · subst e
    exact zp2_ifl (fun _ => zp2_ifr (fun q => absurd q (by decide)) (fun _ => zp2_bii (t_near hI h hF hW hy) (fun s v t w q => zp2_some q))) (fun q => absurd rfl q)
  rcases zr_hd (c := 1) hz rfl with e | hz
  · subst e
    exact zp2_ifl (fun q => absurd q (by decide)) (fun _ => zp2_ifl (fun _ => zp2_ifr (fun q => absurd q (by decide)) (fun _ => zp2_birp (t_z1 hI h hF hW hy) (fun a t w q => zp2_some q))) (fun q => absurd rfl q))
  rcases zr_hd (c := 2) hz rfl with e | hz
  · subst e
    exact zp2_ifl (fun q => absurd q (by decide)) (fun _ => zp2_ifl (fun q => absurd q (by decide)) (fun _ => zp2_ifl (fun _ => zp2_ifr (fun q => absurd q (by decide)) (fun _ => zp2_bii (t_z2 hI h hF hy) (fun s v t w q => zp2_some q))) (fun q => absurd rfl q)))
  rcases zr_hd (c := 3) hz rfl with e | hz
  · subst e
    exact zp2_ifl (fun q => absurd q (by decide)) (fun _ => zp2_ifl (fun q => absurd q (by decide)) (fun _ => zp2_ifl (fun q => absurd q (by decide)) (fun _ => zp2_ifl (fun _ => zp2_ifr (fun q => absurd q (by decide)) (fun _ => zp2_birp (t_z3 hI h hF hW hy) (fun a t w q => zp2_some q))) (fun q => absurd rfl q))))
  rcases zr_hd (c := 4) hz rfl with e | hz
  · subst e
    exact zp2_ifl (fun q => absurd q (by decide)) (fun _ => zp2_ifl (fun q => absurd q (by decide)) (fun _ => zp2_ifl (fun q => absurd q (by decide)) (fun _ => zp2_ifl (fun q => absurd q (by decide)) (fun _ => zp2_ifl (fun _ => zp2_ifr (fun _ => zp2_birp (t_inc hI h hF hW hp hy) (fun a t w q => zp2_some q)) (fun q => absurd (by decide) q)) (fun q => absurd rfl q)))))
  rcases zr_hd (c := 5) hz rfl with e | hz
  · subst e
    exact zp2_ifl (fun q => absurd q (by decide)) (fun _ => zp2_ifl (fun q => absurd q (by decide)) (fun _ => zp2_ifl (fun q => absurd q (by decide)) (fun _ => zp2_ifl (fun q => absurd q (by decide)) (fun _ => zp2_ifl (fun q => absurd q (by decide)) (fun _ => zp2_ifl (fun _ => zp2_ifr (fun _ => zp2_birp (t_dec hI h hF hW hp hy) (fun a t w q => zp2_some q)) (fun q => absurd (by decide) q)) (fun q => absurd rfl q))))))
  rcases zr_hd (c := 6) hz rfl with e | hz
  · subst e
    exact zp2_ifl (fun q => absurd q (by decide)) (fun _ => zp2_ifl (fun q => absurd q (by decide)) (fun _ => zp2_ifl (fun q => absurd q (by decide)) (fun _ => zp2_ifl (fun q => absurd q (by decide)) (fun _ => zp2_ifl (fun q => absurd q (by decide)) (fun _ => zp2_ifl (fun q => absurd q (by decide)) (fun _ => zp2_ifl (fun _ => zp2_ifr (fun _ => zp2_birp (t_ldn hI h hF hW hp hy) (fun a t w q => zp2_some q)) (fun q => absurd (by decide) q)) (fun q => absurd rfl q)))))))
  rcases zr_hd (c := 7) hz rfl with e | hz
  · subst e
    exact zp2_ifl (fun q => absurd q (by decide)) (fun _ => zp2_ifl (fun q => absurd q (by decide)) (fun _ => zp2_ifl (fun q => absurd q (by decide)) (fun _ => zp2_ifl (fun q => absurd q (by decide)) (fun _ => zp2_ifl (fun q => absurd q (by decide)) (fun _ => zp2_ifl (fun q => absurd q (by decide)) (fun _ => zp2_ifl (fun q => absurd q (by decide)) (fun _ => zp2_ifr (fun _ => zp2_birp (t_z7 hI h hF hW hy) (fun a t w q => zp2_some q)) (fun q => absurd (by decide) q))))))))
  exact zr_no9 hz (by decide)
theorem t_move_r1 (hI : zIoK I) (h : zTT I σ μ) (hF : zF σ μ) (hW : zWzz σ μ) (hp : zPlc σ μ) {op : Int32} (hx : op >>> ((6 : Int32) &&& 31) = 1) : zp2 (fX5_move σ op) (fX12_plain_r1 μ op) (zEnq I) := by
  have hy : zr 0 7 ((op >>> ((3 : Int32) &&& 31)) &&& 7) := z_r7 _
  have hz : zr 0 7 (op &&& 7) := z_r7 _
  unfold fX5_move fX12_plain_r1 fX12_plain_r1_92 fX12_plain_r1_115 fX12_plain_r1_110 fX12_plain_r1_116 fX5_move_50 fX5_move_56
  rw [hx]
  refine zp2_bvr (fun y' ey' => zp2_bvr (fun z ez => zp2_ifr (fun q => absurd q (by decide)) (fun _ => zp2_ifr (fun _ => ?_) (fun q => absurd rfl q))))
  by_cases q : op = 118
  · refine zp2_ifl (fun _ => zp2_ifr (fun _ => ?_) (fun r => absurd q r)) (fun r => absurd q r)
    refine zp2_ckl (zp2_bvl (fun s f => zp2_ckr (zp2_bvr (fun t g => zp2_ifr (fun _ => zp2_some ?_) (fun r => absurd q r)))))
    subst f
    subst g
    exact ⟨h.upd hI [26] (zQ.wi zQ.rf rfl) (zQ.wi zQ.rf rfl) rfl (zAl1 ⟨rfl, zrg_1 (by decide) (by decide) (show zr 0 1 (1 : Int32) from zr_c (by decide))⟩), hF, hW, rfl⟩
  · refine zp2_ifl (fun r => absurd r q) (fun _ => zp2_ifr (fun r => absurd r q) (fun _ => ?_))
    refine zp2_bvl (fun y ey => zp2_bvl (fun z2 ez2 => ?_))
    have e1 : y' = y := ey'.trans ey.symm
    have e2 : z2 = z := ez2.trans ez.symm
    subst e1
    subst e2
    rw [← ey] at hy
    rw [← ez] at hz
    refine zp2_bii (t_one h hp hz) (fun s v t v' q => ?_)
    obtain ⟨q1, q2, q3, rv⟩ := q
    have q1 : s = σ := q1
    have q2 : t = μ := q2
    have q3 : v' = v := q3
    subst q1
    subst q2
    subst q3
    refine zp2_buu (t_putOne hI h hp hy (z_m255 rv) rv) (fun s2 t2 q2 => ?_)
    obtain ⟨h2, qc, qm⟩ := q2
    have f2 : zF s2 t2 := hF.of (qc.1 36 1 rfl) (qm.1 3 1 rfl)
    have w2 : zWzz s2 t2 := hW.of (qc.1 36 20 rfl) (qm.1 3 20 rfl)
    exact zp2_ifr (fun r => absurd r q) (fun _ => zp2_if (fun _ => zp2_some ⟨h2, f2, w2, rfl⟩) (fun _ => zp2_if (fun _ => zp2_some ⟨h2, f2, w2, rfl⟩) (fun _ => zp2_some ⟨h2, f2, w2, rfl⟩)))
theorem t_dor_r1 (hI : zIoK I) (h : zTT I σ μ) (hF : zF σ μ) (hW : zWzz σ μ) (hp : zPlc σ μ) {op : Int32} (hx : op >>> ((6 : Int32) &&& 31) = 2) : zp2 (fX5_doWithRegister σ op) (fX12_plain_r1 μ op) (zEnq I) := by
  have hy : zr 0 7 ((op >>> ((3 : Int32) &&& 31)) &&& 7) := z_r7 _
  have hz : zr 0 7 (op &&& 7) := z_r7 _
  unfold fX5_doWithRegister fX12_plain_r1 fX12_plain_r1_139 fX5_doWithRegister_33
  rw [hx]
  refine zp2_bvr (fun y ey => zp2_bvr (fun z ez => zp2_ifr (fun q => absurd q (by decide)) (fun _ => zp2_ifr (fun q => absurd q (by decide)) (fun _ => zp2_ifr (fun _ => ?_) (fun q => absurd rfl q)))))
  rw [← ey, ← ez]
  rw [← ey] at hy
  rw [← ez] at hz
  refine zp2_bii (t_one h hp hz) (fun s v t v' q => ?_)
  obtain ⟨q1, q2, q3, rv⟩ := q
  have q1 : s = σ := q1
  have q2 : t = μ := q2
  have q3 : v' = v := q3
  subst q1
  subst q2
  subst q3
  refine zp2_buu (t_do hI h hF hy rv) (fun s2 t2 q2 => ?_)
  obtain ⟨h2, f2, qc, qm⟩ := q2
  have w2 : zWzz s2 t2 := hW.of (qc.1 36 20 rfl) (qm.1 3 20 rfl)
  exact zp2_if (fun _ => zp2_some ⟨h2, f2, w2, rfl⟩) (fun _ => zp2_some ⟨h2, f2, w2, rfl⟩)
end ZQ3
end ZJN14
section ZJN15
/-! THE LAST QUARTER -/
/-- the ports leave the processor alone -/
noncomputable def zPkk (σ s μ t : zSt) : Prop := (∀ j, s.1 36 j = σ.1 36 j) ∧ (∀ j : Nat, j ≤ 28 → t.1 3 j = μ.1 3 j) ∧ s.1 7 5 = σ.1 7 5 ∧ t.1 0 32 = μ.1 0 32
noncomputable def zPorts (I : zSt → zSt → Prop) : Prop := (∀ σ μ p v, zTT I σ μ → zr 0 255 p → zr 0 255 v → zp2 (fX4_write σ p v) (fX12_portTo μ p v) (fun r r' => zTT I r r' ∧ zPkk σ r μ r')) ∧ (∀ σ μ p, zTT I σ μ → zr 0 255 p → zp2 (fX4_read σ p) (fX12_port μ p) (fun r r' => zTT I r.1 r'.1 ∧ r'.2 = r.2 ∧ zr 0 255 r.2 ∧ zPkk σ r.1 μ r'.1))
theorem v_255 : ∀ i, i < 32 → ((255 : Int32).toBitVec.getLsbD i = decide (i < 8)) := by decide
theorem z_lo8 {h l : Int32} (hl : zr 0 255 l) : ((h <<< ((8 : Int32) &&& 31)) ||| l) &&& 255 = l := by
  have e : l = l &&& 255 := (z_m255 hl).symm
  refine Int32.toBitVec_inj.1 (BitVec.eq_of_getLsbD_eq (fun i hi => ?_))
  rw [Int32.toBitVec_and, BitVec.getLsbD_and, Int32.toBitVec_or, BitVec.getLsbD_or, v_255 i hi]
  have e2 : (h <<< ((8 : Int32) &&& 31)).toBitVec = h.toBitVec <<< (((8 : Int32) &&& 31).toBitVec.smod 32).toNat := rfl
  rw [e2, show (((8 : Int32) &&& 31).toBitVec.smod 32).toNat = 8 from rfl, BitVec.getLsbD_shiftLeft]
  by_cases q : i < 8
  · rw [decide_eq_true q, Bool.and_true, Bool.not_true, Bool.and_false, Bool.false_and, Bool.false_or]
  · rw [decide_eq_false q, Bool.and_false]
    conv => rhs; rw [e, Int32.toBitVec_and, BitVec.getLsbD_and, v_255 i hi, decide_eq_false q, Bool.and_false]
theorem z_hi8b {h l : Int32} (hh : zr 0 255 h) (hl : zr 0 255 l) : (((h <<< ((8 : Int32) &&& 31)) ||| l) >>> ((8 : Int32) &&& 31)) &&& 255 = h := by
  have e : h = h &&& 255 := (z_m255 hh).symm
  have e3 : l = l &&& 255 := (z_m255 hl).symm
  refine Int32.toBitVec_inj.1 (BitVec.eq_of_getLsbD_eq (fun i hi => ?_))
  rw [Int32.toBitVec_and, BitVec.getLsbD_and, v_255 i hi]
  by_cases q : i < 8
  · rw [decide_eq_true q, Bool.and_true]
    have z : zbt i (((h <<< ((8 : Int32) &&& 31)) ||| l) >>> ((8 : Int32) &&& 31)) = zbt (8 + i) ((h <<< ((8 : Int32) &&& 31)) ||| l) := zbt_sar (n := 8) rfl (by omega)
    unfold zbt at z
    rw [z, Int32.toBitVec_or, BitVec.getLsbD_or]
    have e2 : (h <<< ((8 : Int32) &&& 31)).toBitVec = h.toBitVec <<< (((8 : Int32) &&& 31).toBitVec.smod 32).toNat := rfl
    rw [e2, show (((8 : Int32) &&& 31).toBitVec.smod 32).toNat = 8 from rfl, BitVec.getLsbD_shiftLeft, e3, Int32.toBitVec_and, BitVec.getLsbD_and, v_255 (8 + i) (by omega), decide_eq_false (show ¬ 8 + i < 8 by omega), Bool.and_false, Bool.or_false, decide_eq_true (show 8 + i < 32 by omega), Bool.true_and, Bool.not_false, Bool.true_and, show 8 + i - 8 = i by omega]
  · rw [decide_eq_false q, Bool.and_false]
    conv => rhs; rw [e, Int32.toBitVec_and, BitVec.getLsbD_and, v_255 i hi, decide_eq_false q, Bool.and_false]
section ZQ4
variable {I : zSt → zSt → Prop} {σ μ : zSt}
theorem zTT.pz (hI : zIoK I) (h : zTT I σ μ) {v : Int32} (hv : zr 0 1 v) : zTT I (zsi σ 36 28 v) (zsi μ 3 27 v) := by
  refine ⟨h.1.keep (zQ.wi zQ.rf rfl) (zQ.wi zQ.rf rfl), ⟨fun j hj hn hw => ?_, ?_, ?_, fun j hj => ?_⟩, h.2.2.1.imp (fun x => x) (fun x => x), hI _ _ _ _ h.2.2.2 (zQ.wi zQ.rf rfl) (zQ.wi zQ.rf rfl)⟩
  · rw [zsi_nj (by omega), zsi_nj (by omega)]; exact h.2.1.1 j hj hn hw
  · rw [zsi_nj (by decide), zsi_nj (by decide)]; exact h.2.1.2.1
  · rw [zsi_ej, zsi_ej]
  · by_cases q : j = 28
    · rw [q, zsi_ej]; exact zrg_1 (by decide) (by decide) hv
    · rw [zsi_nj q]; exact h.2.1.2.2.2 j hj
theorem zPkk.f {s t : zSt} (h : zPkk σ s μ t) (hF : zF σ μ) : zF s t := hF.of (h.1 1) (h.2.1 1 (by decide))
theorem zPkk.w {s t : zSt} (h : zPkk σ s μ t) (hW : zWzz σ μ) : zWzz s t := hW.of (h.1 20) (h.2.1 20 (by decide))
theorem p_goC {x : Int32} : zpc (fX5_goTo σ x) (fun r => r = zsi (zsi σ 36 19 x) 36 20 x) := by
  unfold fX5_goTo
  exact zpc_ck (zpc_bv (fun s es => zpc_ck (zpc_bv (fun s2 e2 => zpc_some (by rw [e2, es]; rfl)))))
theorem zEnq.go (hI : zIoK I) (h : zTT I σ μ) (hF : zF σ μ) {v b : Int32} (hv : zr 0 65535 v) : zEnq I (zsi (zsi σ 36 19 v) 36 20 v, b) (zsi (zsi μ 3 19 v) 3 20 v, b) := ⟨h.upd hI [19, 20] (zQ.wi (zQ.wi zQ.rf rfl) rfl) (zQ.wi (zQ.wi zQ.rf rfl) rfl) rfl (zAl2 ⟨rfl, zrg_w (by decide) (by decide) hv⟩ ⟨rfl, zrg_w (by decide) (by decide) hv⟩), hF, rfl, rfl⟩
theorem t_ret (hI : zIoK I) (h : zTT I σ μ) (hF : zF σ μ) {b : Int32} : zp2 (zbi (fX5_pop σ ) (fun σ7 v8 => zbu (fX5_goTo σ7 v8) (fun σ9 => some (σ9, b)))) (zbi (fX12_pop μ ) (fun σ54 v55 => zck (zin 19 1048) (zbv (zsi σ54 3 ((19 : Int32).toNatClampNeg) v55) (fun σ56 => zck (zin 19 1048) (zck (zin 20 1048) (zbv (zsi σ56 3 ((20 : Int32).toNatClampNeg) (zgi σ56 3 (19 : Int32).toNatClampNeg)) (fun σ57 => some (σ57, b)))))))) (zEnq I) := by
  refine zp2_bii (t_pop hI h) (fun s v t v' q => ?_)
  obtain ⟨h1, e1, rv, qc, qm⟩ := q
  have e1 : v' = v := e1
  subst e1
  refine zp2_bul p_goC (fun s2 e2 => zp2_ckr (zp2_bvr (fun t1 g1 => zp2_ckr (zp2_ckr (zp2_bvr (fun t2 g2 => zp2_some ?_))))))
  have g2 : t2 = zsi (zsi t 3 19 v') 3 20 v' := by rw [g2, g1]; rfl
  rw [e2, g2]
  exact zEnq.go hI h1 (hF.of (qc.1 36 1 rfl) (qm.1 3 1 rfl)) rv
theorem t_call (hI : zIoK I) (h : zTT I σ μ) (hF : zF σ μ) {x : Int32} (hx : zr 0 65535 x) : zp2 (zbu (fX5_push σ (zgi σ 36 (19 : Int32).toNatClampNeg)) (fun σ3 => zbu (fX5_goTo σ3 x) (fun σ4 => some σ4))) (fX12_call μ x) (fun r r' => zTT I r r' ∧ zF r r' ∧ zWzz r r' ∧ zQ [15, 17, 19] [(36, 18, 20)] [] [] σ r ∧ zQ [5, 6] [(3, 18, 20), (3, 29, 32)] [] [] μ r') := by
  unfold fX12_call
  refine zp2_ckr (zp2_buu (t_push hI h (h.eq (j := 19) (by decide)) (h.w (j := 19) (by decide) (by decide))) (fun s t q => ?_))
  obtain ⟨h1, qc, qm⟩ := q
  refine zp2_bul p_goC (fun s2 e2 => zp2_ckr (zp2_bvr (fun t1 g1 => zp2_ckr (zp2_bvr (fun t2 g2 => zp2_some ?_)))))
  have g2 : t2 = zsi (zsi t 3 19 x) 3 20 x := by rw [g2, g1]; rfl
  have z := zEnq.go hI h1 (hF.of (qc.1 36 1 rfl) (qm.1 3 1 rfl)) hx (b := 0)
  rw [e2, g2]
  exact ⟨z.1, z.2.1, z.2.2.1, (qc.mono rfl rfl).tr (zQ.wi (zQ.wi zQ.rf rfl) rfl), (qm.mono rfl rfl).tr (zQ.wi (zQ.wi zQ.rf rfl) rfl)⟩
theorem v_8y : ∀ i : Fin 8, 0 ≤ (8 * Int32.ofNat i.val).toInt ∧ (8 * Int32.ofNat i.val).toInt ≤ 65535 := by decide
theorem z_8y {y : Int32} (h : zr 0 7 y) : zr 0 65535 (8 * y) := by
  obtain ⟨i, e⟩ := z_fin8 h
  subst e
  exact v_8y i
/-! exx -/
theorem e_exC (n : Nat) : fX5_leave_41 (n + 7) σ 2 = zbu (fX5_changeWithOther σ 2) (fun a => zbu (fX5_changeWithOther a 3) (fun b => zbu (fX5_changeWithOther b 4) (fun c => zbu (fX5_changeWithOther c 5) (fun d => zbu (fX5_changeWithOther d 6) (fun e => zbu (fX5_changeWithOther e 7) (fun f => some (f, 4))))))) := rfl
theorem e_exM (n : Nat) : fX12_three_128 (n + 7) μ 1 2 = zbu (fX12_change μ 2 10) (fun a => zbu (fX12_change a 3 11) (fun b => zbu (fX12_change b 4 12) (fun c => zbu (fX12_change c 5 13) (fun d => zbu (fX12_change d 6 14) (fun e => zbu (fX12_change e 7 15) (fun f => some (f, 4))))))) := rfl
theorem t_exx (hI : zIoK I) (h : zTT I σ μ) (hF : zF σ μ) (hW : zWzz σ μ) : zp2 (fX5_leave_41 zfuel σ 2) (fX12_three_128 zfuel μ 1 2) (zEnq I) := by
  have eC : fX5_leave_41 zfuel σ 2 = _ := e_exC (σ := σ) 1999993
  have eM : fX12_three_128 zfuel μ 1 2 = _ := e_exM (μ := μ) 1999993
  rw [eC, eM]
  refine zp2_buu (t_cw2 hI h) (fun s t q => ?_)
  obtain ⟨h1, qc, qm⟩ := q
  have hF := hF.of (qc.1 36 1 rfl) (qm.1 3 1 rfl)
  have hW := hW.of (qc.1 36 20 rfl) (qm.1 3 20 rfl)
  have h := h1
  clear h1 qc qm
  refine zp2_buu (t_cw3 hI h) (fun s t q => ?_)
  obtain ⟨h1, qc, qm⟩ := q
  have hF := hF.of (qc.1 36 1 rfl) (qm.1 3 1 rfl)
  have hW := hW.of (qc.1 36 20 rfl) (qm.1 3 20 rfl)
  have h := h1
  clear h1 qc qm
  refine zp2_buu (t_cw4 hI h) (fun s t q => ?_)
  obtain ⟨h1, qc, qm⟩ := q
  have hF := hF.of (qc.1 36 1 rfl) (qm.1 3 1 rfl)
  have hW := hW.of (qc.1 36 20 rfl) (qm.1 3 20 rfl)
  have h := h1
  clear h1 qc qm
  refine zp2_buu (t_cw5 hI h) (fun s t q => ?_)
  obtain ⟨h1, qc, qm⟩ := q
  have hF := hF.of (qc.1 36 1 rfl) (qm.1 3 1 rfl)
  have hW := hW.of (qc.1 36 20 rfl) (qm.1 3 20 rfl)
  have h := h1
  clear h1 qc qm
  refine zp2_buu (t_cw6 hI h) (fun s t q => ?_)
  obtain ⟨h1, qc, qm⟩ := q
  have hF := hF.of (qc.1 36 1 rfl) (qm.1 3 1 rfl)
  have hW := hW.of (qc.1 36 20 rfl) (qm.1 3 20 rfl)
  have h := h1
  clear h1 qc qm
  refine zp2_buu (t_cw7 hI h) (fun s t q => ?_)
  obtain ⟨h1, qc, qm⟩ := q
  have hF := hF.of (qc.1 36 1 rfl) (qm.1 3 1 rfl)
  have hW := hW.of (qc.1 36 20 rfl) (qm.1 3 20 rfl)
  have h := h1
  clear h1 qc qm
  exact zp2_some ⟨h, hF, hW, rfl⟩
theorem t_leave (hI : zIoK I) (h : zTT I σ μ) (hF : zF σ μ) (hW : zWzz σ μ) {y p : Int32} (hp : zr 0 3 p) : zp2 (fX5_leave σ p) (fX12_three_88 μ y 1 p) (zEnq I) := by
  unfold fX5_leave fX12_three_88
  refine zp2_ifr (fun _ => ?_) (fun q => absurd rfl q)
  rcases zr_hd (c := 0) hp rfl with e | hp
  · subst e
    exact zp2_ifl (fun _ => zp2_ifr (fun _ => t_ret hI h hF) (fun q => absurd rfl q)) (fun q => absurd rfl q)
  rcases zr_hd (c := 1) hp rfl with e | hp
  · subst e
    exact zp2_ifl (fun q => absurd q (by decide)) (fun _ => zp2_ifl (fun _ => zp2_ifr (fun q => absurd q (by decide)) (fun _ => t_exx hI h hF hW)) (fun q => absurd rfl q))
  rcases zr_hd (c := 2) hp rfl with e | hp
  · subst e
    refine zp2_ifl (fun q => absurd q (by decide)) (fun _ => zp2_ifl (fun q => absurd q (by decide)) (fun _ => zp2_ifl (fun _ => zp2_ifr (fun q => absurd q (by decide)) (fun _ => ?_)) (fun q => absurd rfl q)))
    have eM : fX12_three_128 zfuel μ 2 2 = zbi (fX12_hl μ ) (fun σ4 v5 => zck (zin 19 1048) (zbv (zsi σ4 3 ((19 : Int32).toNatClampNeg) v5) (fun σ6 => some (σ6, 4)))) := rfl
    rw [eM]
    refine zp2_sm (t_hl h) (fun v rv => zp2_ckl (zp2_bvl (fun s f => zp2_ckr (zp2_bvr (fun t g => zp2_some ?_)))))
    subst f
    subst g
    exact ⟨h.upd hI [19] (zQ.wi zQ.rf rfl) (zQ.wi zQ.rf rfl) rfl (zAl1 ⟨rfl, zrg_w (by decide) (by decide) rv⟩), hF, hW, rfl⟩
  rcases zr_hd (c := 3) hp rfl with e | hp
  · subst e
    refine zp2_ifl (fun q => absurd q (by decide)) (fun _ => zp2_ifl (fun q => absurd q (by decide)) (fun _ => zp2_ifl (fun q => absurd q (by decide)) (fun _ => zp2_ifr (fun q => absurd q (by decide)) (fun _ => ?_))))
    have eM : fX12_three_128 zfuel μ 3 2 = zbi (fX12_hl μ ) (fun σ4 v5 => zck (zin 18 1048) (zbv (zsi σ4 3 ((18 : Int32).toNatClampNeg) v5) (fun σ6 => some (σ6, 6)))) := rfl
    rw [eM]
    refine zp2_sm (t_hl h) (fun v rv => zp2_ckl (zp2_bvl (fun s f => zp2_ckr (zp2_bvr (fun t g => zp2_some ?_)))))
    subst f
    subst g
    exact ⟨h.upd hI [18] (zQ.wi zQ.rf rfl) (zQ.wi zQ.rf rfl) rfl (zAl1 ⟨rfl, zrg_w (by decide) (by decide) rv⟩), hF, hW, rfl⟩
  exact zr_no9 hp (by decide)
theorem t_popp (hI : zIoK I) (h : zTT I σ μ) (hF : zF σ μ) (hW : zWzz σ μ) {p : Int32} : zp2 (fX5_popPair σ p) (zbi (fX12_pop μ ) (fun σ48 v49 => if p = 3 then zbu (fX12_pairTo σ48 0 v49) (fun σ51 => fX12_three_85 σ51) else zbu (fX12_rpTo σ48 p v49) (fun σ50 => fX12_three_85 σ50))) (zEnq I) := by
  unfold fX5_popPair fX5_popPair_25 fX12_three_85
  refine zp2_bii (t_pop hI h) (fun s v t v' q => ?_)
  obtain ⟨h1, e1, rv, qc, qm⟩ := q
  refine zp2_if (fun _ => zp2_buu (t_pairTo0 hI h1 e1) (fun s2 t2 q => zp2_some ?_)) (fun _ => zp2_buu (t_rpTo hI h1 e1) (fun s2 t2 q => zp2_some ?_))
  · obtain ⟨h2, f2, qc2, qm2⟩ := q
    exact ⟨h2, f2, hW.of ((qc2.1 36 20 rfl).trans (qc.1 36 20 rfl)) ((qm2.1 3 20 rfl).trans (qm.1 3 20 rfl)), rfl⟩
  · obtain ⟨h2, qc2, qm2⟩ := q
    exact ⟨h2, hF.of ((qc2.1 36 1 rfl).trans (qc.1 36 1 rfl)) ((qm2.1 3 1 rfl).trans (qm.1 3 1 rfl)), hW.of ((qc2.1 36 20 rfl).trans (qc.1 36 20 rfl)) ((qm2.1 3 20 rfl).trans (qm.1 3 20 rfl)), rfl⟩
/-- a word is fetched into WZ -/
theorem t_wzw (hI : zIoK I) (h : zTT I σ μ) (hF : zF σ μ) {α β : Type} {Q : α → β → Prop} {f : Int32 → zSt → Option α} {g : Int32 → zSt → Option β} (k : ∀ v s t, zr 0 65535 v → zTT I s t → zF s t → s.1 36 20 = v → t.1 3 20 = v → s.1 36 1 = σ.1 36 1 → zp2 (f v s) (g v t) Q) : zp2 (zbi (fX5_fetchWord σ ) (fun σ1 v2 => zck (zin 20 29) (zbv (zsi σ1 36 ((20 : Int32).toNatClampNeg) v2) (f v2)))) (zbi (fX12_nextWord μ ) (fun σ1 v2 => zck (zin 20 1048) (zbv (zsi σ1 3 ((20 : Int32).toNatClampNeg) v2) (g v2)))) Q := by
  refine zp2_bii (t_word hI h) (fun s v t v' q => ?_)
  obtain ⟨h1, e1, rv, qc, qm⟩ := q
  have e1 : v' = v := e1
  subst e1
  refine zp2_ckl (zp2_bvl (fun s2 f2 => zp2_ckr (zp2_bvr (fun t2 g2 => ?_))))
  have z := zEnq.wz hI h1 (hF.of (qc.1 36 1 rfl) (qm.1 3 1 rfl)) (v := v') (w := v') rfl rv (b := 0)
  subst f2
  subst g2
  exact k v' _ _ rv z.1 z.2.1 rfl rfl (qc.1 36 1 rfl)
theorem t_callnn (hI : zIoK I) {v : Int32} (h : zTT I σ μ) (hF : zF σ μ) (rv : zr 0 65535 v) (w1 : σ.1 36 20 = v) (w2 : μ.1 3 20 = v) : zp2 (zck (zin 19 29) (zbu (fX5_push σ (zgi σ 36 (19 : Int32).toNatClampNeg)) (fun σ4 => zck (zin 19 29) (zbv (zsi σ4 36 ((19 : Int32).toNatClampNeg) v) (fun σ5 => some (σ5, (17 : Int32))))))) (zck (zin 19 1048) (zbu (fX12_push μ (zgi μ 3 (19 : Int32).toNatClampNeg)) (fun σ12 => zck (zin 20 1048) (zck (zin 19 1048) (zbv (zsi σ12 3 ((19 : Int32).toNatClampNeg) (zgi σ12 3 (20 : Int32).toNatClampNeg)) (fun σ13 => some (σ13, (17 : Int32)))))))) (zEnq I) := by
  refine zp2_ckl (zp2_ckr (zp2_buu (t_push hI h (h.eq (j := 19) (by decide)) (h.w (j := 19) (by decide) (by decide))) (fun s t q => ?_)))
  obtain ⟨h1, qc, qm⟩ := q
  refine zp2_ckl (zp2_bvl (fun s2 f2 => zp2_ckr (zp2_ckr (zp2_bvr (fun t2 g2 => zp2_some ?_)))))
  have e : zgi t 3 (20 : Int32).toNatClampNeg = v := (qm.1 3 20 rfl).trans w2
  rw [e] at g2
  subst f2
  subst g2
  refine ⟨h1.upd hI [19] (zQ.wi zQ.rf rfl) (zQ.wi zQ.rf rfl) rfl (zAl1 ⟨rfl, zrg_w (by decide) (by decide) rv⟩), hF.of (qc.1 36 1 rfl) (qm.1 3 1 rfl), ?_, rfl⟩
  show t.1 3 20 = s.1 36 20
  rw [qm.1 3 20 rfl, qc.1 36 20 rfl, w1, w2]
theorem t_jpcc (hI : zIoK I) (h : zTT I σ μ) (hF : zF σ μ) {y : Int32} (hy : zr 0 7 y) : zp2 (zbi (fX5_fetchWord σ ) (fun σ14 v15 => zck (zin 20 29) (zbv (zsi σ14 36 ((20 : Int32).toNatClampNeg) v15) (fun σ16 => zbi (fX5_holds σ16 y) (fun σ17 v18 => if v18 = 0 then fX5_lastQuarter_130 σ17 else zck (zin 20 29) (zck (zin 19 29) (zbv (zsi σ17 36 ((19 : Int32).toNatClampNeg) (zgi σ17 36 (20 : Int32).toNatClampNeg)) (fun σ19 => fX5_lastQuarter_130 σ19)))))))) (fX12_three_88 μ y 2 (y >>> ((1 : Int32) &&& 31))) (zEnq I) := by
  unfold fX12_three_88 fX5_lastQuarter_130 fX12_three_239
  refine zp2_ifr (fun q => absurd q (by decide)) (fun _ => zp2_ifr (fun _ => ?_) (fun q => absurd rfl q))
  refine t_wzw hI h hF (fun v s t rv h1 f1 w1 w2 _ => ?_)
  have wz : zWzz s t := w2.trans w1.symm
  refine zp2_sm (t_cc f1 (h1.b (j := 1) (by decide)) hy) (fun b rb => zp2_if (fun _ => zp2_some ⟨h1, f1, wz, rfl⟩) (fun _ => ?_))
  refine zp2_ckl (zp2_ckl (zp2_bvl (fun s2 f2 => zp2_ckr (zp2_ckr (zp2_bvr (fun t2 g2 => zp2_some ?_))))))
  rw [show zgi s 36 (20 : Int32).toNatClampNeg = v from w1] at f2
  rw [show zgi t 3 (20 : Int32).toNatClampNeg = v from w2] at g2
  subst f2
  subst g2
  exact ⟨h1.upd hI [19] (zQ.wi zQ.rf rfl) (zQ.wi zQ.rf rfl) rfl (zAl1 ⟨rfl, zrg_w (by decide) (by decide) rv⟩), f1, wz, rfl⟩
theorem p_hold (hf : zr 0 255 (σ.1 36 1)) {y : Int32} (hy : zr 0 7 y) : zpc (fX5_holds σ y) (fun r => r.1 = σ ∧ (r.2 = 0 ∨ r.2 = 1)) := by
  unfold fX5_holds fX5_holds_24 fX5_holds_36 fX5_holds_44
  have k : ∀ v : Int32, (v = 0 ∨ v = 1) → zpc (zck (zbo v) (some (σ, v))) (fun r => r.1 = σ ∧ (r.2 = 0 ∨ r.2 = 1)) := fun v hv => zpc_ck (zpc_some ⟨rfl, hv⟩)
  exact zpc_ck (zpc_ck (zpc_if (fun _ => zpc_if (fun _ => zpc_if (fun _ => k 1 (Or.inr rfl)) (fun _ => k 0 (Or.inl rfl))) (fun _ => zpc_if (fun _ => k 1 (Or.inr rfl)) (fun _ => k 0 (Or.inl rfl)))) (fun _ => zpc_if (fun _ => zpc_if (fun _ => k 1 (Or.inr rfl)) (fun _ => k 0 (Or.inl rfl))) (fun _ => zpc_if (fun _ => k 1 (Or.inr rfl)) (fun _ => k 0 (Or.inl rfl))))))
theorem t_callcc (hI : zIoK I) (h : zTT I σ μ) (hF : zF σ μ) {y : Int32} (hy : zr 0 7 y) : zp2 (zbi (fX5_holds σ y) (fun σ20 v21 => zbi (fX5_callIf σ20 v21) (fun σ22 v23 => some (σ22, v23)))) (zbi (fX12_nextWord μ ) (fun σ22 v23 => zck (zin 20 1048) (zbv (zsi σ22 3 ((20 : Int32).toNatClampNeg) v23) (fun σ24 => zbi (fX12_cc σ24 y) (fun σ25 v26 => if v26 = 0 then some (σ25, (10 : Int32)) else zck (zin 19 1048) (zbu (fX12_push σ25 (zgi σ25 3 (19 : Int32).toNatClampNeg)) (fun σ27 => zck (zin 20 1048) (zck (zin 19 1048) (zbv (zsi σ27 3 ((19 : Int32).toNatClampNeg) (zgi σ27 3 (20 : Int32).toNatClampNeg)) (fun σ28 => some (σ28, (17 : Int32)))))))))))) (zEnq I) := by
  refine zp2_bil (P := fun r => fX5_holds σ y = some r) (fun r e => e) (fun s0 c eC => ?_)
  have es : s0 = σ := by
    have d := t_cc hF (h.b (j := 1) (by decide)) hy
    cases m : fX12_cc μ y with
    | none => exact (p_hold (h.b (j := 1) (by decide)) hy _ eC).1
    | some r => exact (d _ _ eC m).1
  subst es
  unfold fX5_callIf
  refine zp2_bilp (P := zEnq I) ?_ (fun s v b q => zp2_some q)
  refine t_wzw hI h hF (fun v s t rv h1 f1 w1 w2 ef => ?_)
  have wz : zWzz s t := w2.trans w1.symm
  refine zp2_bir (P := fun r => fX12_cc t y = some r) (fun r e => e) (fun t0 c' eM => ?_)
  have fx : zF s0 t := by
    unfold zF
    rw [← ef]
    exact f1
  obtain ⟨_, k2, k3, _⟩ := t_cc fx (h.b (j := 1) (by decide)) hy _ _ eC eM
  have k2 : t0 = t := k2
  have k3 : c' = c := k3
  subst k2
  subst k3
  exact zp2_if (fun _ => zp2_some ⟨h1, f1, wz, rfl⟩) (fun _ => t_callnn hI h1 f1 rv w1 w2)
/-- DI and EI -/
theorem t_ei (hI : zIoK I) (h : zTT I σ μ) (hF : zF σ μ) (hW : zWzz σ μ) (h28 : σ.1 36 28 = 0) {y : Int32} (hy : zr 6 7 y) : zp2 (fX5_exchange_211 σ y) (zck (zin 23 1048) (zbv (zsi μ 3 ((23 : Int32).toNatClampNeg) (y - 6)) (fun σ34 => zck (zin 24 1048) (zbv (zsi σ34 3 ((24 : Int32).toNatClampNeg) (y - 6)) (fun σ35 => if y = 7 then zck (zin 27 1048) (zbv (zsi σ35 3 ((27 : Int32).toNatClampNeg) 1) (fun σ36 => fX12_three_502 σ36)) else fX12_three_502 σ35))))) (zEnq I) := by
  unfold fX5_exchange_211 fX12_three_502
  refine zp2_ckl (zp2_bvl (fun s1 f1 => zp2_ckl (zp2_bvl (fun s2 f2 => zp2_ckl (zp2_bvl (fun s3 f3 => zp2_ckr (zp2_bvr (fun t1 g1 => zp2_ckr (zp2_bvr (fun t2 g2 => ?_))))))))))
  have z : ∀ v : Int32, zr 0 1 v → zTT I (zsi (zsi σ 36 23 v) 36 24 v) (zsi (zsi μ 3 23 v) 3 24 v) := fun v hv => h.upd hI [23, 24] (zQ.wi (zQ.wi zQ.rf rfl) rfl) (zQ.wi (zQ.wi zQ.rf rfl) rfl) rfl (zAl2 ⟨rfl, zrg_1 (by decide) (by decide) hv⟩ ⟨rfl, zrg_1 (by decide) (by decide) hv⟩)
  rcases zr_hd (c := 6) hy rfl with e | hy
  · subst e
    refine zp2_ifr (fun q => absurd q (by decide)) (fun _ => zp2_some ?_)
    have e3 : s3 = s2 := by
      rw [f3]
      have e : s2.1 36 28 = 0 := by rw [f2, f1]; exact h28
      have e4 : zsi s2 36 28 (s2.1 36 28) = s2 := zsi_own
      rw [e] at e4
      exact e4
    subst e3
    rw [f2, f1, g2, g1]
    exact ⟨z 0 (zr_c (by decide)), hF, hW, rfl⟩
  rcases zr_hd (c := 7) hy rfl with e | hy
  · subst e
    refine zp2_ifr (fun _ => zp2_ckr (zp2_bvr (fun t3 g3 => zp2_some ?_))) (fun q => absurd rfl q)
    rw [f3, f2, f1, g3, g2, g1]
    exact ⟨(z 1 (zr_c (by decide))).pz hI (zr_c (by decide)), hF, hW, rfl⟩
  exact zr_no9 hy (by decide)
theorem t_exch (hI : zIoK I) (hPo : zPorts I) (h : zTT I σ μ) (hF : zF σ μ) (hW : zWzz σ μ) (h28 : σ.1 36 28 = 0) {y : Int32} (hy : zr 0 7 y) (h1 : ¬ y = 1) : zp2 (fX5_exchange σ y) (fX12_three_88 μ y 3 (y >>> ((1 : Int32) &&& 31))) (zEnq I) := by
  unfold fX5_exchange fX12_three_88
  refine zp2_ifr (fun q => absurd q (by decide)) (fun _ => zp2_ifr (fun q => absurd q (by decide)) (fun _ => ?_))
  rcases zr_hd (c := 0) hy rfl with e | hy
  · subst e
    refine zp2_ifl (fun _ => zp2_ifr (fun _ => zp2_bii (t_word hI h) (fun s v t v' q => ?_)) (fun q => absurd rfl q)) (fun q => absurd rfl q)
    obtain ⟨h1, e1, rv, qc, qm⟩ := q
    have e1 : v' = v := e1
    subst e1
    refine zp2_bul p_goC (fun s2 e2 => zp2_ckr (zp2_bvr (fun t1 g1 => zp2_ckr (zp2_ckr (zp2_bvr (fun t2 g2 => zp2_some ?_))))))
    have g2 : t2 = zsi (zsi t 3 19 v') 3 20 v' := by rw [g2, g1, zsi_comm (by decide)]; rfl
    rw [e2, g2]
    exact zEnq.go hI h1 (hF.of (qc.1 36 1 rfl) (qm.1 3 1 rfl)) rv
  rcases zr_hd (c := 1) hy rfl with e | hy
  · exact absurd e h1
  rcases zr_hd (c := 2) hy rfl with e | hy
  · subst e
    refine zp2_ifl (fun q => absurd q (by decide)) (fun _ => zp2_ifl (fun q => absurd q (by decide)) (fun _ => zp2_ifl (fun _ => zp2_ifr (fun q => absurd q (by decide)) (fun _ => zp2_ifr (fun q => absurd q (by decide)) (fun _ => zp2_ifr (fun _ => ?_) (fun q => absurd rfl q)))) (fun q => absurd rfl q)))
    refine zp2_bii (t_next hI h) (fun s v t v' q => ?_)
    obtain ⟨h1, e1, rv, qc, qm⟩ := q
    have e1 : v' = v := e1
    subst e1
    refine zp2_ckl (zp2_ckr ?_)
    rw [show zgi t 3 (0 : Int32).toNatClampNeg = zgi s 36 (0 : Int32).toNatClampNeg from h1.eq (j := 0) (by decide)]
    refine zp2_buu (hPo.1 _ _ _ _ h1 rv (h1.b (j := 0) (by decide))) (fun s2 t2 q => ?_)
    obtain ⟨h2, k2⟩ := q
    refine zp2_ckl (zp2_ckl (zp2_bvl (fun s3 f3 => zp2_ckr (zp2_ckr (zp2_bvr (fun t3 g3 => zp2_some ?_))))))
    rw [f3, g3]
    exact zEnq.wz hI h2 (k2.f (hF.of (qc.1 36 1 rfl) (qm.1 3 1 rfl))) (by rw [show zgi t2 3 (0 : Int32).toNatClampNeg = zgi s2 36 (0 : Int32).toNatClampNeg from h2.eq (j := 0) (by decide)]) (z_awz (h2.b (j := 0) (by decide)))
  rcases zr_hd (c := 3) hy rfl with e | hy
  · subst e
    refine zp2_ifl (fun q => absurd q (by decide)) (fun _ => zp2_ifl (fun q => absurd q (by decide)) (fun _ => zp2_ifl (fun q => absurd q (by decide)) (fun _ => zp2_ifl (fun _ => zp2_ifr (fun q => absurd q (by decide)) (fun _ => zp2_ifr (fun q => absurd q (by decide)) (fun _ => zp2_ifr (fun q => absurd q (by decide)) (fun _ => zp2_ifr (fun _ => ?_) (fun q => absurd rfl q))))) (fun q => absurd rfl q))))
    refine zp2_bii (t_next hI h) (fun s v t v' q => ?_)
    obtain ⟨h1, e1, rv, qc, qm⟩ := q
    have e1 : v' = v := e1
    subst e1
    refine zp2_ckl (zp2_ckr ?_)
    rw [show zgi t 3 (0 : Int32).toNatClampNeg = zgi s 36 (0 : Int32).toNatClampNeg from h1.eq (j := 0) (by decide)]
    refine zp2_ckl (zp2_bvl (fun s2 f2 => zp2_ckr (zp2_bvr (fun t2 g2 => ?_))))
    have z := zEnq.wz hI h1 (hF.of (qc.1 36 1 rfl) (qm.1 3 1 rfl)) (v := ((((zgi s 36 (0 : Int32).toNatClampNeg) <<< ((8 : Int32) &&& 31)) ||| v') + 1) &&& 65535) rfl (z_r16 _) (b := 0)
    have f2 : s2 = zsi s 36 20 (((((zgi s 36 (0 : Int32).toNatClampNeg) <<< ((8 : Int32) &&& 31)) ||| v') + 1) &&& 65535) := f2
    have g2 : t2 = zsi t 3 20 (((((zgi s 36 (0 : Int32).toNatClampNeg) <<< ((8 : Int32) &&& 31)) ||| v') + 1) &&& 65535) := g2
    have z1 : zTT I s2 t2 := by rw [f2, g2]; exact z.1
    have z2 : zF s2 t2 := by rw [f2, g2]; exact z.2.1
    have z3 : zWzz s2 t2 := by rw [f2, g2]; exact z.2.2.1
    refine zp2_bii (hPo.2 _ _ _ z1 rv) (fun s3 w t3 w' q => ?_)
    obtain ⟨h3, e3, rw3, k3⟩ := q
    have e3 : w' = w := e3
    subst e3
    refine zp2_ckl (zp2_bvl (fun s4 f4 => zp2_ckr (zp2_bvr (fun t4 g4 => zp2_some ?_))))
    subst f4
    subst g4
    exact ⟨h3.upd hI [0] (zQ.wi zQ.rf rfl) (zQ.wi zQ.rf rfl) rfl (zAl1 ⟨rfl, zrg_b (Or.inl (by decide)) rw3⟩), k3.f z2, k3.w z3, rfl⟩
  rcases zr_hd (c := 4) hy rfl with e | hy
  · subst e
    refine zp2_ifl (fun q => absurd q (by decide)) (fun _ => zp2_ifl (fun q => absurd q (by decide)) (fun _ => zp2_ifl (fun q => absurd q (by decide)) (fun _ => zp2_ifl (fun q => absurd q (by decide)) (fun _ => zp2_ifl (fun _ => zp2_ifr (fun q => absurd q (by decide)) (fun _ => zp2_ifr (fun q => absurd q (by decide)) (fun _ => zp2_ifr (fun q => absurd q (by decide)) (fun _ => zp2_ifr (fun q => absurd q (by decide)) (fun _ => zp2_ifr (fun _ => ?_) (fun q => absurd rfl q)))))) (fun q => absurd rfl q)))))
    have e18 : zgi μ 3 (18 : Int32).toNatClampNeg = zgi σ 36 (18 : Int32).toNatClampNeg := h.eq (j := 18) (by decide)
    refine zp2_ckl (zp2_ckr ?_)
    rw [e18]
    refine zp2_sm (t_rword h.1 rfl) (fun v rv => zp2_ckl (zp2_ckr (zp2_sm (t_hl h) (fun w rw1 => ?_))))
    refine zp2_buu (t_wword h.1 e18 rfl rw1) (fun s3 t3 q => ?_)
    obtain ⟨hm, qc3, qm3⟩ := q
    have h3 := h.mem hI hm qc3 qm3
    refine zp2_buu (t_hlTo hI h3 rfl) (fun s4 t4 q => ?_)
    obtain ⟨h4, qc4, qm4⟩ := q
    refine zp2_ckl (zp2_bvl (fun s5 f5 => zp2_ckr (zp2_bvr (fun t5 g5 => zp2_some ?_))))
    rw [f5, g5]
    exact zEnq.wz hI h4 (hF.of ((qc4.1 36 1 rfl).trans (qc3.1 36 1 rfl)) ((qm4.1 3 1 rfl).trans (qm3.1 3 1 rfl))) rfl rv
  rcases zr_hd (c := 5) hy rfl with e | hy
  · subst e
    refine zp2_ifl (fun q => absurd q (by decide)) (fun _ => zp2_ifl (fun q => absurd q (by decide)) (fun _ => zp2_ifl (fun q => absurd q (by decide)) (fun _ => zp2_ifl (fun q => absurd q (by decide)) (fun _ => zp2_ifl (fun q => absurd q (by decide)) (fun _ => zp2_ifl (fun _ => zp2_ifr (fun q => absurd q (by decide)) (fun _ => zp2_ifr (fun q => absurd q (by decide)) (fun _ => zp2_ifr (fun q => absurd q (by decide)) (fun _ => zp2_ifr (fun q => absurd q (by decide)) (fun _ => zp2_ifr (fun q => absurd q (by decide)) (fun _ => zp2_ifr (fun _ => ?_) (fun q => absurd rfl q))))))) (fun q => absurd rfl q))))))
    have b4 : zr 0 255 (σ.1 36 4) := h.b (by decide)
    have b5 : zr 0 255 (σ.1 36 5) := h.b (by decide)
    have b6 : zr 0 255 (σ.1 36 6) := h.b (by decide)
    have b7 : zr 0 255 (σ.1 36 7) := h.b (by decide)
    have cC : zpc (zbi (fX5_pairAt σ 4) (fun σ24 v25 => zbi (fX5_pairAt σ24 6) (fun σ26 v27 => zbu (fX5_putPairAt σ26 4 v27) (fun σ28 => zbu (fX5_putPairAt σ28 6 v25) (fun σ29 => some (σ29, (4 : Int32))))))) (fun r => r = (zsi (zsi (zsi (zsi σ 36 4 (σ.1 36 6)) 36 5 (σ.1 36 7)) 36 6 (σ.1 36 4)) 36 7 (σ.1 36 5), 4)) := by
      unfold fX5_pairAt fX5_putPairAt
      refine zpc_bi (P := fun r => r = (σ, (σ.1 36 4 <<< ((8 : Int32) &&& 31)) ||| σ.1 36 5)) (zpc_ck (zpc_ck (zpc_some rfl))) (fun s v e => ?_)
      cases e
      refine zpc_bi (P := fun r => r = (σ, (σ.1 36 6 <<< ((8 : Int32) &&& 31)) ||| σ.1 36 7)) (zpc_ck (zpc_ck (zpc_some rfl))) (fun s v e => ?_)
      cases e
      refine zpc_bu (P := fun r => r = zsi (zsi σ 36 4 (σ.1 36 6)) 36 5 (σ.1 36 7)) (zpc_ck (zpc_bv (fun s es => zpc_ck (zpc_bv (fun s2 e2 => zpc_some ?_))))) (fun s3 e3 => zpc_bu (P := fun r => r = zsi (zsi s3 36 6 (σ.1 36 4)) 36 7 (σ.1 36 5)) (zpc_ck (zpc_bv (fun s es => zpc_ck (zpc_bv (fun s2 e2 => zpc_some ?_))))) (fun s4 e4 => zpc_some ?_))
      · rw [e2, es, z_hi8b b6 b7, z_lo8 b7]; rfl
      · rw [e2, es, z_hi8b b4 b5, z_lo8 b5]; rfl
      · rw [e4, e3]
    have cM : zpc (zbu (fX12_change μ 4 6) (fun σ32 => zbu (fX12_change σ32 5 7) (fun σ33 => some (σ33, (4 : Int32))))) (fun r => r = (zsi (zsi (zsi (zsi μ 3 4 (μ.1 3 6)) 3 6 (μ.1 3 4)) 3 5 (μ.1 3 7)) 3 7 (μ.1 3 5), 4)) := by
      unfold fX12_change
      refine zpc_bu (P := fun r => r = zsi (zsi μ 3 4 (μ.1 3 6)) 3 6 (μ.1 3 4)) (zpc_ck (zpc_bv (fun v ev => zpc_ck (zpc_ck (zpc_bv (fun s es => zpc_ck (zpc_bv (fun s2 e2 => zpc_some ?_)))))))) (fun s3 e3 => zpc_bu (P := fun r => r = zsi (zsi s3 3 5 (s3.1 3 7)) 3 7 (s3.1 3 5)) (zpc_ck (zpc_bv (fun v ev => zpc_ck (zpc_ck (zpc_bv (fun s es => zpc_ck (zpc_bv (fun s2 e2 => zpc_some ?_)))))))) (fun s4 e4 => zpc_some ?_))
      · rw [e2, es, ev]; rfl
      · rw [e2, es, ev]; rfl
      · rw [e4, e3]; rfl
    intro r r' er er'
    rw [cC r er, cM r' er']
    refine ⟨h.upd hI [4, 5, 6, 7] (zQ.wi (zQ.wi (zQ.wi (zQ.wi zQ.rf rfl) rfl) rfl) rfl) (zQ.wi (zQ.wi (zQ.wi (zQ.wi zQ.rf rfl) rfl) rfl) rfl) rfl (zAl4 ⟨h.eq (j := 6) (by decide), zrg_b (Or.inl (by decide)) b6⟩ ⟨h.eq (j := 7) (by decide), zrg_b (Or.inl (by decide)) b7⟩ ⟨h.eq (j := 4) (by decide), zrg_b (Or.inl (by decide)) b4⟩ ⟨h.eq (j := 5) (by decide), zrg_b (Or.inl (by decide)) b5⟩), hF, hW, rfl⟩
  have n : ∀ k : Int32, k.toInt < 6 → ¬ y = k := fun k hk e => by rw [e] at hy; have := hy.1; omega
  refine zp2_ifl (fun q => absurd q (n 0 (by decide))) (fun _ => zp2_ifl (fun q => absurd q (n 1 (by decide))) (fun _ => zp2_ifl (fun q => absurd q (n 2 (by decide))) (fun _ => zp2_ifl (fun q => absurd q (n 3 (by decide))) (fun _ => zp2_ifl (fun q => absurd q (n 4 (by decide))) (fun _ => zp2_ifl (fun q => absurd q (n 5 (by decide))) (fun _ => ?_))))))
  refine zp2_ifr (fun q => absurd q (n 0 (by decide))) (fun _ => zp2_ifr (fun q => absurd q (n 1 (by decide))) (fun _ => zp2_ifr (fun q => absurd q (n 2 (by decide))) (fun _ => zp2_ifr (fun q => absurd q (n 3 (by decide))) (fun _ => zp2_ifr (fun q => absurd q (n 4 (by decide))) (fun _ => zp2_ifr (fun q => absurd q (n 5 (by decide))) (fun _ => ?_))))))
  exact t_ei hI h hF hW h28 hy
end ZQ4
end ZJN15
section ZJN16
/-! THE LAST QUARTER, WHOLE -/
section ZQ5
variable {I : zSt → zSt → Prop} {σ μ : zSt}
theorem t_callk (hI : zIoK I) (h : zTT I σ μ) (hF : zF σ μ) {x : Int32} (hx : zr 0 65535 x) {α β : Type} {Q : α → β → Prop} {f : zSt → Option α} {g : zSt → Option β} (k : ∀ s t, zTT I s t → zF s t → zWzz s t → zQ [15, 17, 19] [(36, 18, 20)] [] [] σ s → zQ [5, 6] [(3, 18, 20), (3, 29, 32)] [] [] μ t → zp2 (f s) (g t) Q) : zp2 (zbu (fX5_push σ (zgi σ 36 (19 : Int32).toNatClampNeg)) (fun σ3 => zbu (fX5_goTo σ3 x) f)) (zbu (fX12_call μ x) g) Q := by
  have e : zbu (fX5_push σ (zgi σ 36 (19 : Int32).toNatClampNeg)) (fun σ3 => zbu (fX5_goTo σ3 x) f) = zbu (zbu (fX5_push σ (zgi σ 36 (19 : Int32).toNatClampNeg)) (fun σ3 => zbu (fX5_goTo σ3 x) (fun σ4 => some σ4))) f := by
    cases fX5_push σ (zgi σ 36 (19 : Int32).toNatClampNeg) with
    | none => rfl
    | some s =>
      show zbu (fX5_goTo s x) f = zbu (zbu (fX5_goTo s x) (fun σ4 => some σ4)) f
      cases fX5_goTo s x with
      | none => rfl
      | some t => rfl
  rw [e]
  exact zp2_buu (t_call hI h hF hx) (fun s t q => k s t q.1 q.2.1 q.2.2.1 q.2.2.2.1 q.2.2.2.2)
theorem t_l0 (hI : zIoK I) (h : zTT I σ μ) (hF : zF σ μ) (hW : zWzz σ μ) {y : Int32} (hy : zr 0 7 y) : zp2 (zbi (fX5_holds σ y) (fun σ5 v6 => if v6 = 0 then some (σ5, (5 : Int32)) else zbi (fX5_pop σ5 ) (fun σ7 v8 => zbu (fX5_goTo σ7 v8) (fun σ9 => some (σ9, 11))))) (fX12_three μ y 0) (zEnq I) := by
  unfold fX12_three
  refine zp2_bvr (fun p _ => zp2_ifr (fun _ => zp2_sm (t_cc hF (h.b (j := 1) (by decide)) hy) (fun b rb => zp2_if (fun _ => zp2_some ⟨h, hF, hW, rfl⟩) (fun _ => t_ret hI h hF))) (fun q => absurd rfl q))
theorem t_l1 (hI : zIoK I) (h : zTT I σ μ) (hF : zF σ μ) (hW : zWzz σ μ) {y : Int32} (hy : zr 0 7 y) : zp2 (if (y &&& 1) = 0 then zbi (fX5_popPair σ (y >>> ((1 : Int32) &&& 31))) (fun σ12 v13 => fX5_lastQuarter_96 σ12 v13) else zbi (fX5_leave σ (y >>> ((1 : Int32) &&& 31))) (fun σ10 v11 => fX5_lastQuarter_96 σ10 v11)) (fX12_three μ y 1) (zEnq I) := by
  obtain ⟨par, hp⟩ := z_par hy
  unfold fX12_three fX5_lastQuarter_96
  refine zp2_bvr (fun p ep => zp2_ifr (fun q => absurd q (by decide)) (fun _ => zp2_ifr (fun _ => zp2_ckr ?_) (fun q => absurd rfl q)))
  subst ep
  rcases par with ⟨e1, e2⟩ | ⟨e1, e2⟩
  · rw [e1, e2]
    exact zp2_ifl (fun _ => zp2_ifr (fun _ => zp2_bilp (t_popp hI h hF hW) (fun s v b q => zp2_some q)) (fun q => absurd rfl q)) (fun q => absurd rfl q)
  · rw [e1, e2]
    exact zp2_ifl (fun q => absurd q (by decide)) (fun _ => zp2_ifr (fun q => absurd q (by decide)) (fun _ => zp2_bilp (t_leave hI h hF hW hp) (fun s v b q => zp2_some q)))
theorem e_th2 {y z : Int32} (h0 : ¬ z = 0) (h1 : ¬ z = 1) : fX12_three μ y z = fX12_three_88 μ y z (y >>> ((1 : Int32) &&& 31)) := by
  unfold fX12_three
  show (if z = 0 then _ else (if z = 1 then _ else fX12_three_88 μ y z (y >>> ((1 : Int32) &&& 31)))) = _
  rw [if_neg h0, if_neg h1]
theorem t_l4 (hI : zIoK I) (h : zTT I σ μ) (hF : zF σ μ) {y : Int32} (hy : zr 0 7 y) : zp2 (zbi (fX5_holds σ y) (fun σ20 v21 => zbi (fX5_callIf σ20 v21) (fun σ22 v23 => some (σ22, v23)))) (fX12_more3 μ y 4) (zEnq I) := by
  unfold fX12_more3
  exact zp2_bvr (fun p _ => zp2_ifr (fun _ => t_callcc hI h hF hy) (fun q => absurd rfl q))
theorem t_l5 (hI : zIoK I) (h : zTT I σ μ) (hF : zF σ μ) (hW : zWzz σ μ) {y : Int32} (hn : y = 0 ∨ y = 1 ∨ y = 2 ∨ y = 4 ∨ y = 6) : zp2 (if (y &&& 1) = 1 then zbi (fX5_callIf σ 1) (fun σ28 v29 => some (σ28, v29)) else if y = 6 then zbi (fX5_pairAt σ 0) (fun σ26 v27 => fX5_lastQuarter_178 σ26 v27) else zbi (fX5_pair σ (y >>> ((1 : Int32) &&& 31))) (fun σ24 v25 => fX5_lastQuarter_178 σ24 v25)) (fX12_more3 μ y 5) (zEnq I) := by
  have pu : ∀ v : Int32, zr 0 65535 v → zp2 (fX5_lastQuarter_178 σ v) (fX12_more3_119 μ v) (zEnq I) := fun v rv => by
    unfold fX5_lastQuarter_178 fX12_more3_119
    refine zp2_buu (t_push hI h rfl rv) (fun s t q => zp2_some ?_)
    obtain ⟨h1, qc, qm⟩ := q
    exact ⟨h1, hF.of (qc.1 36 1 rfl) (qm.1 3 1 rfl), hW.of (qc.1 36 20 rfl) (qm.1 3 20 rfl), rfl⟩
  unfold fX12_more3
  refine zp2_bvr (fun p ep => zp2_ifr (fun q => absurd q (by decide)) (fun _ => zp2_ifr (fun q => absurd q (by decide)) (fun _ => zp2_ifr (fun q => absurd q (by decide)) (fun _ => zp2_ckr ?_))))
  subst ep
  rcases hn with e | e | e | e | e
  · subst e
    refine zp2_ifl (fun q => absurd q (by decide)) (fun _ => zp2_ifl (fun q => absurd q (by decide)) (fun _ => zp2_ifr (fun _ => zp2_ifr (fun q => absurd q (by decide)) (fun _ => ?_)) (fun q => absurd (by decide) q)))
    exact zp2_sm (t_rp h (zr_c (by decide))) (fun v rv => pu v rv)
  · subst e
    refine zp2_ifl (fun _ => zp2_ifr (fun q => absurd q (by decide)) (fun _ => zp2_ifr (fun _ => ?_) (fun q => absurd (by decide) q))) (fun q => absurd (by decide) q)
    unfold fX5_callIf
    refine zp2_bilp (P := zEnq I) ?_ (fun s v b q => zp2_some q)
    refine t_wzw hI h hF (fun v s t rv h1 f1 w1 w2 ef => ?_)
    exact zp2_ifl (fun q => absurd q (by decide)) (fun _ => t_callnn hI h1 f1 rv w1 w2)
  · subst e
    refine zp2_ifl (fun q => absurd q (by decide)) (fun _ => zp2_ifl (fun q => absurd q (by decide)) (fun _ => zp2_ifr (fun _ => zp2_ifr (fun q => absurd q (by decide)) (fun _ => ?_)) (fun q => absurd (by decide) q)))
    exact zp2_sm (t_rp h (zr_c (by decide))) (fun v rv => pu v rv)
  · subst e
    refine zp2_ifl (fun q => absurd q (by decide)) (fun _ => zp2_ifl (fun q => absurd q (by decide)) (fun _ => zp2_ifr (fun _ => zp2_ifr (fun q => absurd q (by decide)) (fun _ => ?_)) (fun q => absurd (by decide) q)))
    exact zp2_sm (t_rp h (zr_c (by decide))) (fun v rv => pu v rv)
  · subst e
    refine zp2_ifl (fun q => absurd q (by decide)) (fun _ => zp2_ifl (fun _ => zp2_ifr (fun _ => zp2_ifr (fun _ => ?_) (fun q => absurd (by decide) q)) (fun q => absurd (by decide) q)) (fun q => absurd rfl q))
    exact zp2_sm (t_pair0 h hF) (fun v rv => pu v rv)
theorem t_l6 (hI : zIoK I) (h : zTT I σ μ) (hF : zF σ μ) (hW : zWzz σ μ) {y : Int32} (hy : zr 0 7 y) : zp2 (zbi (fX5_fetch σ ) (fun σ30 v31 => zbu (fX5_doWith σ30 y v31) (fun σ32 => some (σ32, (7 : Int32))))) (fX12_more3 μ y 6) (zEnq I) := by
  unfold fX12_more3
  refine zp2_bvr (fun p _ => zp2_ifr (fun q => absurd q (by decide)) (fun _ => zp2_ifr (fun _ => zp2_bii (t_next hI h) (fun s v t v' q => ?_)) (fun q => absurd rfl q)))
  obtain ⟨h1, e1, rv, qc, qm⟩ := q
  have e1 : v' = v := e1
  subst e1
  refine zp2_buu (t_do hI h1 (hF.of (qc.1 36 1 rfl) (qm.1 3 1 rfl)) hy rv) (fun s2 t2 q2 => zp2_some ?_)
  obtain ⟨h2, f2, qc2, qm2⟩ := q2
  exact ⟨h2, f2, hW.of ((qc2.1 36 20 rfl).trans (qc.1 36 20 rfl)) ((qm2.1 3 20 rfl).trans (qm.1 3 20 rfl)), rfl⟩
theorem t_l7 (hI : zIoK I) (h : zTT I σ μ) (hF : zF σ μ) {y : Int32} (hy : zr 0 7 y) : zp2 (fX5_lastQuarter_196 σ y) (fX12_more3 μ y 7) (zEnq I) := by
  unfold fX5_lastQuarter_196 fX12_more3
  refine zp2_bvr (fun p _ => zp2_ifr (fun q => absurd q (by decide)) (fun _ => zp2_ifr (fun q => absurd q (by decide)) (fun _ => zp2_ifr (fun _ => zp2_ckl ?_) (fun q => absurd rfl q))))
  exact t_callk hI h hF (z_8y hy) (fun s t h1 f1 w1 _ _ => zp2_some ⟨h1, f1, w1, rfl⟩)
theorem t_last (hI : zIoK I) (h : zTT I σ μ) (hF : zF σ μ) (hW : zWzz σ μ) {op : Int32} (hx : op >>> ((6 : Int32) &&& 31) = 3) (h3 : ¬ op &&& 7 = 3) (hn : op &&& 7 = 5 → ((op >>> ((3 : Int32) &&& 31)) &&& 7 = 0 ∨ (op >>> ((3 : Int32) &&& 31)) &&& 7 = 1 ∨ (op >>> ((3 : Int32) &&& 31)) &&& 7 = 2 ∨ (op >>> ((3 : Int32) &&& 31)) &&& 7 = 4 ∨ (op >>> ((3 : Int32) &&& 31)) &&& 7 = 6)) : zp2 (fX5_lastQuarter σ op) (fX12_plain μ op) (zEnq I) := by
  have hy : zr 0 7 ((op >>> ((3 : Int32) &&& 31)) &&& 7) := z_r7 _
  have hz : zr 0 7 (op &&& 7) := z_r7 _
  unfold fX5_lastQuarter fX12_plain fX12_plain_160
  rw [hx]
  refine zp2_bvl (fun y ey => zp2_bvr (fun y' ey' => zp2_bvr (fun z ez => zp2_ifr (fun q => absurd q (by decide)) (fun _ => zp2_ifr (fun q => absurd q (by decide)) (fun _ => zp2_ifr (fun q => absurd q (by decide)) (fun _ => ?_))))))
  rw [← ey] at ey' hy hn
  subst ey'
  rw [← ez] at hz hn h3 ⊢
  clear ez
  rcases zr_hd (c := 0) hz rfl with e | hz
  · subst e
    exact zp2_ifl (fun _ => zp2_ifr (fun q => absurd q (by decide)) (fun _ => zp2_birp (t_l0 hI h hF hW hy) (fun a t w q => zp2_some q))) (fun q => absurd rfl q)
  rcases zr_hd (c := 1) hz rfl with e | hz
  · subst e
    exact zp2_ifl (fun q => absurd q (by decide)) (fun _ => zp2_ifl (fun _ => zp2_ifr (fun q => absurd q (by decide)) (fun _ => zp2_birp (t_l1 hI h hF hW hy) (fun a t w q => zp2_some q))) (fun q => absurd rfl q))
  rcases zr_hd (c := 2) hz rfl with e | hz
  · subst e
    rw [e_th2 (by decide) (by decide)]
    exact zp2_ifl (fun q => absurd q (by decide)) (fun _ => zp2_ifl (fun q => absurd q (by decide)) (fun _ => zp2_ifl (fun _ => zp2_ifr (fun q => absurd q (by decide)) (fun _ => zp2_birp (t_jpcc hI h hF hy) (fun a t w q => zp2_some q))) (fun q => absurd rfl q)))
  rcases zr_hd (c := 3) hz rfl with e | hz
  · exact absurd e h3
  rcases zr_hd (c := 4) hz rfl with e | hz
  · subst e
    exact zp2_ifl (fun q => absurd q (by decide)) (fun _ => zp2_ifl (fun q => absurd q (by decide)) (fun _ => zp2_ifl (fun q => absurd q (by decide)) (fun _ => zp2_ifl (fun q => absurd q (by decide)) (fun _ => zp2_ifl (fun _ => zp2_ifr (fun _ => zp2_birp (t_l4 hI h hF hy) (fun a t w q => zp2_some q)) (fun q => absurd (by decide) q)) (fun q => absurd rfl q)))))
  rcases zr_hd (c := 5) hz rfl with e | hz
  · subst e
    exact zp2_ifl (fun q => absurd q (by decide)) (fun _ => zp2_ifl (fun q => absurd q (by decide)) (fun _ => zp2_ifl (fun q => absurd q (by decide)) (fun _ => zp2_ifl (fun q => absurd q (by decide)) (fun _ => zp2_ifl (fun q => absurd q (by decide)) (fun _ => zp2_ifl (fun _ => zp2_ifr (fun _ => zp2_birp (t_l5 hI h hF hW (hn rfl)) (fun a t w q => zp2_some q)) (fun q => absurd (by decide) q)) (fun q => absurd rfl q))))))
  rcases zr_hd (c := 6) hz rfl with e | hz
  · subst e
    exact zp2_ifl (fun q => absurd q (by decide)) (fun _ => zp2_ifl (fun q => absurd q (by decide)) (fun _ => zp2_ifl (fun q => absurd q (by decide)) (fun _ => zp2_ifl (fun q => absurd q (by decide)) (fun _ => zp2_ifl (fun q => absurd q (by decide)) (fun _ => zp2_ifl (fun q => absurd q (by decide)) (fun _ => zp2_ifl (fun _ => zp2_ifr (fun _ => zp2_birp (t_l6 hI h hF hW hy) (fun a t w q => zp2_some q)) (fun q => absurd (by decide) q)) (fun q => absurd rfl q)))))))
  rcases zr_hd (c := 7) hz rfl with e | hz
  · subst e
    exact zp2_ifl (fun q => absurd q (by decide)) (fun _ => zp2_ifl (fun q => absurd q (by decide)) (fun _ => zp2_ifl (fun q => absurd q (by decide)) (fun _ => zp2_ifl (fun q => absurd q (by decide)) (fun _ => zp2_ifl (fun q => absurd q (by decide)) (fun _ => zp2_ifl (fun q => absurd q (by decide)) (fun _ => zp2_ifl (fun q => absurd q (by decide)) (fun _ => zp2_ifr (fun _ => zp2_birp (t_l7 hI h hF hy) (fun a t w q => zp2_some q)) (fun q => absurd (by decide) q))))))))
  exact zr_no9 hz (by decide)
theorem t_lx (hI : zIoK I) (hPo : zPorts I) (h : zTT I σ μ) (hF : zF σ μ) (hW : zWzz σ μ) (h28 : σ.1 36 28 = 0) {op : Int32} (hx : op >>> ((6 : Int32) &&& 31) = 3) (h3 : op &&& 7 = 3) (hn : ¬ (op >>> ((3 : Int32) &&& 31)) &&& 7 = 1) : zp2 (fX5_exchange σ ((op >>> ((3 : Int32) &&& 31)) &&& 7)) (fX12_plain μ op) (zEnq I) := by
  unfold fX12_plain fX12_plain_160
  rw [hx, h3]
  refine zp2_bvr (fun y' ey' => zp2_bvr (fun z ez => zp2_ifr (fun q => absurd q (by decide)) (fun _ => zp2_ifr (fun q => absurd q (by decide)) (fun _ => zp2_ifr (fun q => absurd q (by decide)) (fun _ => ?_)))))
  subst ey'
  subst ez
  refine zp2_ifr (fun q => absurd q (by decide)) (fun _ => ?_)
  rw [e_th2 (by decide) (by decide)]
  exact zp2_birp (t_exch hI hPo h hF hW h28 (z_r7 _) hn) (fun a t w q => zp2_some q)
theorem t_l4_r1 (hI : zIoK I) (h : zTT I σ μ) (hF : zF σ μ) {y : Int32} (hy : zr 0 7 y) : zp2 (zbi (fX5_holds σ y) (fun σ20 v21 => zbi (fX5_callIf σ20 v21) (fun σ22 v23 => some (σ22, v23)))) (fX12_more3_r1 μ y 4) (zEnq I) := by
  unfold fX12_more3_r1
  exact zp2_bvr (fun p _ => zp2_ifr (fun _ => t_callcc hI h hF hy) (fun q => absurd rfl q))
theorem t_l5_r1 (hI : zIoK I) (h : zTT I σ μ) (hF : zF σ μ) (hW : zWzz σ μ) {y : Int32} (hn : y = 0 ∨ y = 1 ∨ y = 2 ∨ y = 4 ∨ y = 6) : zp2 (if (y &&& 1) = 1 then zbi (fX5_callIf σ 1) (fun σ28 v29 => some (σ28, v29)) else if y = 6 then zbi (fX5_pairAt σ 0) (fun σ26 v27 => fX5_lastQuarter_178 σ26 v27) else zbi (fX5_pair σ (y >>> ((1 : Int32) &&& 31))) (fun σ24 v25 => fX5_lastQuarter_178 σ24 v25)) (fX12_more3_r1 μ y 5) (zEnq I) := by
  have pu : ∀ v : Int32, zr 0 65535 v → zp2 (fX5_lastQuarter_178 σ v) (fX12_more3_r1_119 μ v) (zEnq I) := fun v rv => by
    unfold fX5_lastQuarter_178 fX12_more3_r1_119
    refine zp2_buu (t_push hI h rfl rv) (fun s t q => zp2_some ?_)
    obtain ⟨h1, qc, qm⟩ := q
    exact ⟨h1, hF.of (qc.1 36 1 rfl) (qm.1 3 1 rfl), hW.of (qc.1 36 20 rfl) (qm.1 3 20 rfl), rfl⟩
  unfold fX12_more3_r1
  refine zp2_bvr (fun p ep => zp2_ifr (fun q => absurd q (by decide)) (fun _ => zp2_ifr (fun q => absurd q (by decide)) (fun _ => zp2_ifr (fun q => absurd q (by decide)) (fun _ => zp2_ckr ?_))))
  subst ep
  rcases hn with e | e | e | e | e
  · subst e
    refine zp2_ifl (fun q => absurd q (by decide)) (fun _ => zp2_ifl (fun q => absurd q (by decide)) (fun _ => zp2_ifr (fun _ => zp2_ifr (fun q => absurd q (by decide)) (fun _ => ?_)) (fun q => absurd (by decide) q)))
    exact zp2_sm (t_rp h (zr_c (by decide))) (fun v rv => pu v rv)
  · subst e
    refine zp2_ifl (fun _ => zp2_ifr (fun q => absurd q (by decide)) (fun _ => zp2_ifr (fun _ => ?_) (fun q => absurd (by decide) q))) (fun q => absurd (by decide) q)
    unfold fX5_callIf
    refine zp2_bilp (P := zEnq I) ?_ (fun s v b q => zp2_some q)
    refine t_wzw hI h hF (fun v s t rv h1 f1 w1 w2 ef => ?_)
    exact zp2_ifl (fun q => absurd q (by decide)) (fun _ => t_callnn hI h1 f1 rv w1 w2)
  · subst e
    refine zp2_ifl (fun q => absurd q (by decide)) (fun _ => zp2_ifl (fun q => absurd q (by decide)) (fun _ => zp2_ifr (fun _ => zp2_ifr (fun q => absurd q (by decide)) (fun _ => ?_)) (fun q => absurd (by decide) q)))
    exact zp2_sm (t_rp h (zr_c (by decide))) (fun v rv => pu v rv)
  · subst e
    refine zp2_ifl (fun q => absurd q (by decide)) (fun _ => zp2_ifl (fun q => absurd q (by decide)) (fun _ => zp2_ifr (fun _ => zp2_ifr (fun q => absurd q (by decide)) (fun _ => ?_)) (fun q => absurd (by decide) q)))
    exact zp2_sm (t_rp h (zr_c (by decide))) (fun v rv => pu v rv)
  · subst e
    refine zp2_ifl (fun q => absurd q (by decide)) (fun _ => zp2_ifl (fun _ => zp2_ifr (fun _ => zp2_ifr (fun _ => ?_) (fun q => absurd (by decide) q)) (fun q => absurd (by decide) q)) (fun q => absurd rfl q))
    exact zp2_sm (t_pair0 h hF) (fun v rv => pu v rv)
theorem t_l6_r1 (hI : zIoK I) (h : zTT I σ μ) (hF : zF σ μ) (hW : zWzz σ μ) {y : Int32} (hy : zr 0 7 y) : zp2 (zbi (fX5_fetch σ ) (fun σ30 v31 => zbu (fX5_doWith σ30 y v31) (fun σ32 => some (σ32, (7 : Int32))))) (fX12_more3_r1 μ y 6) (zEnq I) := by
  unfold fX12_more3_r1
  refine zp2_bvr (fun p _ => zp2_ifr (fun q => absurd q (by decide)) (fun _ => zp2_ifr (fun _ => zp2_bii (t_next hI h) (fun s v t v' q => ?_)) (fun q => absurd rfl q)))
  obtain ⟨h1, e1, rv, qc, qm⟩ := q
  have e1 : v' = v := e1
  subst e1
  refine zp2_buu (t_do hI h1 (hF.of (qc.1 36 1 rfl) (qm.1 3 1 rfl)) hy rv) (fun s2 t2 q2 => zp2_some ?_)
  obtain ⟨h2, f2, qc2, qm2⟩ := q2
  exact ⟨h2, f2, hW.of ((qc2.1 36 20 rfl).trans (qc.1 36 20 rfl)) ((qm2.1 3 20 rfl).trans (qm.1 3 20 rfl)), rfl⟩
theorem t_l7_r1 (hI : zIoK I) (h : zTT I σ μ) (hF : zF σ μ) {y : Int32} (hy : zr 0 7 y) : zp2 (fX5_lastQuarter_196 σ y) (fX12_more3_r1 μ y 7) (zEnq I) := by
  unfold fX5_lastQuarter_196 fX12_more3_r1
  refine zp2_bvr (fun p _ => zp2_ifr (fun q => absurd q (by decide)) (fun _ => zp2_ifr (fun q => absurd q (by decide)) (fun _ => zp2_ifr (fun _ => zp2_ckl ?_) (fun q => absurd rfl q))))
  exact t_callk hI h hF (z_8y hy) (fun s t h1 f1 w1 _ _ => zp2_some ⟨h1, f1, w1, rfl⟩)
theorem t_last_r1 (hI : zIoK I) (h : zTT I σ μ) (hF : zF σ μ) (hW : zWzz σ μ) {op : Int32} (hx : op >>> ((6 : Int32) &&& 31) = 3) (h3 : ¬ op &&& 7 = 3) (hn : op &&& 7 = 5 → ((op >>> ((3 : Int32) &&& 31)) &&& 7 = 0 ∨ (op >>> ((3 : Int32) &&& 31)) &&& 7 = 1 ∨ (op >>> ((3 : Int32) &&& 31)) &&& 7 = 2 ∨ (op >>> ((3 : Int32) &&& 31)) &&& 7 = 4 ∨ (op >>> ((3 : Int32) &&& 31)) &&& 7 = 6)) : zp2 (fX5_lastQuarter σ op) (fX12_plain_r1 μ op) (zEnq I) := by
  have hy : zr 0 7 ((op >>> ((3 : Int32) &&& 31)) &&& 7) := z_r7 _
  have hz : zr 0 7 (op &&& 7) := z_r7 _
  unfold fX5_lastQuarter fX12_plain_r1 fX12_plain_r1_160
  rw [hx]
  refine zp2_bvl (fun y ey => zp2_bvr (fun y' ey' => zp2_bvr (fun z ez => zp2_ifr (fun q => absurd q (by decide)) (fun _ => zp2_ifr (fun q => absurd q (by decide)) (fun _ => zp2_ifr (fun q => absurd q (by decide)) (fun _ => ?_))))))
  rw [← ey] at ey' hy hn
  subst ey'
  rw [← ez] at hz hn h3 ⊢
  clear ez
  rcases zr_hd (c := 0) hz rfl with e | hz
  · subst e
    exact zp2_ifl (fun _ => zp2_ifr (fun q => absurd q (by decide)) (fun _ => zp2_birp (t_l0 hI h hF hW hy) (fun a t w q => zp2_some q))) (fun q => absurd rfl q)
  rcases zr_hd (c := 1) hz rfl with e | hz
  · subst e
    exact zp2_ifl (fun q => absurd q (by decide)) (fun _ => zp2_ifl (fun _ => zp2_ifr (fun q => absurd q (by decide)) (fun _ => zp2_birp (t_l1 hI h hF hW hy) (fun a t w q => zp2_some q))) (fun q => absurd rfl q))
  rcases zr_hd (c := 2) hz rfl with e | hz
  · subst e
    rw [e_th2 (by decide) (by decide)]
    exact zp2_ifl (fun q => absurd q (by decide)) (fun _ => zp2_ifl (fun q => absurd q (by decide)) (fun _ => zp2_ifl (fun _ => zp2_ifr (fun q => absurd q (by decide)) (fun _ => zp2_birp (t_jpcc hI h hF hy) (fun a t w q => zp2_some q))) (fun q => absurd rfl q)))
  rcases zr_hd (c := 3) hz rfl with e | hz
  · exact absurd e h3
  rcases zr_hd (c := 4) hz rfl with e | hz
  · subst e
    exact zp2_ifl (fun q => absurd q (by decide)) (fun _ => zp2_ifl (fun q => absurd q (by decide)) (fun _ => zp2_ifl (fun q => absurd q (by decide)) (fun _ => zp2_ifl (fun q => absurd q (by decide)) (fun _ => zp2_ifl (fun _ => zp2_ifr (fun _ => zp2_birp (t_l4_r1 hI h hF hy) (fun a t w q => zp2_some q)) (fun q => absurd (by decide) q)) (fun q => absurd rfl q)))))
  rcases zr_hd (c := 5) hz rfl with e | hz
  · subst e
    exact zp2_ifl (fun q => absurd q (by decide)) (fun _ => zp2_ifl (fun q => absurd q (by decide)) (fun _ => zp2_ifl (fun q => absurd q (by decide)) (fun _ => zp2_ifl (fun q => absurd q (by decide)) (fun _ => zp2_ifl (fun q => absurd q (by decide)) (fun _ => zp2_ifl (fun _ => zp2_ifr (fun _ => zp2_birp (t_l5_r1 hI h hF hW (hn rfl)) (fun a t w q => zp2_some q)) (fun q => absurd (by decide) q)) (fun q => absurd rfl q))))))
  rcases zr_hd (c := 6) hz rfl with e | hz
  · subst e
    exact zp2_ifl (fun q => absurd q (by decide)) (fun _ => zp2_ifl (fun q => absurd q (by decide)) (fun _ => zp2_ifl (fun q => absurd q (by decide)) (fun _ => zp2_ifl (fun q => absurd q (by decide)) (fun _ => zp2_ifl (fun q => absurd q (by decide)) (fun _ => zp2_ifl (fun q => absurd q (by decide)) (fun _ => zp2_ifl (fun _ => zp2_ifr (fun _ => zp2_birp (t_l6_r1 hI h hF hW hy) (fun a t w q => zp2_some q)) (fun q => absurd (by decide) q)) (fun q => absurd rfl q)))))))
  rcases zr_hd (c := 7) hz rfl with e | hz
  · subst e
    exact zp2_ifl (fun q => absurd q (by decide)) (fun _ => zp2_ifl (fun q => absurd q (by decide)) (fun _ => zp2_ifl (fun q => absurd q (by decide)) (fun _ => zp2_ifl (fun q => absurd q (by decide)) (fun _ => zp2_ifl (fun q => absurd q (by decide)) (fun _ => zp2_ifl (fun q => absurd q (by decide)) (fun _ => zp2_ifl (fun q => absurd q (by decide)) (fun _ => zp2_ifr (fun _ => zp2_birp (t_l7_r1 hI h hF hy) (fun a t w q => zp2_some q)) (fun q => absurd (by decide) q))))))))
  exact zr_no9 hz (by decide)
theorem t_lx_r1 (hI : zIoK I) (hPo : zPorts I) (h : zTT I σ μ) (hF : zF σ μ) (hW : zWzz σ μ) (h28 : σ.1 36 28 = 0) {op : Int32} (hx : op >>> ((6 : Int32) &&& 31) = 3) (h3 : op &&& 7 = 3) (hn : ¬ (op >>> ((3 : Int32) &&& 31)) &&& 7 = 1) : zp2 (fX5_exchange σ ((op >>> ((3 : Int32) &&& 31)) &&& 7)) (fX12_plain_r1 μ op) (zEnq I) := by
  unfold fX12_plain_r1 fX12_plain_r1_160
  rw [hx, h3]
  refine zp2_bvr (fun y' ey' => zp2_bvr (fun z ez => zp2_ifr (fun q => absurd q (by decide)) (fun _ => zp2_ifr (fun q => absurd q (by decide)) (fun _ => zp2_ifr (fun q => absurd q (by decide)) (fun _ => ?_)))))
  subst ey'
  subst ez
  refine zp2_ifr (fun q => absurd q (by decide)) (fun _ => ?_)
  rw [e_th2 (by decide) (by decide)]
  exact zp2_birp (t_exch hI hPo h hF hW h28 (z_r7 _) hn) (fun a t w q => zp2_some q)
end ZQ5
end ZJN16
section ZJN17
/-! CB -/
theorem v_1y : ∀ i : Fin 8, 0 ≤ ((1 : Int32) <<< (Int32.ofNat i.val &&& 31)).toInt ∧ ((1 : Int32) <<< (Int32.ofNat i.val &&& 31)).toInt ≤ 255 := by decide
theorem z_1y {y : Int32} (h : zr 0 7 y) : zr 0 255 (1 <<< (y &&& 31)) := by
  obtain ⟨i, e⟩ := z_fin8 h
  subst e
  exact v_1y i
noncomputable def cbit (f w s : Int32) : Int32 := ((((f &&& 1) ||| (w &&& 128)) ||| (if w = 0 then 68 else 0)) ||| 16) ||| (s &&& 40)
theorem v_bitf : ∀ i : Fin 256, ∀ c x y : Bool, zfl (d7 (Int32.ofNat i.val)) (d6 (Int32.ofNat i.val)) x true y (bc (if Int32.ofNat i.val = 0 then 1 else 0)) false c = ((((bif c then 1 else 0) ||| (Int32.ofNat i.val &&& 128)) ||| (if Int32.ofNat i.val = 0 then 68 else 0)) ||| 16) ||| ((bif x then 32 else 0) ||| (bif y then 8 else 0)) := by decide +kernel
theorem v_bit {f w s : Int32} (hf : zr 0 255 f) (hw : zr 0 255 w) (hs : zr 0 255 s) : gxy (pt (pt (pt (gby f w) 2 (if w = 0 then 1 else 0)) 4 1) 1 0) s = cbit f w s := by
  unfold cbit
  rw [z_40 hs, z_f1 hf]
  obtain ⟨i, e⟩ := z_byteF hw
  subst e
  rw [← v_bitf i]
  conv => lhs; rw [fl_of hf, fl_by, pt_2, pt_4, pt_1, fl_xy]
  rfl
theorem r_bit {f w s : Int32} (hf : zr 0 255 f) (hw : zr 0 255 w) (hs : zr 0 255 s) : zr 0 255 (cbit f w s) := by
  rw [← v_bit hf hw hs, fl_of hf, fl_by, pt_2, pt_4, pt_1, fl_xy]
  exact zfl_r _ _ _ _ _ _ _ _
section ZCB
variable {I : zSt → zSt → Prop} {σ μ : zSt}
theorem zTT.m33 (hI : zIoK I) (h : zTT I σ μ) {w : Int32} : zTT I σ (zsi μ 0 33 w) := ⟨h.1.keep zQ.rf (zQ.wi zQ.rf rfl), ⟨fun j a b c => h.2.1.1 j a b c, h.2.1.2.1, h.2.1.2.2.1, h.2.1.2.2.2⟩, h.2.2.1.of rfl rfl, hI _ _ _ _ h.2.2.2 zQ.rf (zQ.wi zQ.rf rfl)⟩
theorem p_bitC {y v s : Int32} : zpc (fX5_askBit σ y v s) (fun r => r = zsi σ 36 1 (cbit (σ.1 36 1) (v &&& (1 <<< (y &&& 31))) s)) := by
  unfold fX5_askBit cbit
  refine zpc_bv (fun w ew => zpc_ck ?_)
  subst ew
  refine zpc_jx (K := fun x => fX5_askBit_38 σ s x (((zgi σ 36 (1 : Int32).toNatClampNeg) &&& 1) ||| ((v &&& ((1 : Int32) <<< (y &&& 31))) &&& 128)) 1) (a := 68) (b := 0) rfl rfl (fun x ex => ?_)
  unfold fX5_askBit_38
  refine zpc_ck (zpc_bv (fun t et => zpc_some ?_))
  rw [et, ex]
  rfl
theorem p_bitM {f z v w : Int32} : zpc (if w = 0 then fX12_turn_69 (zsi μ 3 1 f) z v 1 2 else fX12_turn_69 (zsi μ 3 1 f) z v 0 2) (fun r => r = (zsi μ 3 1 (gxy (pt (pt (pt f 2 (if w = 0 then 1 else 0)) 4 1) 1 0) (if z = 6 then μ.1 3 20 >>> ((8 : Int32) &&& 31) else v)), if z = 6 then 12 else 8)) := by
  refine zpc_jx (K := fun x => fX12_turn_69 (zsi μ 3 1 f) z v x 2) (a := 1) (b := 0) rfl rfl (fun x ex => ?_)
  unfold fX12_turn_69 fX12_turn_106 fX12_turn_122
  refine zpc_bu p_put (fun s e => ?_)
  subst e
  refine zpc_bu p_put (fun s e => ?_)
  subst e
  refine zpc_bu p_put (fun s e => ?_)
  subst e
  refine zpc_if (fun q => zpc_ck (zpc_bu p_xy (fun s e => zpc_if (fun _ => zpc_some ?_) (fun r => absurd q r)))) (fun q => zpc_bu p_xy (fun s e => zpc_if (fun r => absurd r q) (fun _ => zpc_some ?_)))
  · rw [e, ex, if_pos q, if_pos q]; rfl
  · rw [e, ex, if_neg q, if_neg q]
theorem t_rot0 (hI : zIoK I) (h : zTT I σ μ) (hF : zF σ μ) {v : Int32} (rv : zr 0 255 v) {α β : Type} {Q : α → β → Prop} {f : zSt → Int32 → Option α} {g : zSt → Int32 → Option β} (k : ∀ s t w, zTT I s t → zF s t → zQ [] [(36, 1, 1)] [] [] σ s → zQ [] [(3, 1, 1)] [] [] μ t → zr 0 255 w → zp2 (f s w) (g t w) Q) : zp2 (zbi (fX5_turn σ 0 v) f) (zbi (fX12_turned μ 0 v) (fun σ10 v11 => zbu (fX12_by σ10 v11) (fun σ12 => zbi (fX12_isEven σ12 v11) (fun σ13 v14 => zbu (fX12_put σ13 2 v14) (fun σ15 => zbu (fX12_put σ15 4 0) (fun σ16 => zbu (fX12_put σ16 1 0) (fun σ17 => g σ17 v11))))))) Q := by
  have ef : μ.1 3 1 = σ.1 36 1 := hF
  have hf : zr 0 255 (σ.1 36 1) := h.b (by decide)
  have hwo : zr 0 255 (((v <<< ((1 : Int32) &&& 31)) &&& 255) ||| (v >>> ((7 : Int32) &&& 31))) ∧ zr 0 1 (v >>> ((7 : Int32) &&& 31)) := by
    obtain ⟨i, ei⟩ := z_byteF rv
    obtain ⟨m, em⟩ := z_bit1 (z_r1 (σ.1 36 1))
    rw [ei]
    exact ⟨(v_rotf0 i m).1, (v_rotf0 i m).2⟩
  have cM := p_rotM0 (μ := μ) (v := v)
  rw [ef] at cM
  refine zp2_bil p_rotC0 (fun s w1 e => zp2_bir cM (fun t w2 e' => ?_))
  cases e
  cases e'
  obtain ⟨rw1, ro⟩ := hwo
  generalize ((v <<< ((1 : Int32) &&& 31)) &&& 255) ||| (v >>> ((7 : Int32) &&& 31)) = w at rw1
  refine zp2_bur p_by (fun t2 e2 => ?_)
  subst e2
  refine zp2_bir p_even (fun t3 v3 e3 => ?_)
  cases e3
  refine zp2_bur p_put (fun t2 e2 => ?_)
  subst e2
  refine zp2_bur p_put (fun t2 e2 => ?_)
  subst e2
  refine zp2_bur p_put (fun t2 e2 => ?_)
  have eF : pt (pt (pt (gby (pt (σ.1 36 1) 0 (if v >>> ((7 : Int32) &&& 31) = 1 then 1 else 0)) w) 2 (gev w)) 4 0) 1 0 = crot w (v >>> ((7 : Int32) &&& 31)) := by
    rw [← v_rt rw1 ro, fl_of hf, pt_0, fl_by, pt_2, pt_4, pt_1]
    rfl
  rw [eF] at e2
  subst e2
  have rF : zr 0 255 (crot w (v >>> ((7 : Int32) &&& 31))) := by rw [← v_rt rw1 ro]; exact zfl_r _ _ _ _ _ _ _ _
  exact k _ _ w ((h.onC hI (Or.inl rfl) (zrg_b (Or.inl (by decide)) rF)).onM hI (Or.inl rfl)) rfl (zQ.wi zQ.rf rfl) (zQ.wi zQ.rf rfl) rw1
theorem t_rot1 (hI : zIoK I) (h : zTT I σ μ) (hF : zF σ μ) {v : Int32} (rv : zr 0 255 v) {α β : Type} {Q : α → β → Prop} {f : zSt → Int32 → Option α} {g : zSt → Int32 → Option β} (k : ∀ s t w, zTT I s t → zF s t → zQ [] [(36, 1, 1)] [] [] σ s → zQ [] [(3, 1, 1)] [] [] μ t → zr 0 255 w → zp2 (f s w) (g t w) Q) : zp2 (zbi (fX5_turn σ 1 v) f) (zbi (fX12_turned μ 1 v) (fun σ10 v11 => zbu (fX12_by σ10 v11) (fun σ12 => zbi (fX12_isEven σ12 v11) (fun σ13 v14 => zbu (fX12_put σ13 2 v14) (fun σ15 => zbu (fX12_put σ15 4 0) (fun σ16 => zbu (fX12_put σ16 1 0) (fun σ17 => g σ17 v11))))))) Q := by
  have ef : μ.1 3 1 = σ.1 36 1 := hF
  have hf : zr 0 255 (σ.1 36 1) := h.b (by decide)
  have hwo : zr 0 255 ((v >>> ((1 : Int32) &&& 31)) ||| ((v &&& 1) <<< ((7 : Int32) &&& 31))) ∧ zr 0 1 (v &&& 1) := by
    obtain ⟨i, ei⟩ := z_byteF rv
    obtain ⟨m, em⟩ := z_bit1 (z_r1 (σ.1 36 1))
    rw [ei]
    exact ⟨(v_rotf1 i m).1, (v_rotf1 i m).2⟩
  have cM := p_rotM1 (μ := μ) (v := v)
  rw [ef] at cM
  refine zp2_bil p_rotC1 (fun s w1 e => zp2_bir cM (fun t w2 e' => ?_))
  cases e
  cases e'
  obtain ⟨rw1, ro⟩ := hwo
  generalize (v >>> ((1 : Int32) &&& 31)) ||| ((v &&& 1) <<< ((7 : Int32) &&& 31)) = w at rw1
  refine zp2_bur p_by (fun t2 e2 => ?_)
  subst e2
  refine zp2_bir p_even (fun t3 v3 e3 => ?_)
  cases e3
  refine zp2_bur p_put (fun t2 e2 => ?_)
  subst e2
  refine zp2_bur p_put (fun t2 e2 => ?_)
  subst e2
  refine zp2_bur p_put (fun t2 e2 => ?_)
  have eF : pt (pt (pt (gby (pt (σ.1 36 1) 0 (if v &&& 1 = 1 then 1 else 0)) w) 2 (gev w)) 4 0) 1 0 = crot w (v &&& 1) := by
    rw [← v_rt rw1 ro, fl_of hf, pt_0, fl_by, pt_2, pt_4, pt_1]
    rfl
  rw [eF] at e2
  subst e2
  have rF : zr 0 255 (crot w (v &&& 1)) := by rw [← v_rt rw1 ro]; exact zfl_r _ _ _ _ _ _ _ _
  exact k _ _ w ((h.onC hI (Or.inl rfl) (zrg_b (Or.inl (by decide)) rF)).onM hI (Or.inl rfl)) rfl (zQ.wi zQ.rf rfl) (zQ.wi zQ.rf rfl) rw1
theorem t_rot2 (hI : zIoK I) (h : zTT I σ μ) (hF : zF σ μ) {v : Int32} (rv : zr 0 255 v) {α β : Type} {Q : α → β → Prop} {f : zSt → Int32 → Option α} {g : zSt → Int32 → Option β} (k : ∀ s t w, zTT I s t → zF s t → zQ [] [(36, 1, 1)] [] [] σ s → zQ [] [(3, 1, 1)] [] [] μ t → zr 0 255 w → zp2 (f s w) (g t w) Q) : zp2 (zbi (fX5_turn σ 2 v) f) (zbi (fX12_turned μ 2 v) (fun σ10 v11 => zbu (fX12_by σ10 v11) (fun σ12 => zbi (fX12_isEven σ12 v11) (fun σ13 v14 => zbu (fX12_put σ13 2 v14) (fun σ15 => zbu (fX12_put σ15 4 0) (fun σ16 => zbu (fX12_put σ16 1 0) (fun σ17 => g σ17 v11))))))) Q := by
  have ef : μ.1 3 1 = σ.1 36 1 := hF
  have hf : zr 0 255 (σ.1 36 1) := h.b (by decide)
  have hwo : zr 0 255 (((v <<< ((1 : Int32) &&& 31)) &&& 255) ||| (σ.1 36 1 &&& 1)) ∧ zr 0 1 (v >>> ((7 : Int32) &&& 31)) := by
    obtain ⟨i, ei⟩ := z_byteF rv
    obtain ⟨m, em⟩ := z_bit1 (z_r1 (σ.1 36 1))
    rw [em, ei]
    exact ⟨(v_rotf2 i m).1, (v_rotf2 i m).2⟩
  have cM := p_rotM2 (μ := μ) (v := v)
  rw [ef, z_c0 hf] at cM
  refine zp2_bil p_rotC2 (fun s w1 e => zp2_bir cM (fun t w2 e' => ?_))
  cases e
  cases e'
  obtain ⟨rw1, ro⟩ := hwo
  generalize ((v <<< ((1 : Int32) &&& 31)) &&& 255) ||| (σ.1 36 1 &&& 1) = w at rw1
  refine zp2_bur p_by (fun t2 e2 => ?_)
  subst e2
  refine zp2_bir p_even (fun t3 v3 e3 => ?_)
  cases e3
  refine zp2_bur p_put (fun t2 e2 => ?_)
  subst e2
  refine zp2_bur p_put (fun t2 e2 => ?_)
  subst e2
  refine zp2_bur p_put (fun t2 e2 => ?_)
  have eF : pt (pt (pt (gby (pt (σ.1 36 1) 0 (if v >>> ((7 : Int32) &&& 31) = 1 then 1 else 0)) w) 2 (gev w)) 4 0) 1 0 = crot w (v >>> ((7 : Int32) &&& 31)) := by
    rw [← v_rt rw1 ro, fl_of hf, pt_0, fl_by, pt_2, pt_4, pt_1]
    rfl
  rw [eF] at e2
  subst e2
  have rF : zr 0 255 (crot w (v >>> ((7 : Int32) &&& 31))) := by rw [← v_rt rw1 ro]; exact zfl_r _ _ _ _ _ _ _ _
  exact k _ _ w ((h.onC hI (Or.inl rfl) (zrg_b (Or.inl (by decide)) rF)).onM hI (Or.inl rfl)) rfl (zQ.wi zQ.rf rfl) (zQ.wi zQ.rf rfl) rw1
theorem t_rot3 (hI : zIoK I) (h : zTT I σ μ) (hF : zF σ μ) {v : Int32} (rv : zr 0 255 v) {α β : Type} {Q : α → β → Prop} {f : zSt → Int32 → Option α} {g : zSt → Int32 → Option β} (k : ∀ s t w, zTT I s t → zF s t → zQ [] [(36, 1, 1)] [] [] σ s → zQ [] [(3, 1, 1)] [] [] μ t → zr 0 255 w → zp2 (f s w) (g t w) Q) : zp2 (zbi (fX5_turn σ 3 v) f) (zbi (fX12_turned μ 3 v) (fun σ10 v11 => zbu (fX12_by σ10 v11) (fun σ12 => zbi (fX12_isEven σ12 v11) (fun σ13 v14 => zbu (fX12_put σ13 2 v14) (fun σ15 => zbu (fX12_put σ15 4 0) (fun σ16 => zbu (fX12_put σ16 1 0) (fun σ17 => g σ17 v11))))))) Q := by
  have ef : μ.1 3 1 = σ.1 36 1 := hF
  have hf : zr 0 255 (σ.1 36 1) := h.b (by decide)
  have hwo : zr 0 255 ((v >>> ((1 : Int32) &&& 31)) ||| ((σ.1 36 1 &&& 1) <<< ((7 : Int32) &&& 31))) ∧ zr 0 1 (v &&& 1) := by
    obtain ⟨i, ei⟩ := z_byteF rv
    obtain ⟨m, em⟩ := z_bit1 (z_r1 (σ.1 36 1))
    rw [em, ei]
    exact ⟨(v_rotf3 i m).1, (v_rotf3 i m).2⟩
  have cM := p_rotM3 (μ := μ) (v := v)
  rw [ef, z_c0 hf] at cM
  refine zp2_bil p_rotC3 (fun s w1 e => zp2_bir cM (fun t w2 e' => ?_))
  cases e
  cases e'
  obtain ⟨rw1, ro⟩ := hwo
  generalize (v >>> ((1 : Int32) &&& 31)) ||| ((σ.1 36 1 &&& 1) <<< ((7 : Int32) &&& 31)) = w at rw1
  refine zp2_bur p_by (fun t2 e2 => ?_)
  subst e2
  refine zp2_bir p_even (fun t3 v3 e3 => ?_)
  cases e3
  refine zp2_bur p_put (fun t2 e2 => ?_)
  subst e2
  refine zp2_bur p_put (fun t2 e2 => ?_)
  subst e2
  refine zp2_bur p_put (fun t2 e2 => ?_)
  have eF : pt (pt (pt (gby (pt (σ.1 36 1) 0 (if v &&& 1 = 1 then 1 else 0)) w) 2 (gev w)) 4 0) 1 0 = crot w (v &&& 1) := by
    rw [← v_rt rw1 ro, fl_of hf, pt_0, fl_by, pt_2, pt_4, pt_1]
    rfl
  rw [eF] at e2
  subst e2
  have rF : zr 0 255 (crot w (v &&& 1)) := by rw [← v_rt rw1 ro]; exact zfl_r _ _ _ _ _ _ _ _
  exact k _ _ w ((h.onC hI (Or.inl rfl) (zrg_b (Or.inl (by decide)) rF)).onM hI (Or.inl rfl)) rfl (zQ.wi zQ.rf rfl) (zQ.wi zQ.rf rfl) rw1
theorem t_rot4 (hI : zIoK I) (h : zTT I σ μ) (hF : zF σ μ) {v : Int32} (rv : zr 0 255 v) {α β : Type} {Q : α → β → Prop} {f : zSt → Int32 → Option α} {g : zSt → Int32 → Option β} (k : ∀ s t w, zTT I s t → zF s t → zQ [] [(36, 1, 1)] [] [] σ s → zQ [] [(3, 1, 1)] [] [] μ t → zr 0 255 w → zp2 (f s w) (g t w) Q) : zp2 (zbi (fX5_turn σ 4 v) f) (zbi (fX12_turned μ 4 v) (fun σ10 v11 => zbu (fX12_by σ10 v11) (fun σ12 => zbi (fX12_isEven σ12 v11) (fun σ13 v14 => zbu (fX12_put σ13 2 v14) (fun σ15 => zbu (fX12_put σ15 4 0) (fun σ16 => zbu (fX12_put σ16 1 0) (fun σ17 => g σ17 v11))))))) Q := by
  have ef : μ.1 3 1 = σ.1 36 1 := hF
  have hf : zr 0 255 (σ.1 36 1) := h.b (by decide)
  have hwo : zr 0 255 (((v <<< ((1 : Int32) &&& 31)) &&& 255) ||| 0) ∧ zr 0 1 (v >>> ((7 : Int32) &&& 31)) := by
    obtain ⟨i, ei⟩ := z_byteF rv
    obtain ⟨m, em⟩ := z_bit1 (z_r1 (σ.1 36 1))
    rw [ei]
    exact ⟨(v_rotf4 i m).1, (v_rotf4 i m).2⟩
  have cM := p_rotM4 (μ := μ) (v := v)
  rw [ef] at cM
  refine zp2_bil p_rotC4 (fun s w1 e => zp2_bir cM (fun t w2 e' => ?_))
  cases e
  cases e'
  obtain ⟨rw1, ro⟩ := hwo
  generalize ((v <<< ((1 : Int32) &&& 31)) &&& 255) ||| 0 = w at rw1
  refine zp2_bur p_by (fun t2 e2 => ?_)
  subst e2
  refine zp2_bir p_even (fun t3 v3 e3 => ?_)
  cases e3
  refine zp2_bur p_put (fun t2 e2 => ?_)
  subst e2
  refine zp2_bur p_put (fun t2 e2 => ?_)
  subst e2
  refine zp2_bur p_put (fun t2 e2 => ?_)
  have eF : pt (pt (pt (gby (pt (σ.1 36 1) 0 (if v >>> ((7 : Int32) &&& 31) = 1 then 1 else 0)) w) 2 (gev w)) 4 0) 1 0 = crot w (v >>> ((7 : Int32) &&& 31)) := by
    rw [← v_rt rw1 ro, fl_of hf, pt_0, fl_by, pt_2, pt_4, pt_1]
    rfl
  rw [eF] at e2
  subst e2
  have rF : zr 0 255 (crot w (v >>> ((7 : Int32) &&& 31))) := by rw [← v_rt rw1 ro]; exact zfl_r _ _ _ _ _ _ _ _
  exact k _ _ w ((h.onC hI (Or.inl rfl) (zrg_b (Or.inl (by decide)) rF)).onM hI (Or.inl rfl)) rfl (zQ.wi zQ.rf rfl) (zQ.wi zQ.rf rfl) rw1
theorem t_rot5 (hI : zIoK I) (h : zTT I σ μ) (hF : zF σ μ) {v : Int32} (rv : zr 0 255 v) {α β : Type} {Q : α → β → Prop} {f : zSt → Int32 → Option α} {g : zSt → Int32 → Option β} (k : ∀ s t w, zTT I s t → zF s t → zQ [] [(36, 1, 1)] [] [] σ s → zQ [] [(3, 1, 1)] [] [] μ t → zr 0 255 w → zp2 (f s w) (g t w) Q) : zp2 (zbi (fX5_turn σ 5 v) f) (zbi (fX12_turned μ 5 v) (fun σ10 v11 => zbu (fX12_by σ10 v11) (fun σ12 => zbi (fX12_isEven σ12 v11) (fun σ13 v14 => zbu (fX12_put σ13 2 v14) (fun σ15 => zbu (fX12_put σ15 4 0) (fun σ16 => zbu (fX12_put σ16 1 0) (fun σ17 => g σ17 v11))))))) Q := by
  have ef : μ.1 3 1 = σ.1 36 1 := hF
  have hf : zr 0 255 (σ.1 36 1) := h.b (by decide)
  have hwo : zr 0 255 ((v >>> ((1 : Int32) &&& 31)) ||| ((v >>> ((7 : Int32) &&& 31)) <<< ((7 : Int32) &&& 31))) ∧ zr 0 1 (v &&& 1) := by
    obtain ⟨i, ei⟩ := z_byteF rv
    obtain ⟨m, em⟩ := z_bit1 (z_r1 (σ.1 36 1))
    rw [ei]
    exact ⟨(v_rotf5 i m).1, (v_rotf5 i m).2⟩
  have cM := p_rotM5 (μ := μ) (v := v)
  rw [ef] at cM
  refine zp2_bil p_rotC5 (fun s w1 e => zp2_bir cM (fun t w2 e' => ?_))
  cases e
  cases e'
  obtain ⟨rw1, ro⟩ := hwo
  generalize (v >>> ((1 : Int32) &&& 31)) ||| ((v >>> ((7 : Int32) &&& 31)) <<< ((7 : Int32) &&& 31)) = w at rw1
  refine zp2_bur p_by (fun t2 e2 => ?_)
  subst e2
  refine zp2_bir p_even (fun t3 v3 e3 => ?_)
  cases e3
  refine zp2_bur p_put (fun t2 e2 => ?_)
  subst e2
  refine zp2_bur p_put (fun t2 e2 => ?_)
  subst e2
  refine zp2_bur p_put (fun t2 e2 => ?_)
  have eF : pt (pt (pt (gby (pt (σ.1 36 1) 0 (if v &&& 1 = 1 then 1 else 0)) w) 2 (gev w)) 4 0) 1 0 = crot w (v &&& 1) := by
    rw [← v_rt rw1 ro, fl_of hf, pt_0, fl_by, pt_2, pt_4, pt_1]
    rfl
  rw [eF] at e2
  subst e2
  have rF : zr 0 255 (crot w (v &&& 1)) := by rw [← v_rt rw1 ro]; exact zfl_r _ _ _ _ _ _ _ _
  exact k _ _ w ((h.onC hI (Or.inl rfl) (zrg_b (Or.inl (by decide)) rF)).onM hI (Or.inl rfl)) rfl (zQ.wi zQ.rf rfl) (zQ.wi zQ.rf rfl) rw1
theorem t_rot6 (hI : zIoK I) (h : zTT I σ μ) (hF : zF σ μ) {v : Int32} (rv : zr 0 255 v) {α β : Type} {Q : α → β → Prop} {f : zSt → Int32 → Option α} {g : zSt → Int32 → Option β} (k : ∀ s t w, zTT I s t → zF s t → zQ [] [(36, 1, 1)] [] [] σ s → zQ [] [(3, 1, 1)] [] [] μ t → zr 0 255 w → zp2 (f s w) (g t w) Q) : zp2 (zbi (fX5_turn σ 6 v) f) (zbi (fX12_turned μ 6 v) (fun σ10 v11 => zbu (fX12_by σ10 v11) (fun σ12 => zbi (fX12_isEven σ12 v11) (fun σ13 v14 => zbu (fX12_put σ13 2 v14) (fun σ15 => zbu (fX12_put σ15 4 0) (fun σ16 => zbu (fX12_put σ16 1 0) (fun σ17 => g σ17 v11))))))) Q := by
  have ef : μ.1 3 1 = σ.1 36 1 := hF
  have hf : zr 0 255 (σ.1 36 1) := h.b (by decide)
  have hwo : zr 0 255 (((v <<< ((1 : Int32) &&& 31)) &&& 255) ||| 1) ∧ zr 0 1 (v >>> ((7 : Int32) &&& 31)) := by
    obtain ⟨i, ei⟩ := z_byteF rv
    obtain ⟨m, em⟩ := z_bit1 (z_r1 (σ.1 36 1))
    rw [ei]
    exact ⟨(v_rotf6 i m).1, (v_rotf6 i m).2⟩
  have cM := p_rotM6 (μ := μ) (v := v)
  rw [ef] at cM
  refine zp2_bil p_rotC6 (fun s w1 e => zp2_bir cM (fun t w2 e' => ?_))
  cases e
  cases e'
  obtain ⟨rw1, ro⟩ := hwo
  generalize ((v <<< ((1 : Int32) &&& 31)) &&& 255) ||| 1 = w at rw1
  refine zp2_bur p_by (fun t2 e2 => ?_)
  subst e2
  refine zp2_bir p_even (fun t3 v3 e3 => ?_)
  cases e3
  refine zp2_bur p_put (fun t2 e2 => ?_)
  subst e2
  refine zp2_bur p_put (fun t2 e2 => ?_)
  subst e2
  refine zp2_bur p_put (fun t2 e2 => ?_)
  have eF : pt (pt (pt (gby (pt (σ.1 36 1) 0 (if v >>> ((7 : Int32) &&& 31) = 1 then 1 else 0)) w) 2 (gev w)) 4 0) 1 0 = crot w (v >>> ((7 : Int32) &&& 31)) := by
    rw [← v_rt rw1 ro, fl_of hf, pt_0, fl_by, pt_2, pt_4, pt_1]
    rfl
  rw [eF] at e2
  subst e2
  have rF : zr 0 255 (crot w (v >>> ((7 : Int32) &&& 31))) := by rw [← v_rt rw1 ro]; exact zfl_r _ _ _ _ _ _ _ _
  exact k _ _ w ((h.onC hI (Or.inl rfl) (zrg_b (Or.inl (by decide)) rF)).onM hI (Or.inl rfl)) rfl (zQ.wi zQ.rf rfl) (zQ.wi zQ.rf rfl) rw1
theorem t_rot7 (hI : zIoK I) (h : zTT I σ μ) (hF : zF σ μ) {v : Int32} (rv : zr 0 255 v) {α β : Type} {Q : α → β → Prop} {f : zSt → Int32 → Option α} {g : zSt → Int32 → Option β} (k : ∀ s t w, zTT I s t → zF s t → zQ [] [(36, 1, 1)] [] [] σ s → zQ [] [(3, 1, 1)] [] [] μ t → zr 0 255 w → zp2 (f s w) (g t w) Q) : zp2 (zbi (fX5_turn σ 7 v) f) (zbi (fX12_turned μ 7 v) (fun σ10 v11 => zbu (fX12_by σ10 v11) (fun σ12 => zbi (fX12_isEven σ12 v11) (fun σ13 v14 => zbu (fX12_put σ13 2 v14) (fun σ15 => zbu (fX12_put σ15 4 0) (fun σ16 => zbu (fX12_put σ16 1 0) (fun σ17 => g σ17 v11))))))) Q := by
  have ef : μ.1 3 1 = σ.1 36 1 := hF
  have hf : zr 0 255 (σ.1 36 1) := h.b (by decide)
  have hwo : zr 0 255 ((v >>> ((1 : Int32) &&& 31)) ||| (0 <<< ((7 : Int32) &&& 31))) ∧ zr 0 1 (v &&& 1) := by
    obtain ⟨i, ei⟩ := z_byteF rv
    obtain ⟨m, em⟩ := z_bit1 (z_r1 (σ.1 36 1))
    rw [ei]
    exact ⟨(v_rotf7 i m).1, (v_rotf7 i m).2⟩
  have cM := p_rotM7 (μ := μ) (v := v)
  rw [ef] at cM
  refine zp2_bil p_rotC7 (fun s w1 e => zp2_bir cM (fun t w2 e' => ?_))
  cases e
  cases e'
  obtain ⟨rw1, ro⟩ := hwo
  generalize (v >>> ((1 : Int32) &&& 31)) ||| (0 <<< ((7 : Int32) &&& 31)) = w at rw1
  refine zp2_bur p_by (fun t2 e2 => ?_)
  subst e2
  refine zp2_bir p_even (fun t3 v3 e3 => ?_)
  cases e3
  refine zp2_bur p_put (fun t2 e2 => ?_)
  subst e2
  refine zp2_bur p_put (fun t2 e2 => ?_)
  subst e2
  refine zp2_bur p_put (fun t2 e2 => ?_)
  have eF : pt (pt (pt (gby (pt (σ.1 36 1) 0 (if v &&& 1 = 1 then 1 else 0)) w) 2 (gev w)) 4 0) 1 0 = crot w (v &&& 1) := by
    rw [← v_rt rw1 ro, fl_of hf, pt_0, fl_by, pt_2, pt_4, pt_1]
    rfl
  rw [eF] at e2
  subst e2
  have rF : zr 0 255 (crot w (v &&& 1)) := by rw [← v_rt rw1 ro]; exact zfl_r _ _ _ _ _ _ _ _
  exact k _ _ w ((h.onC hI (Or.inl rfl) (zrg_b (Or.inl (by decide)) rF)).onM hI (Or.inl rfl)) rfl (zQ.wi zQ.rf rfl) (zQ.wi zQ.rf rfl) rw1
theorem e_tC {op v : Int32} (hx : op >>> ((6 : Int32) &&& 31) = 0) : fX5_turned σ op v = fX5_turn σ ((op >>> ((3 : Int32) &&& 31)) &&& 7) v := by
  unfold fX5_turned
  rw [hx]
  have e : ∀ y, (if (0 : Int32) = 0 then zbi (fX5_turn σ y v) (fun σ2 v3 => some (σ2, v3)) else if (0 : Int32) = 2 then some (σ, v &&& (((1 : Int32) <<< (y &&& 31)) ^^^ (-1))) else some (σ, v ||| ((1 : Int32) <<< (y &&& 31)))) = fX5_turn σ y v := fun y => by
    rw [if_pos rfl]
    cases fX5_turn σ y v with
    | none => rfl
    | some r => rfl
  exact e _
/-- rotations, RES and SET -/
theorem t_tk (hI : zIoK I) (h : zTT I σ μ) (hF : zF σ μ) {op v : Int32} (hx : zr 0 3 (op >>> ((6 : Int32) &&& 31))) (hx1 : ¬ op >>> ((6 : Int32) &&& 31) = 1) (rv : zr 0 255 v) {α β : Type} {Q : α → β → Prop} {f : zSt → Int32 → Option α} {g : zSt → Int32 → Option β} (k : ∀ s t w, zTT I s t → zF s t → zQ [] [(36, 1, 1)] [] [] σ s → zQ [] [(3, 1, 1)] [] [] μ t → zr 0 255 w → zp2 (f s w) (g t w) Q) : zp2 (zbi (fX5_turned σ op v) f) (if op >>> ((6 : Int32) &&& 31) = 0 then zbi (fX12_turned μ ((op >>> ((3 : Int32) &&& 31)) &&& 7) v) (fun σ10 v11 => zbu (fX12_by σ10 v11) (fun σ12 => zbi (fX12_isEven σ12 v11) (fun σ13 v14 => zbu (fX12_put σ13 2 v14) (fun σ15 => zbu (fX12_put σ15 4 0) (fun σ16 => zbu (fX12_put σ16 1 0) (fun σ17 => g σ17 v11)))))) else if op >>> ((6 : Int32) &&& 31) = 2 then g μ (v &&& ((1 <<< (((op >>> ((3 : Int32) &&& 31)) &&& 7) &&& 31)) ^^^ (-1))) else g μ (v ||| (1 <<< (((op >>> ((3 : Int32) &&& 31)) &&& 7) &&& 31)))) Q := by
  have hy : zr 0 7 ((op >>> ((3 : Int32) &&& 31)) &&& 7) := z_r7 _
  by_cases x0 : op >>> ((6 : Int32) &&& 31) = 0
  · rw [e_tC x0, if_pos x0]
    generalize (op >>> ((3 : Int32) &&& 31)) &&& 7 = y at hy
    rcases zr_hd (c := 0) hy rfl with e | hy
    · subst e; exact t_rot0 hI h hF rv k
    rcases zr_hd (c := 1) hy rfl with e | hy
    · subst e; exact t_rot1 hI h hF rv k
    rcases zr_hd (c := 2) hy rfl with e | hy
    · subst e; exact t_rot2 hI h hF rv k
    rcases zr_hd (c := 3) hy rfl with e | hy
    · subst e; exact t_rot3 hI h hF rv k
    rcases zr_hd (c := 4) hy rfl with e | hy
    · subst e; exact t_rot4 hI h hF rv k
    rcases zr_hd (c := 5) hy rfl with e | hy
    · subst e; exact t_rot5 hI h hF rv k
    rcases zr_hd (c := 6) hy rfl with e | hy
    · subst e; exact t_rot6 hI h hF rv k
    rcases zr_hd (c := 7) hy rfl with e | hy
    · subst e; exact t_rot7 hI h hF rv k
    exact zr_no9 hy (by decide)
  · rw [if_neg x0]
    unfold fX5_turned
    by_cases x2 : op >>> ((6 : Int32) &&& 31) = 2
    · rw [if_pos x2]
      refine zp2_bil (P := fun r => r = (σ, v &&& ((1 <<< (((op >>> ((3 : Int32) &&& 31)) &&& 7) &&& 31)) ^^^ (-1)))) (zpc_bv (fun y ey => zpc_if (fun q => absurd q x0) (fun _ => zpc_if (fun _ => zpc_some (by rw [ey])) (fun q => absurd x2 q)))) (fun s w e => ?_)
      cases e
      exact k _ _ _ h hF zQ.rf zQ.rf (zr_andl (lo := 0) (hi := 255) rv (by decide))
    · rw [if_neg x2]
      refine zp2_bil (P := fun r => r = (σ, v ||| (1 <<< (((op >>> ((3 : Int32) &&& 31)) &&& 7) &&& 31)))) (zpc_bv (fun y ey => zpc_if (fun q => absurd q x0) (fun _ => zpc_if (fun q => absurd q x2) (fun _ => zpc_some (by rw [ey]))))) (fun s w e => ?_)
      cases e
      exact k _ _ _ h hF zQ.rf zQ.rf (z_ob rv (z_1y hy))
theorem t_turns (hI : zIoK I) (h : zTT I σ μ) (hF : zF σ μ) (hW : zWzz σ μ) (hp : zPlc σ μ) (h32 : μ.1 0 32 = 0) {op : Int32} (hx : zr 0 3 (op >>> ((6 : Int32) &&& 31))) : zp2 (fX5_turns σ op) (fX12_turn μ op) (zEnq I) := by
  have hz : zr 0 7 (op &&& 7) := z_r7 _
  have hy : zr 0 7 ((op >>> ((3 : Int32) &&& 31)) &&& 7) := z_r7 _
  unfold fX5_turns fX12_turn
  refine zp2_bvl (fun z ez => zp2_bvr (fun y ey => zp2_ifr (fun _ => ?_) (fun q => absurd h32 q)))
  rw [← ez] at hz ⊢
  rw [← ey] at hy
  unfold fX12_turn_23
  refine zp2_sm (t_one h hp hz) (fun v rv => zp2_bvr (fun x ex => ?_))
  by_cases x1 : op >>> ((6 : Int32) &&& 31) = 1
  · have x1' : x = 1 := ex.trans x1
    refine zp2_ifl (fun _ => zp2_ifr (fun _ => ?_) (fun q => absurd x1' q)) (fun q => absurd x1 q)
    refine zp2_bvr (fun w ew => zp2_bur p_by' (fun t2 e2 => ?_))
    subst e2
    have rw1 : zr 0 255 w := by rw [ew]; exact zr_andl (lo := 0) (hi := 255) rv (by decide)
    unfold fX5_turns_47 fX5_turns_63
    intro r r' er er'
    have em := p_bitM (μ := μ) (f := gby (μ.1 3 1) w) (z := z) (v := v) (w := w) r' er'
    have hf : zr 0 255 (σ.1 36 1) := h.b (by decide)
    have r20 : zr 0 255 (σ.1 36 20 >>> ((8 : Int32) &&& 31)) := z_hi (h.w (j := 20) (by decide) (by decide))
    have ef : μ.1 3 1 = σ.1 36 1 := hF
    have ew20 : μ.1 3 20 = σ.1 36 20 := hW
    have hs : zr 0 255 (if z = 6 then σ.1 36 20 >>> ((8 : Int32) &&& 31) else v) := by
      by_cases q : z = 6
      · rw [if_pos q]; exact r20
      · rw [if_neg q]; exact rv
    rw [ef, ew20, v_bit hf rw1 hs] at em
    have cC : zpc (if z = 6 then zck (zin 20 29) (zbu (fX5_askBit σ ((op >>> ((3 : Int32) &&& 31)) &&& 7) v ((zgi σ 36 (20 : Int32).toNatClampNeg) >>> ((8 : Int32) &&& 31))) (fun σ1 => if z = 6 then some (σ1, (12 : Int32)) else some (σ1, 8))) else zbu (fX5_askBit σ ((op >>> ((3 : Int32) &&& 31)) &&& 7) v v) (fun σ1 => if z = 6 then some (σ1, (12 : Int32)) else some (σ1, 8))) (fun r => r = (zsi σ 36 1 (cbit (σ.1 36 1) w (if z = 6 then σ.1 36 20 >>> ((8 : Int32) &&& 31) else v)), if z = 6 then 12 else 8)) := by
      refine zpc_if (fun q => zpc_ck (zpc_bu p_bitC (fun s e => zpc_if (fun _ => zpc_some ?_) (fun n => absurd q n)))) (fun q => zpc_bu p_bitC (fun s e => zpc_if (fun n => absurd n q) (fun _ => zpc_some ?_)))
      · rw [e, if_pos q, if_pos q, ew, ey]; rfl
      · rw [e, if_neg q, if_neg q, ew, ey]
    rw [cC r er, em]
    exact ⟨(h.onC hI (Or.inl rfl) (zrg_b (Or.inl (by decide)) (r_bit hf rw1 hs))).onM hI (Or.inl rfl), rfl, hW, rfl⟩
  · have x1' : ¬ x = 1 := fun q => x1 (ex.symm.trans q)
    refine zp2_ifl (fun q => absurd q x1) (fun _ => zp2_ifr (fun q => absurd q x1') (fun _ => ?_))
    rw [ex, ey]
    unfold fX12_turn_191
    refine t_tk hI h hF hx x1 rv (g := fun t w => fX12_turn_193 t z w) (fun s t w h1 f1 qc qm rw1 => ?_)
    unfold fX12_turn_193 fX12_turn_219 fX5_turns_88
    refine zp2_buu (t_putOne hI h1 (hp.of (qc.1 7 5 rfl) (qc.1 36 6 rfl) (qc.1 36 7 rfl) (qm.1 3 20 rfl) (qm.1 0 32 rfl)) hz (z_m255 rw1) rw1) (fun s2 t2 q => zp2_bvr (fun t3 g3 => ?_))
    obtain ⟨h2, qc2, qm2⟩ := q
    subst g3
    have h3 : zTT I s2 (zsi t2 0 33 w) := h2.m33 hI
    have f3 : zF s2 (zsi t2 0 33 w) := f1.of (qc2.1 36 1 rfl) (qm2.1 3 1 rfl)
    have w3 : zWzz s2 (zsi t2 0 33 w) := hW.of ((qc2.1 36 20 rfl).trans (qc.1 36 20 rfl)) ((qm2.1 3 20 rfl).trans (qm.1 3 20 rfl))
    exact zp2_if (fun _ => zp2_some ⟨h3, f3, w3, rfl⟩) (fun _ => zp2_some ⟨h3, f3, w3, rfl⟩)
end ZCB
end ZJN17
section ZJN18
/-! SIXTEEN BITS WITH CARRY -/
theorem z_oad {x y m : Int32} : m &&& (x ||| y) = (m &&& x) ||| (m &&& y) := by
  refine Int32.toBitVec_inj.1 ?_
  rw [Int32.toBitVec_and, Int32.toBitVec_or, Int32.toBitVec_or, Int32.toBitVec_and, Int32.toBitVec_and]
  refine BitVec.eq_of_getLsbD_eq (fun i hi => ?_)
  rw [BitVec.getLsbD_and, BitVec.getLsbD_or, BitVec.getLsbD_or, BitVec.getLsbD_and, BitVec.getLsbD_and]
  cases x.toBitVec.getLsbD i <;> cases y.toBitVec.getLsbD i <;> cases m.toBitVec.getLsbD i <;> rfl
theorem zbt_l5 : ∀ i, i < 32 → ((32 : Int32).toBitVec.getLsbD i = decide (i = 5)) := by decide
theorem zbt_m5 {x : Int32} : x &&& 32 = bif zbt 5 x then 32 else 0 := by
  refine Int32.toBitVec_inj.1 (BitVec.eq_of_getLsbD_eq (fun i hi => ?_))
  rw [Int32.toBitVec_and, BitVec.getLsbD_and, zbt_l5 i hi]
  unfold zbt
  by_cases q : i = 5
  · subst q
    cases h : x.toBitVec.getLsbD 5 <;> rfl
  · rw [decide_eq_false q, Bool.and_false]
    cases h : x.toBitVec.getLsbD 5
    · exact (BitVec.getLsbD_zero (w := 32)).symm
    · exact ((zbt_l5 i hi).trans (decide_eq_false q)).symm
theorem zbt_l3 : ∀ i, i < 32 → ((8 : Int32).toBitVec.getLsbD i = decide (i = 3)) := by decide
theorem zbt_m3 {x : Int32} : x &&& 8 = bif zbt 3 x then 8 else 0 := by
  refine Int32.toBitVec_inj.1 (BitVec.eq_of_getLsbD_eq (fun i hi => ?_))
  rw [Int32.toBitVec_and, BitVec.getLsbD_and, zbt_l3 i hi]
  unfold zbt
  by_cases q : i = 3
  · subst q
    cases h : x.toBitVec.getLsbD 3 <;> rfl
  · rw [decide_eq_false q, Bool.and_false]
    cases h : x.toBitVec.getLsbD 3
    · exact (BitVec.getLsbD_zero (w := 32)).symm
    · exact ((zbt_l3 i hi).trans (decide_eq_false q)).symm
theorem z_d5 {x : Int32} : d5 x = zbt 5 x := by
  unfold d5
  rw [zbt_m5]
  cases zbt 5 x <;> rfl
theorem z_d3 {x : Int32} : d3 x = zbt 3 x := by
  unfold d3
  rw [zbt_m3]
  cases zbt 3 x <;> rfl
theorem z_168 {v : Int32} : (v >>> ((8 : Int32) &&& 31)) &&& 168 = ((bif zbt 15 v then 128 else 0) ||| (bif d5 (v >>> ((8 : Int32) &&& 31)) then 32 else 0)) ||| (bif d3 (v >>> ((8 : Int32) &&& 31)) then 8 else 0) := by
  rw [show (168 : Int32) = (128 ||| 32) ||| 8 by decide, z_oad, z_oad, zbt_m7, zbt_m5, zbt_m3, zbt_sar (k := 7) (n := 8) rfl (by decide), z_d5, z_d3]
theorem z_s15 {v : Int32} : bc (if v &&& 32768 = 0 then 0 else 1) = zbt 15 v := by
  rw [zbt_m15]
  cases zbt 15 v <;> rfl
theorem z_t16 {x : Int32} (h : zr 0 65535 x) : (x.toInt16.toInt32).toInt = if x.toInt < 32768 then x.toInt else x.toInt - 65536 := by
  have h0 := h.1
  have h1 := h.2
  rw [Int16.toInt_toInt32, Int32.toInt_toInt16]
  by_cases q : x.toInt < 32768
  · rw [if_pos q]
    exact Int.bmod_eq_of_le (by omega) (by omega)
  · rw [if_neg q]
    rw [Int.bmod_def, if_neg (by omega)]
    omega
theorem z_r16s {x : Int32} (h : zr 0 65535 x) : zr (-32768) 32767 (x.toInt16.toInt32) := by
  have e := z_t16 h
  have h0 := h.1
  have h1 := h.2
  by_cases q : x.toInt < 32768
  · rw [if_pos q] at e; exact ⟨by omega, by omega⟩
  · rw [if_neg q] at e; exact ⟨by omega, by omega⟩
noncomputable def oW (s : Int32) : Int32 := if s < (-32768) then 1 else if s ≤ 32767 then 0 else 1
noncomputable def cW (v : Int32) : Int32 := if v < 0 then 1 else if v ≤ 65535 then 0 else 1
theorem oW_v {s : Int32} {k : Int} (e : s.toInt = k) : ((k < -32768 ∨ 32767 < k) ∧ bc (oW s) = true) ∨ ((-32768 ≤ k ∧ k ≤ 32767) ∧ bc (oW s) = false) := by
  have c1 : (-32768 : Int32).toInt = -32768 := rfl
  have c2 : (32767 : Int32).toInt = 32767 := rfl
  unfold oW
  by_cases q : s < (-32768)
  · have q1 := Int32.lt_iff_toInt_lt.mp q
    exact Or.inl ⟨Or.inl (by omega), by rw [if_pos q]; rfl⟩
  · have q1 := Int32.le_iff_toInt_le.mp (z_nlt q)
    rw [if_neg q]
    by_cases r : s ≤ 32767
    · have r1 := Int32.le_iff_toInt_le.mp r
      exact Or.inr ⟨⟨by omega, by omega⟩, by rw [if_pos r]; rfl⟩
    · have r1 := Int32.lt_iff_toInt_lt.mp (z_nle r)
      exact Or.inl ⟨Or.inr (by omega), by rw [if_neg r]; rfl⟩
theorem cW_v {v : Int32} : ((v.toInt < 0 ∨ 65535 < v.toInt) ∧ bc (cW v) = true) ∨ ((0 ≤ v.toInt ∧ v.toInt ≤ 65535) ∧ bc (cW v) = false) := by
  have c1 : (0 : Int32).toInt = 0 := rfl
  have c2 : (65535 : Int32).toInt = 65535 := rfl
  unfold cW
  by_cases q : v < 0
  · have q1 := Int32.lt_iff_toInt_lt.mp q
    exact Or.inl ⟨Or.inl (by omega), by rw [if_pos q]; rfl⟩
  · have q1 := Int32.le_iff_toInt_le.mp (z_nlt q)
    rw [if_neg q]
    by_cases r : v ≤ 65535
    · have r1 := Int32.le_iff_toInt_le.mp r
      exact Or.inr ⟨⟨by omega, by omega⟩, by rw [if_pos r]; rfl⟩
    · have r1 := Int32.lt_iff_toInt_lt.mp (z_nle r)
      exact Or.inl ⟨Or.inr (by omega), by rw [if_neg r]; rfl⟩
theorem v_c16 {v : Int32} (h : zr (-65536) 131071 v) : (v >>> ((16 : Int32) &&& 31)) &&& 1 = bif bc (cW v) then 1 else 0 := by
  rw [zbt_m0, zbt_sar (n := 16) rfl (by decide), zbt_n]
  have h0 := h.1
  have h1 := h.2
  have tv := z_tc v
  rcases cW_v (v := v) with ⟨k, e⟩ | ⟨k, e⟩
  · rw [e, decide_eq_true (show v.toBitVec.toNat / 2 ^ (16 + 0) % 2 = 1 by omega)]
  · rw [e, decide_eq_false (show ¬ v.toBitVec.toNat / 2 ^ (16 + 0) % 2 = 1 by omega)]
theorem v_h12S {a b v X : Int32} {c : Int} (ha : zr 0 65535 a) (hb : zr 0 65535 b) (hv : v.toInt = a.toInt - b.toInt - c) (hc : 0 ≤ c ∧ c ≤ 1) (hX : X = (a ^^^ b) ^^^ v) {K : Prop} {d : Decidable K} (hK : K ↔ 0 ≤ a.toInt % 4096 - b.toInt % 4096 - c) : (X >>> ((8 : Int32) &&& 31)) &&& 16 = bif bc (@ite _ K d 0 1) then 16 else 0 := by
  rw [zbt_m4, zbt_sar (n := 8) rfl (by decide), hX, zbt_xor, zbt_xor, zbt_n, zbt_n, zbt_n]
  have a0 := ha.1
  have a1 := ha.2
  have b0 := hb.1
  have b1 := hb.2
  have ta := z_tc a
  have tb := z_tc b
  have tv := z_tc v
  show (bif (decide (a.toBitVec.toNat / 4096 % 2 = 1) ^^ decide (b.toBitVec.toNat / 4096 % 2 = 1)) ^^ decide (v.toBitVec.toNat / 4096 % 2 = 1) then (16 : Int32) else 0) = _
  by_cases k : K
  · have k1 := hK.mp k
    rw [if_pos k]
    by_cases p : a.toBitVec.toNat / 4096 % 2 = 1 <;> by_cases q : b.toBitVec.toNat / 4096 % 2 = 1 <;> by_cases r : v.toBitVec.toNat / 4096 % 2 = 1 <;> first | (exfalso; omega) | skip
    all_goals (simp only [p, q, r, decide_true, decide_false]; rfl)
  · have k1 : ¬ 0 ≤ a.toInt % 4096 - b.toInt % 4096 - c := fun q => k (hK.mpr q)
    rw [if_neg k]
    by_cases p : a.toBitVec.toNat / 4096 % 2 = 1 <;> by_cases q : b.toBitVec.toNat / 4096 % 2 = 1 <;> by_cases r : v.toBitVec.toNat / 4096 % 2 = 1 <;> first | (exfalso; omega) | skip
    all_goals (simp only [p, q, r, decide_true, decide_false]; rfl)
theorem v_oWA {a b c v : Int32} (ha : zr 0 65535 a) (hb : zr 0 65535 b) (hc : zr 0 1 c) (hv : v.toInt = a.toInt + b.toInt + c.toInt) : (if (((a ^^^ b) ^^^ (-1)) &&& (a ^^^ v)) &&& 32768 = 0 then (0 : Int32) else 4) = bif bc (oW ((a.toInt16.toInt32 + b.toInt16.toInt32) + c)) then 4 else 0 := by
  have sa := z_t16 ha
  have sb := z_t16 hb
  have ra := z_r16s ha
  have rb := z_r16s hb
  have e1 : (a.toInt16.toInt32 + b.toInt16.toInt32).toInt = a.toInt16.toInt32.toInt + b.toInt16.toInt32.toInt := z_tadd ra rb (by decide)
  have e2 : ((a.toInt16.toInt32 + b.toInt16.toInt32) + c).toInt = (a.toInt16.toInt32 + b.toInt16.toInt32).toInt + c.toInt := z_tadd (zr_add (lo := -65536) (hi := 65535) ra rb (by decide)) hc (by decide)
  have ov := oW_v e2
  have a0 := ha.1
  have a1 := ha.2
  have b0 := hb.1
  have b1 := hb.2
  have c0 := hc.1
  have c1 := hc.2
  have ta := z_tc a
  have tb := z_tc b
  have tv := z_tc v
  have x : (((a ^^^ b) ^^^ (-1)) &&& (a ^^^ v)) &&& 32768 = bif ((((zbt 15 a ^^ zbt 15 b) ^^ true) && (zbt 15 a ^^ zbt 15 v))) then 32768 else 0 := by
    rw [zbt_m15, zbt_and, zbt_xor, zbt_xor, zbt_xor]
    rfl
  rw [x, zbt_n, zbt_n, zbt_n]
  have n15 : (2 : Nat) ^ 15 = 32768 := by decide
  rw [n15]
  have fin : ∀ p q : Bool, p = q → (if (bif p then (32768 : Int32) else 0) = 0 then (0 : Int32) else 4) = bif q then 4 else 0 := by decide
  refine fin _ _ ?_
  by_cases qa : a.toInt < 32768 <;> by_cases qb : b.toInt < 32768 <;> (first | rw [if_pos qa] at sa | rw [if_neg qa] at sa) <;> (first | rw [if_pos qb] at sb | rw [if_neg qb] at sb) <;> rcases ov with ⟨k, e⟩ | ⟨k, e⟩ <;> rw [e] <;> by_cases p : a.toBitVec.toNat / 32768 % 2 = 1 <;> by_cases q : b.toBitVec.toNat / 32768 % 2 = 1 <;> by_cases r : v.toBitVec.toNat / 32768 % 2 = 1 <;> first | (exfalso; omega) | (simp only [p, q, r, decide_true, decide_false]; rfl)
theorem v_oWS {a b c v : Int32} (ha : zr 0 65535 a) (hb : zr 0 65535 b) (hc : zr 0 1 c) (hv : v.toInt = a.toInt - b.toInt - c.toInt) : (if ((a ^^^ b) &&& (a ^^^ v)) &&& 32768 = 0 then (0 : Int32) else 4) = bif bc (oW ((a.toInt16.toInt32 - b.toInt16.toInt32) - c)) then 4 else 0 := by
  have sa := z_t16 ha
  have sb := z_t16 hb
  have ra := z_r16s ha
  have rb := z_r16s hb
  have e1 : (a.toInt16.toInt32 - b.toInt16.toInt32).toInt = a.toInt16.toInt32.toInt - b.toInt16.toInt32.toInt := z_tsub ra rb (by decide)
  have e2 : ((a.toInt16.toInt32 - b.toInt16.toInt32) - c).toInt = (a.toInt16.toInt32 - b.toInt16.toInt32).toInt - c.toInt := z_tsub (zr_sub (lo := -65536) (hi := 65535) ra rb (by decide)) hc (by decide)
  have ov := oW_v e2
  have a0 := ha.1
  have a1 := ha.2
  have b0 := hb.1
  have b1 := hb.2
  have c0 := hc.1
  have c1 := hc.2
  have ta := z_tc a
  have tb := z_tc b
  have tv := z_tc v
  have x : ((a ^^^ b) &&& (a ^^^ v)) &&& 32768 = bif ((zbt 15 a ^^ zbt 15 b) && (zbt 15 a ^^ zbt 15 v)) then 32768 else 0 := by
    rw [zbt_m15, zbt_and, zbt_xor, zbt_xor]
  rw [x, zbt_n, zbt_n, zbt_n]
  have n15 : (2 : Nat) ^ 15 = 32768 := by decide
  rw [n15]
  have fin : ∀ p q : Bool, p = q → (if (bif p then (32768 : Int32) else 0) = 0 then (0 : Int32) else 4) = bif q then 4 else 0 := by decide
  refine fin _ _ ?_
  by_cases qa : a.toInt < 32768 <;> by_cases qb : b.toInt < 32768 <;> (first | rw [if_pos qa] at sa | rw [if_neg qa] at sa) <;> (first | rw [if_pos qb] at sb | rw [if_neg qb] at sb) <;> rcases ov with ⟨k, e⟩ | ⟨k, e⟩ <;> rw [e] <;> by_cases p : a.toBitVec.toNat / 32768 % 2 = 1 <;> by_cases q : b.toBitVec.toNat / 32768 % 2 = 1 <;> by_cases r : v.toBitVec.toNat / 32768 % 2 = 1 <;> first | (exfalso; omega) | (simp only [p, q, r, decide_true, decide_false]; rfl)
noncomputable def mW (f s z x h c o n : Int32) : Int32 := pt (pt (pt (pt (gxy (pt (pt f 7 s) 6 z) x) 4 h) 0 c) 2 o) 1 n
theorem fl_mW {f s z x h c o n : Int32} (hf : zr 0 255 f) : mW f s z x h c o n = zfl (bc s) (bc z) (d5 x) (bc h) (d3 x) (bc o) (bc n) (bc c) := by
  unfold mW
  rw [fl_of hf, pt_7, pt_6, fl_xy, pt_4, pt_0, pt_2, pt_1]
  rfl
theorem v_wB : ∀ s z x h y o n c : Bool, zfl s z x h y o n c = (((((((bif s then 128 else 0) ||| (bif x then 32 else 0)) ||| (bif y then 8 else 0)) ||| (bif z then 64 else 0)) ||| (bif h then 16 else 0)) ||| (bif c then 1 else 0)) ||| ((bif o then 4 else 0) ||| (bif n then 2 else 0)) : Int32) := by decide
noncomputable def cWd (a b v : Int32) : Int32 := ((((v >>> ((8 : Int32) &&& 31)) &&& 168) ||| (if v &&& 65535 = 0 then 64 else 0)) ||| ((((a ^^^ b) ^^^ v) >>> ((8 : Int32) &&& 31)) &&& 16)) ||| ((v >>> ((16 : Int32) &&& 31)) &&& 1)
theorem z_64 {v : Int32} : (if v &&& 65535 = 0 then (64 : Int32) else 0) = bif bc (if v &&& 65535 = 0 then 1 else 0) then 64 else 0 := by
  by_cases q : v &&& 65535 = 0
  · rw [if_pos q, if_pos q]; rfl
  · rw [if_neg q, if_neg q]; rfl
theorem zp2_burp {α β : Type} {o : Option α} {p : Option zSt} {g : zSt → Option β} {P : α → zSt → Prop} {Q : α → β → Prop} (h : zp2 o p P) (k : ∀ a t, P a t → zp2 (some a) (g t) Q) : zp2 o (zbu p g) Q := by
  intro a b ea eb
  cases e : p with
  | none => rw [e] at eb; cases eb
  | some r =>
    rw [e] at eb
    exact k a r (h a r ea e) a b rfl eb
/-- the class's putWide, against the reference's hlTo -/
theorem zp2_bulp2 {α β : Type} {p : Option zSt} {f : zSt → Option α} {g : zSt → Option β} {P : zSt → zSt → Prop} {Q : α → β → Prop} {F : zSt → Option zSt} {G : zSt → zSt} (H : Option zSt) {L : Option zSt} (eL : L = zck (zin 20 29) (zbu H F)) (h : zp2 H p P) (cP : ∀ s, zpc (F s) (fun r => r = G s)) (k : ∀ s t, P s t → zp2 (f (G s)) (g t) Q) : zp2 (zbu L f) (zbu p g) Q := by
  rw [eL]
  intro x y ex ey
  cases z : zin 20 29 with
  | false => rw [z] at ex; cases ex
  | true =>
    rw [z] at ex
    have ex : zbu (zbu H F) f = some x := ex
    cases e1 : H with
    | none => rw [e1] at ex; cases ex
    | some s =>
      rw [e1] at ex
      have ex : zbu (F s) f = some x := ex
      cases e2 : F s with
      | none => rw [e2] at ex; cases ex
      | some u =>
        rw [e2] at ex
        have eu := cP s u e2
        subst eu
        cases e3 : p with
        | none => rw [e3] at ey; cases ey
        | some t =>
          rw [e3] at ey
          exact k s t (h s t e1 e3) x y ex ey
section ZWD
variable {I : zSt → zSt → Prop} {σ μ : zSt}
theorem p_wdM {f n v s c : Int32} {K : Prop} {d : Decidable K} {x2 x7 : Int32} {L : Option zSt} (eL : L = if v &&& 32768 = 0 then fX12_words_104 μ x2 f s c v x7 0 7 else fX12_words_104 μ x2 f s c v x7 1 7) (hK : (x2 = 0 ∧ n = 1 ∧ (K ↔ 0 ≤ ((f &&& 4095) - (s &&& 4095)) - c)) ∨ (¬ x2 = 0 ∧ n = 0 ∧ (K ↔ ((f &&& 4095) + (s &&& 4095)) + c ≤ 4095))) : zpc L (fun r => r = zsi μ 3 1 (mW (μ.1 3 1) (if v &&& 32768 = 0 then 0 else 1) (if v &&& 65535 = 0 then 1 else 0) (v >>> ((8 : Int32) &&& 31)) (@ite _ K d 0 1) (cW v) (oW x7) n)) := by
  rw [eL]
  refine zpc_jx (K := fun g => fX12_words_104 μ x2 f s c v x7 g 7) (a := 0) (b := 1) rfl rfl (fun g1 e1 => ?_)
  unfold fX12_words_104
  refine zpc_bu p_put' (fun t et => ?_)
  subst et
  refine zpc_jx (K := fun g => fX12_words_123 (zsi μ 3 1 (pt (μ.1 3 1) 7 g1)) x2 f s c v x7 g 6) (a := 1) (b := 0) rfl rfl (fun g2 e2 => ?_)
  unfold fX12_words_123
  refine zpc_bu p_put (fun t et => ?_)
  subst et
  refine zpc_bu p_xy (fun t et => ?_)
  subst et
  have nx : ∀ g3, zpc (fX12_words_193 (zsi μ 3 1 (gxy (pt (pt (μ.1 3 1) 7 g1) 6 g2) (v >>> ((8 : Int32) &&& 31)))) x2 v x7 g3 4) (fun r => r = zsi μ 3 1 (mW (μ.1 3 1) g1 g2 (v >>> ((8 : Int32) &&& 31)) g3 (cW v) (oW x7) n)) := fun g3 => by
    unfold fX12_words_193 fX12_words_210
    refine zpc_bu p_put (fun t et => ?_)
    subst et
    refine zpc_j3 (K := fun g => fX12_words_215 (zsi μ 3 1 (pt (gxy (pt (pt (μ.1 3 1) 7 g1) 6 g2) (v >>> ((8 : Int32) &&& 31))) 4 g3)) x2 x7 g 0) (fun g4 e4 => ?_)
    have e4 : g4 = cW v := e4
    unfold fX12_words_215 fX12_words_236
    refine zpc_bu p_put (fun t et => ?_)
    subst et
    refine zpc_j3 (K := fun g => fX12_words_241 (zsi μ 3 1 (pt (pt (gxy (pt (pt (μ.1 3 1) 7 g1) 6 g2) (v >>> ((8 : Int32) &&& 31))) 4 g3) 0 g4)) x2 g 2) (fun g5 e5 => ?_)
    have e5 : g5 = oW x7 := e5
    unfold fX12_words_241 fX12_words_255
    refine zpc_bu p_put (fun t et => ?_)
    subst et
    rcases hK with ⟨x, n1, _⟩ | ⟨x, n1, _⟩
    · refine zpc_if (fun _ => zpc_bu p_put (fun t et => zpc_some ?_)) (fun q => absurd x q)
      rw [et, e4, e5, n1]; rfl
    · refine zpc_if (fun q => absurd q x) (fun _ => zpc_bu p_put (fun t et => zpc_some ?_))
      rw [et, e4, e5, n1]; rfl
  rw [← e1, ← e2]
  rcases hK with ⟨x, n1, k⟩ | ⟨x, n1, k⟩
  · refine zpc_if (fun _ => zpc_if (fun q => ?_) (fun q => ?_)) (fun q => absurd x q)
    · rw [if_pos (k.mpr q)]; exact nx 0
    · rw [if_neg (fun r => q (k.mp r))]; exact nx 1
  · refine zpc_if (fun q => absurd q x) (fun _ => zpc_if (fun q => ?_) (fun q => ?_))
    · rw [if_pos (k.mpr q)]; exact nx 0
    · rw [if_neg (fun r => q (k.mp r))]; exact nx 1
theorem t_wdA (hI : zIoK I) (h : zTT I σ μ) (hF : zF σ μ) {p : Int32} (hp : zr 0 3 p) : zp2 (fX5_addPairAndCarry σ p) (fX12_more_234 μ 1 p) (zEnq I) := by
  have ef : μ.1 3 1 = σ.1 36 1 := hF
  have hf : zr 0 255 (σ.1 36 1) := h.b (by decide)
  have rc : zr 0 1 (σ.1 36 1 &&& 1) := z_r1 _
  unfold fX12_more_234 fX5_addPairAndCarry fX12_words
  refine zp2_burp (P := fun r t => zEnq I r (t, 15)) ?_ (fun a t q => zp2_some q)
  refine zp2_sm (t_hl h) (fun a ra => zp2_sm (t_rp h hp) (fun b rb => ?_))
  refine zp2_bir p_flag (fun t0 c0 ec => ?_)
  cases ec
  rw [ef, z_c0 hf]
  refine zp2_ckl (zp2_bvl (fun v ev => zp2_ckr (zp2_bvr (fun t1 g1 => ?_))))
  have ev : v = (a + b) + (σ.1 36 1 &&& 1) := ev
  refine zp2_ifr (fun q => absurd q (by decide)) (fun _ => ?_)
  rw [← ev]
  unfold fX12_words_53
  refine zp2_ifr (fun q => absurd q (by decide)) (fun _ => ?_)
  unfold fX5_putWide
  unfold fX12_words_80
  have h1 : zTT I (zsi σ 36 20 ((a + 1) &&& 65535)) t1 := by
    rw [g1]
    exact (zEnq.wz hI h hF (b := 0) rfl (z_r16 _)).1
  have w1 : zWzz (zsi σ 36 20 ((a + 1) &&& 65535)) t1 := by rw [g1]; rfl
  have f1 : zF (zsi σ 36 20 ((a + 1) &&& 65535)) t1 := by rw [g1]; exact hF
  have cP : ∀ s3 : zSt, zpc (if (v &&& 65535) = 0 then fX5_putWide_44 s3 a b v 64 ((v >>> ((8 : Int32) &&& 31)) &&& 168) 1 else fX5_putWide_44 s3 a b v 0 ((v >>> ((8 : Int32) &&& 31)) &&& 168) 1) (fun r => r = zsi s3 36 1 (cWd a b v)) := fun s3 => by
    refine zpc_jx (K := fun g => fX5_putWide_44 s3 a b v g ((v >>> ((8 : Int32) &&& 31)) &&& 168) 1) (a := 64) (b := 0) rfl rfl (fun g eg => ?_)
    unfold fX5_putWide_44 cWd
    refine zpc_ck (zpc_bv (fun t et => zpc_some ?_))
    rw [et, eg]
    rfl
  refine zp2_bulp2 (fX5_putHl (zsi σ 36 20 ((a + 1) &&& 65535)) v) rfl (t_hlTo hI h1 (v := v) (w := v) rfl) (cP := cP) (fun s3 t3 q => ?_)
  obtain ⟨h3, qc, qm⟩ := q
  have f3 : zF s3 t3 := f1.of (qc.1 36 1 rfl) (qm.1 3 1 rfl)
  have w3 : zWzz s3 t3 := w1.of (qc.1 36 20 rfl) (qm.1 3 20 rfl)
  have hf3 : zr 0 255 (s3.1 36 1) := h3.b (by decide)
  have tv : v.toInt = a.toInt + b.toInt + (σ.1 36 1 &&& 1).toInt := by
    rw [ev, z_tadd (zr_add (lo := 0) (hi := 131070) ra rb (by decide)) rc (by decide), z_tadd ra rb (by decide)]
  have rv : zr (-65536) 131071 v := by
    have := ra.1
    have := ra.2
    have := rb.1
    have := rb.2
    have := rc.1
    have := rc.2
    exact ⟨by omega, by omega⟩
  have m1 : (a &&& 4095).toInt = a.toInt % 4096 := z_mask (k := 12) ra.1 rfl (by decide)
  have m2 : (b &&& 4095).toInt = b.toInt % 4096 := z_mask (k := 12) rb.1 rfl (by decide)
  have a12 : ∀ x : Int32, zr 0 4095 (x &&& 4095) := fun x => zr_andr (lo := 0) (hi := 4095) (zr_c (lo := 4095) (hi := 4095) (by decide)) (by decide)
  have m3 : ((a &&& 4095) + (b &&& 4095)).toInt = (a &&& 4095).toInt + (b &&& 4095).toInt := z_tadd (a12 _) (a12 _) (by decide)
  have m4 : (((a &&& 4095) + (b &&& 4095)) + (σ.1 36 1 &&& 1)).toInt = ((a &&& 4095) + (b &&& 4095)).toInt + (σ.1 36 1 &&& 1).toInt := z_tadd (zr_add (lo := 0) (hi := 8190) (a12 _) (a12 _) (by decide)) rc (by decide)
  have c4 : (4095 : Int32).toInt = 4095 := rfl
  have c5 : (0 : Int32).toInt = 0 := rfl
  have hh := v_h12 (a := a) (b := b) (v := v) (X := (a ^^^ b) ^^^ v) (c := (σ.1 36 1 &&& 1).toInt) (K := ((a &&& 4095) + (b &&& 4095)) + (σ.1 36 1 &&& 1) ≤ 4095) (d := inferInstance) ra rb tv ⟨rc.1, rc.2⟩ rfl (by rw [Int32.le_iff_toInt_le]; omega)
  have oo := v_oWA ra rb rc tv
  have e : mW (s3.1 36 1) (if v &&& 32768 = 0 then 0 else 1) (if v &&& 65535 = 0 then 1 else 0) (v >>> ((8 : Int32) &&& 31)) (if ((a &&& 4095) + (b &&& 4095)) + (σ.1 36 1 &&& 1) ≤ 4095 then 0 else 1) (cW v) (oW ((a.toInt16.toInt32 + b.toInt16.toInt32) + (σ.1 36 1 &&& 1))) 0 = cWd a b v ||| (if (((a ^^^ b) ^^^ (-1)) &&& (a ^^^ v)) &&& 32768 = 0 then (0 : Int32) else 4) := by
    unfold cWd
    rw [hh, oo, v_c16 rv, z_64, z_168, fl_mW hf3, v_wB, z_s15]
    rw [show (bif bc (0 : Int32) then (2 : Int32) else 0) = 0 from rfl, Int32.or_zero]
  have rF : zr 0 255 (cWd a b v ||| (if (((a ^^^ b) ^^^ (-1)) &&& (a ^^^ v)) &&& 32768 = 0 then (0 : Int32) else 4)) := by
    rw [← e, fl_mW hf3]
    exact zfl_r _ _ _ _ _ _ _ _
  have eF : t3.1 3 1 = s3.1 36 1 := f3
  intro r r' er er'
  have em := p_wdM (μ := t3) (d := inferInstance) (n := 0) (K := ((a &&& 4095) + (b &&& 4095)) + (σ.1 36 1 &&& 1) ≤ 4095) rfl (Or.inr ⟨by decide, rfl, Iff.rfl⟩) r' er'
  rw [eF, e] at em
  have cC : zpc (zbv ((((a ^^^ b) ^^^ (-1)) &&& (a ^^^ v)) &&& 32768) (fun v8 => zck (zin 1 29) (if v8 = 0 then fX5_addPairAndCarry_65 (zsi s3 36 1 (cWd a b v)) 0 (zgi (zsi s3 36 1 (cWd a b v)) 36 (1 : Int32).toNatClampNeg) 1 else fX5_addPairAndCarry_65 (zsi s3 36 1 (cWd a b v)) 4 (zgi (zsi s3 36 1 (cWd a b v)) 36 (1 : Int32).toNatClampNeg) 1))) (fun r => r = (zsi s3 36 1 (cWd a b v ||| (if (((a ^^^ b) ^^^ (-1)) &&& (a ^^^ v)) &&& 32768 = 0 then (0 : Int32) else 4)), 15)) := by
    refine zpc_bv (fun w ew => zpc_ck ?_)
    subst ew
    refine zpc_jx (K := fun g => fX5_addPairAndCarry_65 (zsi s3 36 1 (cWd a b v)) g (zgi (zsi s3 36 1 (cWd a b v)) 36 (1 : Int32).toNatClampNeg) 1) (a := 0) (b := 4) rfl rfl (fun g eg => ?_)
    unfold fX5_addPairAndCarry_65
    refine zpc_ck (zpc_bv (fun t et => zpc_some ?_))
    rw [et, eg]
    show (zsi (zsi s3 36 1 (cWd a b v)) 36 1 (cWd a b v ||| (if (((a ^^^ b) ^^^ (-1)) &&& (a ^^^ v)) &&& 32768 = 0 then (0 : Int32) else 4)), (15 : Int32)) = _
    rw [zsi_ow]
  rw [cC r er, em]
  exact ⟨(h3.onC hI (Or.inl rfl) (zrg_b (Or.inl (by decide)) rF)).onM hI (Or.inl rfl), rfl, w3, rfl⟩
theorem t_wdS (hI : zIoK I) (h : zTT I σ μ) (hF : zF σ μ) {p : Int32} (hp : zr 0 3 p) : zp2 (fX5_takePair σ p) (fX12_more_234 μ 0 p) (zEnq I) := by
  have ef : μ.1 3 1 = σ.1 36 1 := hF
  have hf : zr 0 255 (σ.1 36 1) := h.b (by decide)
  have rc : zr 0 1 (σ.1 36 1 &&& 1) := z_r1 _
  unfold fX12_more_234 fX5_takePair fX12_words
  refine zp2_burp (P := fun r t => zEnq I r (t, 15)) ?_ (fun a t q => zp2_some q)
  refine zp2_sm (t_hl h) (fun a ra => zp2_sm (t_rp h hp) (fun b rb => ?_))
  refine zp2_bir p_flag (fun t0 c0 ec => ?_)
  cases ec
  rw [ef, z_c0 hf]
  refine zp2_ckl (zp2_bvl (fun v ev => zp2_ckr (zp2_bvr (fun t1 g1 => ?_))))
  have ev : v = (a - b) - (σ.1 36 1 &&& 1) := ev
  refine zp2_ifr (fun _ => ?_) (fun q => absurd rfl q)
  rw [← ev]
  unfold fX12_words_53
  refine zp2_ifr (fun _ => ?_) (fun q => absurd rfl q)
  unfold fX5_putWide
  unfold fX12_words_80
  have h1 : zTT I (zsi σ 36 20 ((a + 1) &&& 65535)) t1 := by
    rw [g1]
    exact (zEnq.wz hI h hF (b := 0) rfl (z_r16 _)).1
  have w1 : zWzz (zsi σ 36 20 ((a + 1) &&& 65535)) t1 := by rw [g1]; rfl
  have f1 : zF (zsi σ 36 20 ((a + 1) &&& 65535)) t1 := by rw [g1]; exact hF
  have cP : ∀ s3 : zSt, zpc (if (v &&& 65535) = 0 then fX5_putWide_44 s3 a b v 64 ((v >>> ((8 : Int32) &&& 31)) &&& 168) 1 else fX5_putWide_44 s3 a b v 0 ((v >>> ((8 : Int32) &&& 31)) &&& 168) 1) (fun r => r = zsi s3 36 1 (cWd a b v)) := fun s3 => by
    refine zpc_jx (K := fun g => fX5_putWide_44 s3 a b v g ((v >>> ((8 : Int32) &&& 31)) &&& 168) 1) (a := 64) (b := 0) rfl rfl (fun g eg => ?_)
    unfold fX5_putWide_44 cWd
    refine zpc_ck (zpc_bv (fun t et => zpc_some ?_))
    rw [et, eg]
    rfl
  refine zp2_bulp2 (fX5_putHl (zsi σ 36 20 ((a + 1) &&& 65535)) v) rfl (t_hlTo hI h1 (v := v) (w := v) rfl) (cP := cP) (fun s3 t3 q => ?_)
  obtain ⟨h3, qc, qm⟩ := q
  have f3 : zF s3 t3 := f1.of (qc.1 36 1 rfl) (qm.1 3 1 rfl)
  have w3 : zWzz s3 t3 := w1.of (qc.1 36 20 rfl) (qm.1 3 20 rfl)
  have hf3 : zr 0 255 (s3.1 36 1) := h3.b (by decide)
  have tv : v.toInt = a.toInt - b.toInt - (σ.1 36 1 &&& 1).toInt := by
    rw [ev, z_tsub (zr_sub (lo := -65535) (hi := 65535) ra rb (by decide)) rc (by decide), z_tsub ra rb (by decide)]
  have rv : zr (-65536) 131071 v := by
    have := ra.1
    have := ra.2
    have := rb.1
    have := rb.2
    have := rc.1
    have := rc.2
    exact ⟨by omega, by omega⟩
  have m1 : (a &&& 4095).toInt = a.toInt % 4096 := z_mask (k := 12) ra.1 rfl (by decide)
  have m2 : (b &&& 4095).toInt = b.toInt % 4096 := z_mask (k := 12) rb.1 rfl (by decide)
  have a12 : ∀ x : Int32, zr 0 4095 (x &&& 4095) := fun x => zr_andr (lo := 0) (hi := 4095) (zr_c (lo := 4095) (hi := 4095) (by decide)) (by decide)
  have m3 : ((a &&& 4095) - (b &&& 4095)).toInt = (a &&& 4095).toInt - (b &&& 4095).toInt := z_tsub (a12 _) (a12 _) (by decide)
  have m4 : (((a &&& 4095) - (b &&& 4095)) - (σ.1 36 1 &&& 1)).toInt = ((a &&& 4095) - (b &&& 4095)).toInt - (σ.1 36 1 &&& 1).toInt := z_tsub (zr_sub (lo := -4095) (hi := 4095) (a12 _) (a12 _) (by decide)) rc (by decide)
  have c4 : (4095 : Int32).toInt = 4095 := rfl
  have c5 : (0 : Int32).toInt = 0 := rfl
  have hh := v_h12S (a := a) (b := b) (v := v) (X := (a ^^^ b) ^^^ v) (c := (σ.1 36 1 &&& 1).toInt) (K := 0 ≤ ((a &&& 4095) - (b &&& 4095)) - (σ.1 36 1 &&& 1)) (d := inferInstance) ra rb tv ⟨rc.1, rc.2⟩ rfl (by rw [Int32.le_iff_toInt_le]; omega)
  have oo := v_oWS ra rb rc tv
  have e : mW (s3.1 36 1) (if v &&& 32768 = 0 then 0 else 1) (if v &&& 65535 = 0 then 1 else 0) (v >>> ((8 : Int32) &&& 31)) (if 0 ≤ ((a &&& 4095) - (b &&& 4095)) - (σ.1 36 1 &&& 1) then 0 else 1) (cW v) (oW ((a.toInt16.toInt32 - b.toInt16.toInt32) - (σ.1 36 1 &&& 1))) 1 = cWd a b v ||| ((if ((a ^^^ b) &&& (a ^^^ v)) &&& 32768 = 0 then (0 : Int32) else 4) ||| 2) := by
    unfold cWd
    rw [hh, oo, v_c16 rv, z_64, z_168, fl_mW hf3, v_wB, z_s15]
    rfl
  have rF : zr 0 255 (cWd a b v ||| ((if ((a ^^^ b) &&& (a ^^^ v)) &&& 32768 = 0 then (0 : Int32) else 4) ||| 2)) := by
    rw [← e, fl_mW hf3]
    exact zfl_r _ _ _ _ _ _ _ _
  have eF : t3.1 3 1 = s3.1 36 1 := f3
  intro r r' er er'
  have em := p_wdM (μ := t3) (d := inferInstance) (n := 1) (K := 0 ≤ ((a &&& 4095) - (b &&& 4095)) - (σ.1 36 1 &&& 1)) rfl (Or.inl ⟨rfl, rfl, Iff.rfl⟩) r' er'
  rw [eF, e] at em
  have cC : zpc (zbv (((a ^^^ b) &&& (a ^^^ v)) &&& 32768) (fun v8 => zck (zin 1 29) (if v8 = 0 then fX5_takePair_63 (zsi s3 36 1 (cWd a b v)) 0 (zgi (zsi s3 36 1 (cWd a b v)) 36 (1 : Int32).toNatClampNeg) 1 else fX5_takePair_63 (zsi s3 36 1 (cWd a b v)) 4 (zgi (zsi s3 36 1 (cWd a b v)) 36 (1 : Int32).toNatClampNeg) 1))) (fun r => r = (zsi s3 36 1 (cWd a b v ||| ((if ((a ^^^ b) &&& (a ^^^ v)) &&& 32768 = 0 then (0 : Int32) else 4) ||| 2)), 15)) := by
    refine zpc_bv (fun w ew => zpc_ck ?_)
    subst ew
    refine zpc_jx (K := fun g => fX5_takePair_63 (zsi s3 36 1 (cWd a b v)) g (zgi (zsi s3 36 1 (cWd a b v)) 36 (1 : Int32).toNatClampNeg) 1) (a := 0) (b := 4) rfl rfl (fun g eg => ?_)
    unfold fX5_takePair_63
    refine zpc_ck (zpc_bv (fun t et => zpc_some ?_))
    rw [et, eg]
    show (zsi (zsi s3 36 1 (cWd a b v)) 36 1 (cWd a b v ||| ((if ((a ^^^ b) &&& (a ^^^ v)) &&& 32768 = 0 then (0 : Int32) else 4) ||| 2)), (15 : Int32)) = _
    rw [zsi_ow]
  rw [cC r er, em]
  exact ⟨(h3.onC hI (Or.inl rfl) (zrg_b (Or.inl (by decide)) rF)).onM hI (Or.inl rfl), rfl, w3, rfl⟩
end ZWD
end ZJN18
section ZJN19
/-! ED -/
theorem zp2_bulp {α β : Type} {o : Option zSt} {p : Option β} {f : zSt → Option α} {P : zSt → β → Prop} {Q : α → β → Prop} (h : zp2 o p P) (k : ∀ s b, P s b → zp2 (f s) (some b) Q) : zp2 (zbu o f) p Q := by
  intro a b ea eb
  cases e : o with
  | none => rw [e] at ea; cases ea
  | some r =>
    rw [e] at ea
    exact k r b (h r b e eb) a b ea rfl
theorem v_inf : ∀ i : Fin 256, ∀ c : Bool, zfl (d7 (Int32.ofNat i.val)) (d6 (Int32.ofNat i.val)) (d5 (Int32.ofNat i.val)) false (d3 (Int32.ofNat i.val)) (bc (gev (Int32.ofNat i.val))) false c = ((bif c then 1 else 0) ||| cby (Int32.ofNat i.val)) ||| cpar (Int32.ofNat i.val) := by decide +kernel
theorem v_in {f w : Int32} (hf : zr 0 255 f) (hw : zr 0 255 w) : pt (pt (pt (gby f w) 2 (gev w)) 4 0) 1 0 = ((f &&& 1) ||| cby w) ||| cpar w := by
  rw [z_f1 hf]
  obtain ⟨i, e⟩ := z_byteF hw
  subst e
  rw [← v_inf i]
  conv => lhs; rw [fl_of hf, fl_by, pt_2, pt_4, pt_1]
  rfl
theorem r_in {f w : Int32} (hf : zr 0 255 f) (hw : zr 0 255 w) : zr 0 255 (((f &&& 1) ||| cby w) ||| cpar w) := by
  rw [← v_in hf hw, fl_of hf, fl_by, pt_2, pt_4, pt_1]
  exact zfl_r _ _ _ _ _ _ _ _
theorem v_irf : ∀ i : Fin 256, ∀ c o : Bool, zfl (d7 (Int32.ofNat i.val)) (d6 (Int32.ofNat i.val)) (d5 (Int32.ofNat i.val)) false (d3 (Int32.ofNat i.val)) o false c = ((bif c then 1 else 0) ||| cby (Int32.ofNat i.val)) ||| (bif o then 4 else 0) := by decide +kernel
theorem v_ir {f w : Int32} {K : Prop} {d : Decidable K} (hf : zr 0 255 f) (hw : zr 0 255 w) : pt (pt (pt (gby f w) 2 (@ite _ K d 1 0)) 4 0) 1 0 = ((f &&& 1) ||| cby w) ||| (@ite _ K d 4 0) := by
  rw [z_f1 hf]
  obtain ⟨i, e⟩ := z_byteF hw
  subst e
  have eo : (@ite _ K d (4 : Int32) 0) = bif bc (@ite _ K d 1 0) then 4 else 0 := by
    by_cases q : K
    · rw [if_pos q, if_pos q]; rfl
    · rw [if_neg q, if_neg q]; rfl
  rw [eo, ← v_irf i]
  conv => lhs; rw [fl_of hf, fl_by, pt_2, pt_4, pt_1]
  rfl
theorem r_ir {f w : Int32} {K : Prop} {d : Decidable K} (hf : zr 0 255 f) (hw : zr 0 255 w) : zr 0 255 (((f &&& 1) ||| cby w) ||| (@ite _ K d 4 0)) := by
  rw [← v_ir hf hw, fl_of hf, fl_by, pt_2, pt_4, pt_1]
  exact zfl_r _ _ _ _ _ _ _ _
section ZED
variable {I : zSt → zSt → Prop} {σ μ : zSt}
theorem p_pC2 : zpc (fX5_pairAt σ 2) (fun r => r = (σ, (σ.1 36 2 <<< ((8 : Int32) &&& 31)) ||| σ.1 36 3)) := by
  unfold fX5_pairAt
  exact zpc_ck (zpc_ck (zpc_some rfl))
theorem p_pM2 : zpc (fX12_pair μ 2) (fun r => r = (μ, (μ.1 3 2 <<< ((8 : Int32) &&& 31)) ||| μ.1 3 3)) := by
  unfold fX12_pair
  exact zpc_ck (zpc_ck (zpc_some rfl))
theorem p_pC6 : zpc (fX5_pairAt σ 6) (fun r => r = (σ, (σ.1 36 6 <<< ((8 : Int32) &&& 31)) ||| σ.1 36 7)) := by
  unfold fX5_pairAt
  exact zpc_ck (zpc_ck (zpc_some rfl))
theorem t_in26 (hI : zIoK I) (h : zTT I σ μ) (hF : zF σ μ) {v x : Int32} (rv : zr 0 255 v) (hx : σ.1 36 20 = x) : zp2 (fX5_takeFromPort_26 σ v) (fX12_more_133 μ x v) (fun s b => zEnq I (s, 12) b) := by
  have ef : μ.1 3 1 = σ.1 36 1 := hF
  have hf : zr 0 255 (σ.1 36 1) := h.b (by decide)
  unfold fX5_takeFromPort_26 fX12_more_133
  refine zp2_ckl (zp2_bil p_byC (fun s1 v1 e1 => ?_))
  cases e1
  refine zp2_bil p_parC (fun s1 v1 e1 => ?_)
  cases e1
  refine zp2_ckl (zp2_bvl (fun s2 f2 => ?_))
  refine zp2_bur p_by' (fun t1 e1 => ?_)
  rw [ef] at e1
  subst e1
  refine zp2_bir p_even (fun t1 v1 e1 => ?_)
  cases e1
  refine zp2_bur p_put (fun t1 e1 => ?_)
  subst e1
  refine zp2_bur p_put (fun t1 e1 => ?_)
  subst e1
  refine zp2_bur p_put (fun t1 e1 => zp2_ckr (zp2_bvr (fun t2 g2 => zp2_some ?_)))
  rw [v_in hf rv] at e1
  subst e1
  subst g2
  subst f2
  refine ⟨((h.onC hI (Or.inl rfl) (zrg_b (Or.inl (by decide)) (r_in hf rv))).onM hI (Or.inl rfl)).onM hI (Or.inr rfl), rfl, ?_, rfl⟩
  exact hx.symm
theorem t_edin (hI : zIoK I) (hPo : zPorts I) (h : zTT I σ μ) (hF : zF σ μ) (hp : zPlc σ μ) {y : Int32} (hy : zr 0 7 y) : zp2 (zbi (fX5_pairAt σ 2) (fun σ3 v4 => zck (zin 20 29) (zbv (zsi σ3 36 ((20 : Int32).toNatClampNeg) ((v4 + 1) &&& 65535)) (fun σ5 => zbu (fX5_takeFromPort σ5 y) (fun σ6 => some (σ6, (12 : Int32))))))) (zbi (fX12_pair μ 2) (fun σ15 v16 => zbv ((v16 + 1) &&& 65535) (fun v17 => zck (zin 3 1048) (zbi (fX12_port σ15 (zgi σ15 3 (3 : Int32).toNatClampNeg)) (fun σ18 v19 => if y = 6 then fX12_more_133 σ18 v17 v19 else zbu (fX12_rTo σ18 y v19) (fun σ20 => fX12_more_133 σ20 v17 v19)))))) (zEnq I) := by
  refine zp2_sm (t_pair2 h) (fun v rv => zp2_ckl (zp2_bvl (fun s1 f1 => zp2_bvr (fun x ex => zp2_ckr ?_))))
  have h1 : zTT I s1 μ := by rw [f1]; exact h.onC hI (Or.inr rfl) (zrg_w (by decide) (by decide) (z_r16 _))
  have F1 : zF s1 μ := hF.of (by rw [f1]; rfl) rfl
  have w1 : s1.1 36 20 = x := by rw [f1, ex]; rfl
  have p1 : zPlc s1 μ := hp.of (by rw [f1]; rfl) (by rw [f1]; rfl) (by rw [f1]; rfl) rfl rfl
  unfold fX5_takeFromPort
  refine zp2_bulp (P := fun s b => zEnq I (s, 12) b) ?_ (fun s b q => zp2_some q)
  refine zp2_ckl ?_
  rw [show zgi μ 3 (3 : Int32).toNatClampNeg = zgi s1 36 (3 : Int32).toNatClampNeg from h1.eq (j := 3) (by decide)]
  refine zp2_bii (hPo.2 _ _ _ h1 (h1.b (j := 3) (by decide))) (fun s2 u t2 u' q => ?_)
  obtain ⟨h2, e2, ru, k2⟩ := q
  have e2 : u' = u := e2
  subst e2
  have F2 : zF s2 t2 := k2.f F1
  have w2 : s2.1 36 20 = x := (k2.1 20).trans w1
  refine zp2_if (fun _ => t_in26 hI h2 F2 ru w2) (fun _ => ?_)
  refine zp2_buu (t_putOne hI h2 (p1.of k2.2.2.1 (k2.1 6) (k2.1 7) (k2.2.1 20 (by decide)) k2.2.2.2) hy (z_m255 ru) ru) (fun s3 t3 q => ?_)
  obtain ⟨h3, qc, qm⟩ := q
  exact t_in26 hI h3 (F2.of (qc.1 36 1 rfl) (qm.1 3 1 rfl)) ru ((qc.1 36 20 rfl).trans w2)
theorem t_edo (hI : zIoK I) (hPo : zPorts I) (h : zTT I σ μ) (hF : zF σ μ) {v : Int32} (rv : zr 0 255 v) (hw : σ.1 36 20 = (((σ.1 36 2 <<< ((8 : Int32) &&& 31)) ||| σ.1 36 3) + 1) &&& 65535) : zp2 (fX5_behindEd_131 σ v (zgi σ 36 (3 : Int32).toNatClampNeg)) (fX12_more_195 μ v (zgi σ 36 (3 : Int32).toNatClampNeg)) (zEnq I) := by
  unfold fX5_behindEd_131 fX12_more_195
  refine zp2_buu (hPo.1 _ _ _ _ h (h.b (j := 3) (by decide)) rv) (fun s t q => ?_)
  obtain ⟨h1, k1⟩ := q
  refine zp2_bir p_pM2 (fun t1 v1 e1 => ?_)
  cases e1
  refine zp2_ckr (zp2_bvr (fun t2 g2 => zp2_some ?_))
  subst g2
  refine ⟨h1.onM hI (Or.inr rfl), k1.f hF, ?_, rfl⟩
  show (((t.1 3 2 <<< ((8 : Int32) &&& 31)) ||| t.1 3 3) + 1) &&& 65535 = s.1 36 20
  rw [k1.1 20, hw, h1.eq (by decide), h1.eq (by decide), k1.1 2, k1.1 3]
theorem t_edout (hI : zIoK I) (hPo : zPorts I) (h : zTT I σ μ) (hF : zF σ μ) (hp : zPlc σ μ) {y : Int32} (hy : zr 0 7 y) : zp2 (zbi (fX5_pairAt σ 2) (fun σ7 v8 => zck (zin 20 29) (zbv (zsi σ7 36 ((20 : Int32).toNatClampNeg) ((v8 + 1) &&& 65535)) (fun σ9 => zck (zin 3 29) (if y = 6 then fX5_behindEd_131 σ9 0 (zgi σ9 36 (3 : Int32).toNatClampNeg) else zbi (fX5_one σ9 y) (fun σ10 v11 => fX5_behindEd_131 σ10 v11 (zgi σ9 36 (3 : Int32).toNatClampNeg))))))) (zck (zin 3 1048) (if y = 6 then fX12_more_195 μ 0 (zgi μ 3 (3 : Int32).toNatClampNeg) else zbi (fX12_r μ y) (fun σ21 v22 => fX12_more_195 σ21 v22 (zgi μ 3 (3 : Int32).toNatClampNeg)))) (zEnq I) := by
  refine zp2_bil p_pC2 (fun s0 v0 e0 => ?_)
  cases e0
  refine zp2_ckl (zp2_bvl (fun s1 f1 => zp2_ckl (zp2_ckr ?_)))
  have h1 : zTT I s1 μ := by rw [f1]; exact h.onC hI (Or.inr rfl) (zrg_w (by decide) (by decide) (z_r16 _))
  have F1 : zF s1 μ := hF.of (by rw [f1]; rfl) rfl
  have w1 : s1.1 36 20 = (((s1.1 36 2 <<< ((8 : Int32) &&& 31)) ||| s1.1 36 3) + 1) &&& 65535 := by rw [f1]; rfl
  have p1 : zPlc s1 μ := hp.of (by rw [f1]; rfl) (by rw [f1]; rfl) (by rw [f1]; rfl) rfl rfl
  rw [show zgi μ 3 (3 : Int32).toNatClampNeg = zgi s1 36 (3 : Int32).toNatClampNeg from h1.eq (j := 3) (by decide)]
  exact zp2_if (fun _ => t_edo hI hPo h1 F1 (zr_c (by decide)) w1) (fun _ => zp2_sm (t_one h1 p1 hy) (fun v rv => t_edo hI hPo h1 F1 rv w1))
/-! ld (nn), rp and back -/
theorem t_edfar (hI : zIoK I) (h : zTT I σ μ) (hF : zF σ μ) {y : Int32} (hy : zr 0 7 y) : zp2 (fX5_farPair σ y) (zbi (fX12_nextWord μ ) (fun σ23 v24 => zck (decide (¬ (2 : Int32) = 0)) (if (zrem y 2) = 0 then zbi (fX12_rp σ23 (y >>> ((1 : Int32) &&& 31))) (fun σ28 v29 => zbu (fX12_wordTo σ28 v24 v29) (fun σ30 => fX12_more_281 σ30 v24)) else zbi (fX12_word σ23 v24) (fun σ25 v26 => zbu (fX12_rpTo σ25 (y >>> ((1 : Int32) &&& 31)) v26) (fun σ27 => fX12_more_281 σ27 v24))))) (zEnq I) := by
  obtain ⟨par, hp⟩ := z_par hy
  unfold fX5_farPair fX5_farPair_51 fX12_more_281
  refine zp2_bii (t_word hI h) (fun s v t v' q => ?_)
  obtain ⟨h0, e1, rv, qc, qm⟩ := q
  have e1 : v' = v := e1
  subst e1
  have F0 : zF s t := hF.of (qc.1 36 1 rfl) (qm.1 3 1 rfl)
  refine zp2_ckl (zp2_bvl (fun s1 f1 => zp2_ckr ?_))
  have h1 : zTT I s1 t := by rw [f1]; exact h0.onC hI (Or.inr rfl) (zrg_w (by decide) (by decide) (z_r16 _))
  have F1 : zF s1 t := F0.of (by rw [f1]; rfl) rfl
  have wz : ∀ s3 : zSt, s3.1 36 20 = s1.1 36 20 → s3 = zsi s3 36 20 ((v' + 1) &&& 65535) := fun s3 e3 => by
    have e : s3.1 36 20 = (v' + 1) &&& 65535 := by rw [e3, f1]; rfl
    rw [← e]; exact zsi_own.symm
  rcases par with ⟨e1, e2⟩ | ⟨e1, e2⟩
  · rw [e1, e2]
    refine zp2_ifl (fun _ => zp2_ifr (fun _ => ?_) (fun q => absurd rfl q)) (fun q => absurd rfl q)
    refine zp2_sm (t_rp h1 hp) (fun w rw1 => ?_)
    refine zp2_buu (t_wword h1.1 rfl rfl rw1) (fun s3 t3 q => zp2_ckr (zp2_bvr (fun t4 g4 => zp2_some ?_)))
    obtain ⟨hm, qc3, qm3⟩ := q
    rw [wz s3 (qc3.1 36 20 rfl), g4]
    exact zEnq.wz hI (h1.mem hI hm qc3 qm3) (F1.of (qc3.1 36 1 rfl) (qm3.1 3 1 rfl)) rfl (z_r16 _)
  · rw [e1, e2]
    refine zp2_ifl (fun q => absurd q (by decide)) (fun _ => zp2_ifr (fun q => absurd q (by decide)) (fun _ => ?_))
    refine zp2_sm (t_rword h1.1 rfl) (fun w rw1 => ?_)
    refine zp2_buu (t_rpTo hI h1 rfl) (fun s3 t3 q => zp2_ckr (zp2_bvr (fun t4 g4 => zp2_some ?_)))
    obtain ⟨h3, qc3, qm3⟩ := q
    rw [wz s3 (qc3.1 36 20 rfl), g4]
    exact zEnq.wz hI h3 (F1.of (qc3.1 36 1 rfl) (qm3.1 3 1 rfl)) rfl (z_r16 _)
/-! neg -/
theorem p_does2 {b : Int32} : zpc (fX12_does μ 2 b) (fun r => r = zsi (zsi μ 3 1 (mF (μ.1 3 1) (hS (μ.1 3 0) b 0) (cX ((μ.1 3 0 - b) - 0)) (((μ.1 3 0 - b) - 0) &&& 255) (oX ((sg (μ.1 3 0) - sg b) - 0)) 1)) 3 0 (((μ.1 3 0 - b) - 0) &&& 255)) := by
  unfold fX12_does fX12_does_101 fX12_does_111 fX12_does_120 fX12_does_132
  refine zpc_ck (zpc_bv (fun a ea => ?_))
  subst ea
  exact zpc_if (fun _ => zpc_if (fun q => absurd q (by decide)) (fun _ => zpc_if (fun q => absurd q (by decide)) (fun _ => zpc_if (fun _ => zpc_if (fun _ => p_subM (by decide)) (fun q => absurd rfl q)) (fun q => absurd (by decide) q)))) (fun q => absurd (by decide) q)
theorem t_neg (hI : zIoK I) (h : zTT I σ μ) (hF : zF σ μ) (hW : zWzz σ μ) : zp2 (zck (zin 0 29) (zbi (fX5_difference σ 0 (zgi σ 36 (0 : Int32).toNatClampNeg) 0) (fun σ18 v19 => zck (zin 0 29) (zbv (zsi σ18 36 ((0 : Int32).toNatClampNeg) v19) (fun σ20 => some (σ20, (8 : Int32))))))) (zck (zin 0 1048) (zbv (zgi μ 3 (0 : Int32).toNatClampNeg) (fun v31 => zck (zin 0 1048) (zbv (zsi μ 3 ((0 : Int32).toNatClampNeg) 0) (fun σ32 => zbu (fX12_does σ32 2 v31) (fun σ33 => some (σ33, (8 : Int32)))))))) (zEnq I) := by
  have ea : μ.1 3 0 = σ.1 36 0 := h.eq (by decide)
  have ef : μ.1 3 1 = σ.1 36 1 := hF
  have ha : zr 0 255 (σ.1 36 0) := h.b (by decide)
  have hf : zr 0 255 (σ.1 36 1) := h.b (by decide)
  have c0 : zr 0 1 (0 : Int32) := zr_c (by decide)
  have z0 : zr 0 255 (0 : Int32) := zr_c (by decide)
  have cC : zpc (fX5_difference σ 0 (zgi σ 36 (0 : Int32).toNatClampNeg) 0) (fun r => r = (zsi σ 36 1 (cdif 0 (σ.1 36 0) 0), ((0 - σ.1 36 0) - 0) &&& 255)) := p_difC
  refine zp2_ckl (zp2_bil cC (fun s1 v1 e1 => ?_))
  cases e1
  refine zp2_ckl (zp2_bvl (fun s2 f2 => zp2_ckr (zp2_bvr (fun x ex => zp2_ckr (zp2_bvr (fun t1 g1 => zp2_bur p_does2 (fun t2 e2 => zp2_some ?_)))))))
  have ex : x = σ.1 36 0 := ex.trans ea
  subst ex
  have g0 : t1.1 3 0 = 0 := by rw [g1]; rfl
  have gf : t1.1 3 1 = σ.1 36 1 := by rw [g1]; exact ef
  have eF : mF (t1.1 3 1) (hS (t1.1 3 0) (σ.1 36 0) 0) (cX ((t1.1 3 0 - σ.1 36 0) - 0)) (((t1.1 3 0 - σ.1 36 0) - 0) &&& 255) (oX ((sg (t1.1 3 0) - sg (σ.1 36 0)) - 0)) 1 = cdif 0 (σ.1 36 0) 0 := by
    rw [g0, gf, fl_mF hf, ← v_dif z0 ha c0]
    rfl
  rw [eF, g0] at e2
  exact zEnq_af hI h hW (by rw [f2]; exact zQ.wi (zQ.wi zQ.rf rfl) rfl) (by rw [e2, g1]; exact zQ.wi (zQ.wi (zQ.wi zQ.rf rfl) rfl) rfl) (by rw [f2]; rfl) (by rw [f2]; rfl) (by rw [e2]; rfl) (by rw [e2]; rfl) rfl rfl (z_r8 _) (cdif_r z0 ha c0)
theorem t_retn (hI : zIoK I) (h : zTT I σ μ) (hF : zF σ μ) : zp2 (zbi (fX5_pop σ ) (fun σ21 v22 => zbu (fX5_goTo σ21 v22) (fun σ23 => zck (zin 24 29) (zck (zin 23 29) (zbv (zsi σ23 36 ((23 : Int32).toNatClampNeg) (zgi σ23 36 (24 : Int32).toNatClampNeg)) (fun σ24 => some (σ24, (14 : Int32)))))))) (zbi (fX12_pop μ ) (fun σ34 v35 => zck (zin 19 1048) (zbv (zsi σ34 3 ((19 : Int32).toNatClampNeg) v35) (fun σ36 => zck (zin 19 1048) (zck (zin 20 1048) (zbv (zsi σ36 3 ((20 : Int32).toNatClampNeg) (zgi σ36 3 (19 : Int32).toNatClampNeg)) (fun σ37 => zck (zin 24 1048) (zck (zin 23 1048) (zbv (zsi σ37 3 ((23 : Int32).toNatClampNeg) (zgi σ37 3 (24 : Int32).toNatClampNeg)) (fun σ38 => some (σ38, (14 : Int32)))))))))))) (zEnq I) := by
  refine zp2_bii (t_pop hI h) (fun s v t v' q => ?_)
  obtain ⟨h1, e1, rv, qc, qm⟩ := q
  have e1 : v' = v := e1
  subst e1
  refine zp2_bul p_goC (fun s2 e2 => zp2_ckl (zp2_ckl (zp2_bvl (fun s3 f3 => zp2_ckr (zp2_bvr (fun t1 g1 => zp2_ckr (zp2_ckr (zp2_bvr (fun t2 g2 => zp2_ckr (zp2_ckr (zp2_bvr (fun t3 g3 => zp2_some ?_))))))))))))
  have g2 : t2 = zsi (zsi t 3 19 v') 3 20 v' := by rw [g2, g1]; rfl
  have z := zEnq.go hI h1 (hF.of (qc.1 36 1 rfl) (qm.1 3 1 rfl)) rv (b := 0)
  have zT' : zTT I s2 t2 := by rw [e2, g2]; exact z.1
  have zF' : zF s2 t2 := by rw [e2, g2]; exact z.2.1
  have zW' : zWzz s2 t2 := by rw [e2, g2]; exact z.2.2.1
  subst f3
  subst g3
  exact ⟨zT'.upd hI [23] (zQ.wi zQ.rf rfl) (zQ.wi zQ.rf rfl) rfl (zAl1 ⟨zT'.eq (j := 24) (by decide), zrg_1 (by decide) (by decide) ((zT'.g (j := 24) (by decide)).2.2.2.1 (by decide) (by decide))⟩), zF', zW', rfl⟩
theorem v_im : ∀ i : Fin 8, (zmax 0 ((Int32.ofNat i.val &&& 3) - 1) = if 2 ≤ zrem (Int32.ofNat i.val) 4 then zrem (Int32.ofNat i.val) 4 - 1 else 0) ∧ 0 ≤ (zmax 0 ((Int32.ofNat i.val &&& 3) - 1)).toInt ∧ (zmax 0 ((Int32.ofNat i.val &&& 3) - 1)).toInt ≤ 2 := by decide +kernel
theorem t_im (hI : zIoK I) (h : zTT I σ μ) (hF : zF σ μ) (hW : zWzz σ μ) {y : Int32} (hy : zr 0 7 y) : zp2 (zck (zin 25 29) (zbv (zsi σ 36 ((25 : Int32).toNatClampNeg) (zmax 0 ((y &&& 3) - 1))) (fun σ25 => some (σ25, (8 : Int32))))) (zck (decide (¬ (4 : Int32) = 0)) (if 2 ≤ (zrem y 4) then zck (decide (¬ (4 : Int32) = 0)) (fX12_more_387 μ ((zrem y 4) - 1) 25) else fX12_more_387 μ 0 25)) (zEnq I) := by
  have v : (zmax 0 ((y &&& 3) - 1) = if 2 ≤ zrem y 4 then zrem y 4 - 1 else 0) ∧ zr 0 2 (zmax 0 ((y &&& 3) - 1)) := by
    obtain ⟨i, e⟩ := z_fin8 hy
    subst e
    exact v_im i
  obtain ⟨v1, v2⟩ := v
  have fin : ∀ x : Int32, zmax 0 ((y &&& 3) - 1) = x → zp2 (zck (zin 25 29) (zbv (zsi σ 36 ((25 : Int32).toNatClampNeg) (zmax 0 ((y &&& 3) - 1))) (fun σ25 => some (σ25, (8 : Int32))))) (fX12_more_387 μ x 25) (zEnq I) := fun x e => by
    unfold fX12_more_387
    refine zp2_ckl (zp2_bvl (fun s f => zp2_ckr (zp2_bvr (fun t g => zp2_some ?_))))
    rw [e] at f v2
    subst f
    subst g
    exact ⟨h.upd hI [25] (zQ.wi zQ.rf rfl) (zQ.wi zQ.rf rfl) rfl (zAl1 ⟨rfl, ⟨fun q => absurd q (by decide), fun _ q => absurd q (by decide), fun _ q => absurd q (by decide), fun _ q => absurd q (by decide), fun _ => v2, fun q _ => absurd q (by decide)⟩⟩), hF, hW, rfl⟩
  refine zp2_ckr ?_
  by_cases q : 2 ≤ zrem y 4
  · rw [if_pos q] at v1
    exact zp2_ifr (fun _ => zp2_ckr (fin _ v1)) (fun r => absurd q r)
  · rw [if_neg q] at v1
    exact zp2_ifr (fun r => absurd r q) (fun _ => fin _ v1)
end ZED
end ZJN19
section ZJN20
/-! ED: SPECIALS -/
theorem v_rld : ∀ i : Fin 256, ∀ k : Fin 16, (((Int32.ofNat i.val <<< ((4 : Int32) &&& 31)) ||| Int32.ofNat k.val) &&& 255 = ((Int32.ofNat i.val <<< ((4 : Int32) &&& 31)) &&& 255) ||| Int32.ofNat k.val) := by decide +kernel
theorem v_rld2 : ∀ i : Fin 256, ∀ k : Fin 16, 0 ≤ (((Int32.ofNat i.val <<< ((4 : Int32) &&& 31)) &&& 255) ||| Int32.ofNat k.val).toInt ∧ (((Int32.ofNat i.val <<< ((4 : Int32) &&& 31)) &&& 255) ||| Int32.ofNat k.val).toInt ≤ 255 := by decide +kernel
theorem v_rrd : ∀ i : Fin 256, ∀ k : Fin 16, 0 ≤ ((Int32.ofNat k.val <<< ((4 : Int32) &&& 31)) ||| (Int32.ofNat i.val >>> ((4 : Int32) &&& 31))).toInt ∧ ((Int32.ofNat k.val <<< ((4 : Int32) &&& 31)) ||| (Int32.ofNat i.val >>> ((4 : Int32) &&& 31))).toInt ≤ 255 := by decide +kernel
theorem v_sh4 : ∀ i : Fin 256, 0 ≤ (Int32.ofNat i.val >>> ((4 : Int32) &&& 31)).toInt ∧ (Int32.ofNat i.val >>> ((4 : Int32) &&& 31)).toInt ≤ 255 := by decide +kernel
theorem z_r15 (x : Int32) : ∃ k : Fin 16, x &&& 15 = Int32.ofNat k.val := by
  have h : zr 0 15 (x &&& 15) := zr_andr (lo := 0) (hi := 15) (zr_c (lo := 15) (hi := 15) (by decide)) (by decide)
  obtain ⟨h0, h1⟩ := h
  obtain ⟨i, hi⟩ : ∃ i : Nat, (x &&& 15).toInt = i := ⟨(x &&& 15).toInt.toNat, by omega⟩
  exact ⟨⟨i, by omega⟩, z_ofN hi⟩
section ZSP
variable {I : zSt → zSt → Prop} {σ μ : zSt}
theorem p_220 {f y : Int32} : zpc (fX12_specials_220 (zsi μ 3 1 f) y) (fun r => r = (zsi μ 3 1 (pt (pt f 4 0) 1 0), if 4 ≤ y then 18 else 9)) := by
  unfold fX12_specials_220 fX12_specials_244
  refine zpc_bu p_put (fun s e => ?_)
  subst e
  refine zpc_bu p_put (fun s e => ?_)
  subst e
  exact zpc_if (fun q => zpc_some (by rw [if_pos q])) (fun q => zpc_some (by rw [if_neg q]))
theorem t_ir (hI : zIoK I) (h : zTT I σ μ) (hF : zF σ μ) (hW : zWzz σ μ) {y v : Int32} (hy : ¬ 4 ≤ y) (rv : zr 0 255 v) {k : Int32} (hk : zgi μ 3 k.toNatClampNeg = v) : zp2 (fX5_moreOfA_99 σ v 0) (fX12_specials_64 μ y k 0) (zEnq I) := by
  have ef : μ.1 3 1 = σ.1 36 1 := hF
  have e24 : μ.1 3 24 = σ.1 36 24 := h.eq (by decide)
  have hf : zr 0 255 (σ.1 36 1) := h.b (by decide)
  have cC : zpc (fX5_moreOfA_99 σ v 0) (fun r => r = (zsi (zsi σ 36 0 v) 36 1 (((σ.1 36 1 &&& 1) ||| cby v) ||| (if σ.1 36 24 = 1 then 4 else 0)), 9)) := by
    unfold fX5_moreOfA_99
    refine zpc_ck (zpc_bv (fun s1 f1 => zpc_ck (zpc_ck ?_)))
    have g0 : zgi s1 36 (0 : Int32).toNatClampNeg = v := by rw [f1]; rfl
    have g1 : zgi s1 36 (1 : Int32).toNatClampNeg = σ.1 36 1 := by rw [f1]; rfl
    have g24 : zgi s1 36 (24 : Int32).toNatClampNeg = σ.1 36 24 := by rw [f1]; rfl
    rw [g0, g1]
    refine zpc_bi p_byC (fun s2 v2 e2 => ?_)
    cases e2
    rw [g24]
    refine zpc_ck (zpc_jx (K := fun x => fX5_moreOfA_139 s1 x ((σ.1 36 1 &&& 1) ||| cby v) 1) (a := 4) (b := 0) rfl rfl (fun x ex => ?_))
    unfold fX5_moreOfA_139
    refine zpc_ck (zpc_bv (fun s3 f3 => zpc_some ?_))
    rw [f3, f1, ex]
    rfl
  have cM : zpc (fX12_specials_64 μ y k 0) (fun r => r = (zsi (zsi μ 3 0 v) 3 1 (pt (pt (pt (gby (σ.1 36 1) v) 2 (if σ.1 36 24 = 1 then 1 else 0)) 4 0) 1 0), 9)) := by
    unfold fX12_specials_64
    refine zpc_ck (zpc_ck (zpc_bv (fun s1 f1 => zpc_ck ?_)))
    rw [hk] at f1
    have g0 : zgi s1 3 (0 : Int32).toNatClampNeg = v := by rw [f1]; rfl
    have g1 : s1.1 3 1 = σ.1 36 1 := by rw [f1]; exact ef
    rw [g0]
    refine zpc_bu p_by' (fun s2 e2 => zpc_ck ?_)
    rw [g1] at e2
    subst e2
    have g24 : zgi (zsi s1 3 1 (gby (σ.1 36 1) v)) 3 (24 : Int32).toNatClampNeg = σ.1 36 24 := by rw [f1]; exact e24
    rw [g24]
    refine zpc_jx (K := fun x => fX12_specials_94 (zsi s1 3 1 (gby (σ.1 36 1) v)) y x 2) (a := 1) (b := 0) rfl rfl (fun x ex => ?_)
    unfold fX12_specials_94
    refine zpc_bu p_put (fun s3 e3 => ?_)
    subst e3
    intro r er
    rw [p_220 r er, if_neg hy, f1, ex]
    rfl
  intro r r' er er'
  rw [cC r er, cM r' er', v_ir hf rv]
  exact zEnq_af hI h hW (zQ.wi (zQ.wi zQ.rf rfl) rfl) (zQ.wi (zQ.wi zQ.rf rfl) rfl) rfl rfl rfl rfl rfl rfl rv (r_ir hf rv)
/-- behind RLD and RRD: A, and the flags -/
theorem t_rldd (hI : zIoK I) (h : zTT I σ μ) (hF : zF σ μ) (hW : zWzz σ μ) {y s0 s1 : Int32} (hy : 4 ≤ y) (rv : zr 0 255 (s1 ||| s0)) : zp2 (zbu (fX5_turnDigits_102 σ s0 s1 0) (fun s => some (s, (18 : Int32)))) (fX12_specials_194 μ y s0 s1 0) (zEnq I) := by
  have ef : μ.1 3 1 = σ.1 36 1 := hF
  have hf : zr 0 255 (σ.1 36 1) := h.b (by decide)
  have cC : zpc (fX5_turnDigits_102 σ s0 s1 0) (fun r => r = zsi (zsi σ 36 0 (s1 ||| s0)) 36 1 (((σ.1 36 1 &&& 1) ||| cby (s1 ||| s0)) ||| cpar (s1 ||| s0))) := by
    unfold fX5_turnDigits_102
    refine zpc_ck (zpc_bv (fun t1 f1 => zpc_ck (zpc_ck ?_)))
    have g0 : zgi t1 36 (0 : Int32).toNatClampNeg = s1 ||| s0 := by rw [f1]; rfl
    have g1 : zgi t1 36 (1 : Int32).toNatClampNeg = σ.1 36 1 := by rw [f1]; rfl
    rw [g0, g1]
    refine zpc_bi p_byC (fun s2 v2 e2 => ?_)
    cases e2
    rw [g0]
    refine zpc_ck (zpc_bi p_parC (fun s2 v2 e2 => ?_))
    cases e2
    refine zpc_ck (zpc_bv (fun s3 f3 => zpc_some ?_))
    rw [f3, f1]
    rfl
  have cM : zpc (fX12_specials_194 μ y s0 s1 0) (fun r => r = (zsi (zsi μ 3 0 (s1 ||| s0)) 3 1 (pt (pt (pt (gby (σ.1 36 1) (s1 ||| s0)) 2 (gev (s1 ||| s0))) 4 0) 1 0), 18)) := by
    unfold fX12_specials_194
    refine zpc_ck (zpc_bv (fun t1 f1 => zpc_ck ?_))
    have g0 : zgi t1 3 (0 : Int32).toNatClampNeg = s1 ||| s0 := by rw [f1]; rfl
    have g1 : t1.1 3 1 = σ.1 36 1 := by rw [f1]; exact ef
    rw [g0]
    refine zpc_bu p_by' (fun s2 e2 => zpc_ck ?_)
    rw [g1] at e2
    subst e2
    rw [show zgi (zsi t1 3 1 (gby (σ.1 36 1) (s1 ||| s0))) 3 (0 : Int32).toNatClampNeg = s1 ||| s0 from g0]
    refine zpc_bi p_even (fun s3 v3 e3 => ?_)
    cases e3
    refine zpc_bu p_put (fun s3 e3 => ?_)
    subst e3
    intro r er
    rw [p_220 r er, if_pos hy, f1]
    rfl
  refine zp2_bul cC (fun s es => ?_)
  intro r r' er er'
  cases er
  rw [cM r' er', v_in hf rv, es]
  exact zEnq_af hI h hW (zQ.wi (zQ.wi zQ.rf rfl) rfl) (zQ.wi (zQ.wi zQ.rf rfl) rfl) rfl rfl rfl rfl rfl rfl rv (r_in hf rv)
theorem z_ua {α : Type} {o : Option zSt} {f : zSt → Option zSt} {g : zSt → Option α} : zbu (zbu o f) g = zbu o (fun s => zbu (f s) g) := by
  cases o with
  | none => rfl
  | some s => rfl
theorem t_dig4 (hI : zIoK I) (h : zTT I σ μ) (hF : zF σ μ) : zp2 (fX5_moreOfA_155 σ 1) (fX12_specials μ 4) (zEnq I) := by
  unfold fX5_moreOfA_155 fX5_turnDigits fX12_specials
  refine zp2_ifr (fun _ => zp2_ifr (fun _ => zp2_ifr (fun _ => ?_) (fun q => absurd (by decide) q)) (fun q => absurd (by decide) q)) (fun q => absurd (by decide) q)
  have tp := t_pair6 h
  refine zp2_bulp (P := fun s b => zEnq I (s, 18) b) ?_ (fun s b q => zp2_some q)
  refine zp2_sm tp (fun v rv => ?_)
  refine zp2_ckr (zp2_bvr (fun t1 g1 => ?_))
  have h1 : zTT I σ t1 := by rw [g1]; exact h.onM hI (Or.inr rfl)
  refine zp2_rd h1.1 rfl (fun b rb => zp2_ckl (zp2_bvl (fun v12 e12 => zp2_ckl (zp2_bvl (fun s2 f2 => zp2_ckr (zp2_bvr (fun v18 e18 => ?_)))))))
  have ea : zgi t1 3 (0 : Int32).toNatClampNeg = zgi σ 36 (0 : Int32).toNatClampNeg := h1.eq (j := 0) (by decide)
  have ev : v18 = v12 := by rw [e18, e12, ea]
  subst ev
  have h2 : zTT I s2 t1 := by rw [f2]; exact h1.onC hI (Or.inr rfl) (zrg_w (by decide) (by decide) (z_r16 _))
  have F2 : zF s2 t1 := by rw [f2, g1]; exact hF
  have W2 : zWzz s2 t1 := by rw [f2, g1]; rfl
  obtain ⟨k, ek⟩ := z_r15 (zgi σ 36 (0 : Int32).toNatClampNeg)
  rw [← e12] at ek
  obtain ⟨i, ei⟩ := z_byteF rb
  refine zp2_ifl (fun q => absurd q (by decide)) (fun _ => zp2_ifr (fun _ => ?_) (fun q => absurd rfl q))
  unfold fX5_turnDigits_70 fX12_specials_161
  have rW : zr 0 255 ((v18 <<< ((4 : Int32) &&& 31)) ||| (b >>> ((4 : Int32) &&& 31))) := by
    rw [ek, ei]
    exact v_rrd i k
  refine zp2_wr h2.1 rfl (z_m255 rW) rW (fun s3 t3 hm q1 q2 => zp2_ckl (zp2_ckr ?_))
  have h3 := h2.mem hI hm q1 q2
  have F3 : zF s3 t3 := F2.of (q1.1 36 1 rfl) (q2.1 3 1 rfl)
  have W3 : zWzz s3 t3 := W2.of (q1.1 36 20 rfl) (q2.1 3 20 rfl)
  have ea3 : zgi t3 3 (0 : Int32).toNatClampNeg = zgi s3 36 (0 : Int32).toNatClampNeg := h3.eq (j := 0) (by decide)
  rw [ea3]
  refine zp2_ifl (fun q => absurd q (by decide)) (fun _ => zp2_ifr (fun _ => ?_) (fun q => absurd rfl q))
  have rA : zr 0 255 (((zgi s3 36 (0 : Int32).toNatClampNeg) &&& 240) ||| (b &&& 15)) := z_ob (zr_andr (lo := 0) (hi := 255) (zr_c (lo := 240) (hi := 240) (by decide)) (by decide)) (zr_andr (lo := 0) (hi := 255) (zr_c (lo := 15) (hi := 15) (by decide)) (by decide))
  have t := t_rldd hI h3 F3 W3 (y := 4) (by decide) rA
  intro r r' er er'
  refine t (r, 18) r' ?_ er'
  rw [er]
  rfl
theorem t_dig5 (hI : zIoK I) (h : zTT I σ μ) (hF : zF σ μ) : zp2 (fX5_moreOfA_155 σ 0) (fX12_specials μ 5) (zEnq I) := by
  unfold fX5_moreOfA_155 fX5_turnDigits fX12_specials
  refine zp2_ifr (fun _ => zp2_ifr (fun _ => zp2_ifr (fun _ => ?_) (fun q => absurd (by decide) q)) (fun q => absurd (by decide) q)) (fun q => absurd (by decide) q)
  have tp := t_pair6 h
  refine zp2_bulp (P := fun s b => zEnq I (s, 18) b) ?_ (fun s b q => zp2_some q)
  refine zp2_sm tp (fun v rv => ?_)
  refine zp2_ckr (zp2_bvr (fun t1 g1 => ?_))
  have h1 : zTT I σ t1 := by rw [g1]; exact h.onM hI (Or.inr rfl)
  refine zp2_rd h1.1 rfl (fun b rb => zp2_ckl (zp2_bvl (fun v12 e12 => zp2_ckl (zp2_bvl (fun s2 f2 => zp2_ckr (zp2_bvr (fun v18 e18 => ?_)))))))
  have ea : zgi t1 3 (0 : Int32).toNatClampNeg = zgi σ 36 (0 : Int32).toNatClampNeg := h1.eq (j := 0) (by decide)
  have ev : v18 = v12 := by rw [e18, e12, ea]
  subst ev
  have h2 : zTT I s2 t1 := by rw [f2]; exact h1.onC hI (Or.inr rfl) (zrg_w (by decide) (by decide) (z_r16 _))
  have F2 : zF s2 t1 := by rw [f2, g1]; exact hF
  have W2 : zWzz s2 t1 := by rw [f2, g1]; rfl
  obtain ⟨k, ek⟩ := z_r15 (zgi σ 36 (0 : Int32).toNatClampNeg)
  rw [← e12] at ek
  obtain ⟨i, ei⟩ := z_byteF rb
  refine zp2_ifl (fun _ => zp2_ifr (fun q => absurd q (by decide)) (fun _ => ?_)) (fun q => absurd rfl q)
  unfold fX5_turnDigits_70 fX12_specials_161
  have rW : zr 0 255 (((b <<< ((4 : Int32) &&& 31)) &&& 255) ||| v18) := by
    rw [ek, ei]
    exact v_rld2 i k
  refine zp2_wr h2.1 rfl (by rw [ek, ei]; exact v_rld i k) rW (fun s3 t3 hm q1 q2 => zp2_ckl (zp2_ckr ?_))
  have h3 := h2.mem hI hm q1 q2
  have F3 : zF s3 t3 := F2.of (q1.1 36 1 rfl) (q2.1 3 1 rfl)
  have W3 : zWzz s3 t3 := W2.of (q1.1 36 20 rfl) (q2.1 3 20 rfl)
  have ea3 : zgi t3 3 (0 : Int32).toNatClampNeg = zgi s3 36 (0 : Int32).toNatClampNeg := h3.eq (j := 0) (by decide)
  rw [ea3]
  refine zp2_ifl (fun _ => zp2_ifr (fun q => absurd q (by decide)) (fun _ => ?_)) (fun q => absurd rfl q)
  have rA : zr 0 255 (((zgi s3 36 (0 : Int32).toNatClampNeg) &&& 240) ||| (b >>> ((4 : Int32) &&& 31))) := z_ob (zr_andr (lo := 0) (hi := 255) (zr_c (lo := 240) (hi := 240) (by decide)) (by decide)) (by rw [ei]; exact v_sh4 i)
  have t := t_rldd hI h3 F3 W3 (y := 5) (by decide) rA
  intro r r' er er'
  refine t (r, 18) r' ?_ er'
  rw [er]
  rfl
theorem t_spec (hI : zIoK I) (h : zTT I σ μ) (hF : zF σ μ) (hW : zWzz σ μ) {y : Int32} (hy : zr 0 7 y) : zp2 (fX5_moreOfA σ y) (fX12_specials μ y) (zEnq I) := by
  have ea : zgi μ 3 (0 : Int32).toNatClampNeg = zgi σ 36 (0 : Int32).toNatClampNeg := h.eq (j := 0) (by decide)
  have ha : zr 0 255 (σ.1 36 0) := h.b (by decide)
  rcases zr_hd (c := 0) hy rfl with e | hy
  · subst e
    unfold fX5_moreOfA fX12_specials fX12_specials_28
    refine zp2_ifl (fun _ => ?_) (fun q => absurd rfl q)
    refine zp2_ifr (fun _ => zp2_ifr (fun q => absurd q (by decide)) (fun _ => zp2_ifr (fun _ => ?_) (fun q => absurd rfl q))) (fun q => absurd (by decide) q)
    refine zp2_ckl (zp2_ckl (zp2_bvl (fun s f => zp2_ckr (zp2_ckr (zp2_bvr (fun t g => zp2_some ?_))))))
    rw [ea] at g
    subst f
    subst g
    exact ⟨h.upd hI [21] (zQ.wi zQ.rf rfl) (zQ.wi zQ.rf rfl) rfl (zAl1 ⟨rfl, zrg_b (Or.inr (Or.inl rfl)) ha⟩), hF, hW, rfl⟩
  rcases zr_hd (c := 1) hy rfl with e | hy
  · subst e
    unfold fX5_moreOfA fX12_specials fX12_specials_28
    refine zp2_ifl (fun q => absurd q (by decide)) (fun _ => zp2_ifl (fun _ => ?_) (fun q => absurd rfl q))
    refine zp2_ifr (fun _ => zp2_ifr (fun q => absurd q (by decide)) (fun _ => zp2_ifr (fun q => absurd q (by decide)) (fun _ => ?_))) (fun q => absurd (by decide) q)
    refine zp2_ckl (zp2_ckl (zp2_bvl (fun s f => zp2_ckr (zp2_ckr (zp2_bvr (fun t g => zp2_some ?_))))))
    rw [ea] at g
    subst f
    subst g
    exact ⟨h.upd hI [22] (zQ.wi zQ.rf rfl) (zQ.wi zQ.rf rfl) rfl (zAl1 ⟨rfl, zrg_b (Or.inr (Or.inr rfl)) ha⟩), hF, hW, rfl⟩
  rcases zr_hd (c := 2) hy rfl with e | hy
  · subst e
    unfold fX5_moreOfA fX12_specials fX5_moreOfA_72
    refine zp2_ifl (fun q => absurd q (by decide)) (fun _ => zp2_ifl (fun q => absurd q (by decide)) (fun _ => zp2_ifl (fun _ => ?_) (fun q => absurd rfl q)))
    refine zp2_ifl (fun _ => ?_) (fun q => absurd rfl q)
    refine zp2_ifr (fun _ => zp2_ifr (fun _ => zp2_ifr (fun q => absurd q (by decide)) (fun _ => zp2_ifr (fun _ => ?_) (fun q => absurd rfl q))) (fun q => absurd (by decide) q)) (fun q => absurd (by decide) q)
    exact zp2_ckl (t_ir hI h hF hW (by decide) ((h.g (j := 21) (by decide)).2.2.1 (by decide) (by decide)) (h.eq (j := 21) (by decide)))
  rcases zr_hd (c := 3) hy rfl with e | hy
  · subst e
    unfold fX5_moreOfA fX12_specials fX5_moreOfA_72
    refine zp2_ifl (fun q => absurd q (by decide)) (fun _ => zp2_ifl (fun q => absurd q (by decide)) (fun _ => zp2_ifl (fun q => absurd q (by decide)) (fun _ => zp2_ifl (fun _ => ?_) (fun q => absurd rfl q))))
    refine zp2_ifl (fun q => absurd q (by decide)) (fun _ => ?_)
    refine zp2_ifr (fun _ => zp2_ifr (fun _ => zp2_ifr (fun q => absurd q (by decide)) (fun _ => zp2_ifr (fun q => absurd q (by decide)) (fun _ => ?_))) (fun q => absurd (by decide) q)) (fun q => absurd (by decide) q)
    exact zp2_ckl (t_ir hI h hF hW (by decide) ((h.g (j := 22) (by decide)).2.2.1 (by decide) (by decide)) (h.eq (j := 22) (by decide)))
  rcases zr_hd (c := 4) hy rfl with e | hy
  · subst e
    unfold fX5_moreOfA fX5_moreOfA_144
    refine zp2_ifl (fun q => absurd q (by decide)) (fun _ => zp2_ifl (fun q => absurd q (by decide)) (fun _ => zp2_ifl (fun q => absurd q (by decide)) (fun _ => zp2_ifl (fun q => absurd q (by decide)) (fun _ => zp2_ifl (fun _ => ?_) (fun q => absurd rfl q)))))
    refine zp2_ifl (fun _ => ?_) (fun q => absurd rfl q)
    exact t_dig4 hI h hF
  rcases zr_hd (c := 5) hy rfl with e | hy
  · subst e
    unfold fX5_moreOfA fX5_moreOfA_144
    refine zp2_ifl (fun q => absurd q (by decide)) (fun _ => zp2_ifl (fun q => absurd q (by decide)) (fun _ => zp2_ifl (fun q => absurd q (by decide)) (fun _ => zp2_ifl (fun q => absurd q (by decide)) (fun _ => zp2_ifl (fun q => absurd q (by decide)) (fun _ => zp2_ifl (fun _ => ?_) (fun q => absurd rfl q))))))
    refine zp2_ifl (fun q => absurd q (by decide)) (fun _ => ?_)
    exact t_dig5 hI h hF
  have n : ∀ k : Int32, k.toInt < 6 → ¬ y = k := fun k hk e => by rw [e] at hy; have := hy.1; omega
  have n5 : ¬ y ≤ 5 := fun q => by have := Int32.le_iff_toInt_le.mp q; have := hy.1; have c : (5 : Int32).toInt = 5 := rfl; omega
  unfold fX5_moreOfA fX12_specials
  exact zp2_ifl (fun q => absurd q (n 0 (by decide))) (fun _ => zp2_ifl (fun q => absurd q (n 1 (by decide))) (fun _ => zp2_ifl (fun q => absurd q (n 2 (by decide))) (fun _ => zp2_ifl (fun q => absurd q (n 3 (by decide))) (fun _ => zp2_ifl (fun q => absurd q (n 4 (by decide))) (fun _ => zp2_ifl (fun q => absurd q (n 5 (by decide))) (fun _ => zp2_ifr (fun q => absurd q n5) (fun _ => zp2_some ⟨h, hF, hW, rfl⟩)))))))
theorem v_blk : ∀ i : Fin 256, (Int32.ofNat i.val >>> ((6 : Int32) &&& 31) = 2 ∧ ¬ (Int32.ofNat i.val >>> ((3 : Int32) &&& 31)) &&& 7 ≤ 3 ∧ ¬ 4 ≤ Int32.ofNat i.val &&& 7) ↔ Int32.ofNat i.val &&& 228 = 160 := by decide +kernel
theorem z_blk {op : Int32} (h : zr 0 255 op) : (op >>> ((6 : Int32) &&& 31) = 2 ∧ ¬ (op >>> ((3 : Int32) &&& 31)) &&& 7 ≤ 3 ∧ ¬ 4 ≤ op &&& 7) ↔ op &&& 228 = 160 := by
  obtain ⟨i, e⟩ := z_byteF h
  subst e
  exact v_blk i
theorem t_ed (hI : zIoK I) (hPo : zPorts I) (h : zTT I σ μ) (hF : zF σ μ) (hW : zWzz σ μ) (hp : zPlc σ μ) {op : Int32} (ho : zr 0 255 op) (hb : ¬ op &&& 228 = 160) : zp2 (fX5_behindEd σ op) (fX12_more μ op) (zEnq I) := by
  have hy : zr 0 7 ((op >>> ((3 : Int32) &&& 31)) &&& 7) := z_r7 _
  have hz : zr 0 7 (op &&& 7) := z_r7 _
  have nb := fun q => hb ((z_blk ho).mp q)
  have eM : fX12_more μ op = fX12_more_42 μ (op >>> ((6 : Int32) &&& 31)) ((op >>> ((3 : Int32) &&& 31)) &&& 7) (op &&& 7) := by
    unfold fX12_more
    show (if op >>> ((6 : Int32) &&& 31) = 2 then (if (op >>> ((3 : Int32) &&& 31)) &&& 7 ≤ 3 then fX12_more_42 μ (op >>> ((6 : Int32) &&& 31)) ((op >>> ((3 : Int32) &&& 31)) &&& 7) (op &&& 7) else if 4 ≤ op &&& 7 then fX12_more_42 μ (op >>> ((6 : Int32) &&& 31)) ((op >>> ((3 : Int32) &&& 31)) &&& 7) (op &&& 7) else zbi (fX12_blocks μ ((op >>> ((3 : Int32) &&& 31)) &&& 7) (op &&& 7)) (fun σ44 v45 => some (σ44, v45))) else fX12_more_42 μ (op >>> ((6 : Int32) &&& 31)) ((op >>> ((3 : Int32) &&& 31)) &&& 7) (op &&& 7)) = _
    by_cases a : op >>> ((6 : Int32) &&& 31) = 2
    · rw [if_pos a]
      by_cases b : (op >>> ((3 : Int32) &&& 31)) &&& 7 ≤ 3
      · rw [if_pos b]
      · rw [if_neg b]
        by_cases c : 4 ≤ op &&& 7
        · rw [if_pos c]
        · exact absurd ⟨a, b, c⟩ nb
    · rw [if_neg a]
  rw [eM]
  unfold fX5_behindEd fX12_more_42 fX5_behindEd_160
  refine zp2_if (fun _ => ?_) (fun _ => zp2_some ⟨h, hF, hW, rfl⟩)
  refine zp2_bvl (fun y ey => ?_)
  rw [← ey] at hy ⊢
  clear ey eM nb hb ho
  generalize op &&& 7 = z at hz
  rcases zr_hd (c := 0) hz rfl with e | hz
  · subst e
    exact zp2_ifl (fun _ => zp2_ifr (fun _ => t_edin hI hPo h hF hp hy) (fun q => absurd rfl q)) (fun q => absurd rfl q)
  rcases zr_hd (c := 1) hz rfl with e | hz
  · subst e
    exact zp2_ifl (fun q => absurd q (by decide)) (fun _ => zp2_ifl (fun _ => zp2_ifr (fun q => absurd q (by decide)) (fun _ => zp2_ifr (fun _ => t_edout hI hPo h hF hp hy) (fun q => absurd rfl q))) (fun q => absurd rfl q))
  rcases zr_hd (c := 2) hz rfl with e | hz
  · subst e
    obtain ⟨par, hpp⟩ := z_par hy
    refine zp2_ifl (fun q => absurd q (by decide)) (fun _ => zp2_ifl (fun q => absurd q (by decide)) (fun _ => zp2_ifl (fun _ => zp2_ifr (fun q => absurd q (by decide)) (fun _ => zp2_ifr (fun q => absurd q (by decide)) (fun _ => zp2_ifr (fun _ => zp2_ckr ?_) (fun q => absurd rfl q)))) (fun q => absurd rfl q)))
    rcases par with ⟨e1, e2⟩ | ⟨e1, e2⟩
    · rw [e1, e2]
      exact zp2_ifl (fun _ => zp2_ifr (fun q => absurd q (by decide)) (fun _ => zp2_bilp (t_wdS hI h hF hpp) (fun s v b q => zp2_some q))) (fun q => absurd rfl q)
    · rw [e1, e2]
      exact zp2_ifl (fun q => absurd q (by decide)) (fun _ => zp2_ifr (fun _ => zp2_bilp (t_wdA hI h hF hpp) (fun s v b q => zp2_some q)) (fun q => absurd rfl q))
  rcases zr_hd (c := 3) hz rfl with e | hz
  · subst e
    exact zp2_ifl (fun q => absurd q (by decide)) (fun _ => zp2_ifl (fun q => absurd q (by decide)) (fun _ => zp2_ifl (fun q => absurd q (by decide)) (fun _ => zp2_ifl (fun _ => zp2_ifr (fun q => absurd q (by decide)) (fun _ => zp2_ifr (fun q => absurd q (by decide)) (fun _ => zp2_ifr (fun q => absurd q (by decide)) (fun _ => zp2_ifr (fun _ => zp2_bilp (t_edfar hI h hF hy) (fun s v b q => zp2_some q)) (fun q => absurd rfl q))))) (fun q => absurd rfl q))))
  rcases zr_hd (c := 4) hz rfl with e | hz
  · subst e
    exact zp2_ifl (fun q => absurd q (by decide)) (fun _ => zp2_ifl (fun q => absurd q (by decide)) (fun _ => zp2_ifl (fun q => absurd q (by decide)) (fun _ => zp2_ifl (fun q => absurd q (by decide)) (fun _ => zp2_ifl (fun _ => zp2_ifr (fun q => absurd q (by decide)) (fun _ => zp2_ifr (fun q => absurd q (by decide)) (fun _ => zp2_ifr (fun q => absurd q (by decide)) (fun _ => zp2_ifr (fun q => absurd q (by decide)) (fun _ => zp2_ifr (fun _ => t_neg hI h hF hW) (fun q => absurd rfl q)))))) (fun q => absurd rfl q)))))
  rcases zr_hd (c := 5) hz rfl with e | hz
  · subst e
    exact zp2_ifl (fun q => absurd q (by decide)) (fun _ => zp2_ifl (fun q => absurd q (by decide)) (fun _ => zp2_ifl (fun q => absurd q (by decide)) (fun _ => zp2_ifl (fun q => absurd q (by decide)) (fun _ => zp2_ifl (fun q => absurd q (by decide)) (fun _ => zp2_ifl (fun _ => zp2_ifr (fun q => absurd q (by decide)) (fun _ => zp2_ifr (fun q => absurd q (by decide)) (fun _ => zp2_ifr (fun q => absurd q (by decide)) (fun _ => zp2_ifr (fun q => absurd q (by decide)) (fun _ => zp2_ifr (fun q => absurd q (by decide)) (fun _ => zp2_ifr (fun _ => t_retn hI h hF) (fun q => absurd rfl q))))))) (fun q => absurd rfl q))))))
  rcases zr_hd (c := 6) hz rfl with e | hz
  · subst e
    exact zp2_ifl (fun q => absurd q (by decide)) (fun _ => zp2_ifl (fun q => absurd q (by decide)) (fun _ => zp2_ifl (fun q => absurd q (by decide)) (fun _ => zp2_ifl (fun q => absurd q (by decide)) (fun _ => zp2_ifl (fun q => absurd q (by decide)) (fun _ => zp2_ifl (fun q => absurd q (by decide)) (fun _ => zp2_ifl (fun _ => zp2_ifr (fun q => absurd q (by decide)) (fun _ => zp2_ifr (fun q => absurd q (by decide)) (fun _ => zp2_ifr (fun q => absurd q (by decide)) (fun _ => zp2_ifr (fun q => absurd q (by decide)) (fun _ => zp2_ifr (fun q => absurd q (by decide)) (fun _ => zp2_ifr (fun q => absurd q (by decide)) (fun _ => zp2_ifr (fun _ => t_im hI h hF hW hy) (fun q => absurd rfl q)))))))) (fun q => absurd rfl q)))))))
  rcases zr_hd (c := 7) hz rfl with e | hz
  · subst e
    exact zp2_ifl (fun q => absurd q (by decide)) (fun _ => zp2_ifl (fun q => absurd q (by decide)) (fun _ => zp2_ifl (fun q => absurd q (by decide)) (fun _ => zp2_ifl (fun q => absurd q (by decide)) (fun _ => zp2_ifl (fun q => absurd q (by decide)) (fun _ => zp2_ifl (fun q => absurd q (by decide)) (fun _ => zp2_ifl (fun q => absurd q (by decide)) (fun _ => zp2_ifr (fun q => absurd q (by decide)) (fun _ => zp2_ifr (fun q => absurd q (by decide)) (fun _ => zp2_ifr (fun q => absurd q (by decide)) (fun _ => zp2_ifr (fun q => absurd q (by decide)) (fun _ => zp2_ifr (fun q => absurd q (by decide)) (fun _ => zp2_ifr (fun q => absurd q (by decide)) (fun _ => zp2_ifr (fun q => absurd q (by decide)) (fun _ => zp2_bii (t_spec hI h hF hW hy) (fun s v t w q => zp2_some q)))))))))))))))
  exact zr_no9 hz (by decide)
end ZSP
end ZJN20
section ZJN21
/-! THE BLOCKS -/
theorem zbt_l1 : ∀ i, i < 32 → ((2 : Int32).toBitVec.getLsbD i = decide (i = 1)) := by decide
theorem zbt_m1 {x : Int32} : x &&& 2 = bif zbt 1 x then 2 else 0 := by
  refine Int32.toBitVec_inj.1 (BitVec.eq_of_getLsbD_eq (fun i hi => ?_))
  rw [Int32.toBitVec_and, BitVec.getLsbD_and, zbt_l1 i hi]
  unfold zbt
  by_cases q : i = 1
  · subst q
    cases h : x.toBitVec.getLsbD 1 <;> rfl
  · rw [decide_eq_false q, Bool.and_false]
    cases h : x.toBitVec.getLsbD 1
    · exact (BitVec.getLsbD_zero (w := 32)).symm
    · exact ((zbt_l1 i hi).trans (decide_eq_false q)).symm
theorem z_x5 {x : Int32} : bc (if x &&& 2 = 0 then 0 else 1) = zbt 1 x := by
  rw [zbt_m1]
  cases zbt 1 x <;> rfl
theorem z_x3 {x : Int32} : bc (if x &&& 8 = 0 then 0 else 1) = zbt 3 x := by
  rw [zbt_m3]
  cases zbt 3 x <;> rfl
theorem z_x5s {x : Int32} : (x &&& 2) <<< ((4 : Int32) &&& 31) = bif zbt 1 x then 32 else 0 := by
  rw [zbt_m1]
  cases zbt 1 x <;> rfl
theorem v_193f : ∀ i : Fin 256, Int32.ofNat i.val &&& 193 = ((bif decide (¬ Int32.ofNat i.val &&& 128 = 0) then 128 else 0) ||| (bif decide (¬ Int32.ofNat i.val &&& 64 = 0) then 64 else 0)) ||| (bif decide (¬ Int32.ofNat i.val &&& 1 = 0) then 1 else 0) := by decide +kernel
theorem z_193 {f : Int32} (h : zr 0 255 f) : f &&& 193 = ((bif decide (¬ f &&& 128 = 0) then 128 else 0) ||| (bif decide (¬ f &&& 64 = 0) then 64 else 0)) ||| (bif decide (¬ f &&& 1 = 0) then 1 else 0) := by
  obtain ⟨i, e⟩ := z_byteF h
  rw [e]
  exact v_193f i
theorem v_ldB : ∀ b7 b6 b5 b3 b2 b0 : Bool, zfl b7 b6 b5 false b3 b2 false b0 = (((((bif b7 then 128 else 0) ||| (bif b6 then 64 else 0)) ||| (bif b0 then 1 else 0)) ||| (bif b5 then 32 else 0)) ||| (bif b3 then 8 else 0)) ||| (bif b2 then 4 else 0) := by decide
theorem v_cpiB : ∀ i : Fin 256, ∀ h x y n c : Bool, zfl (d7 (Int32.ofNat i.val)) (d6 (Int32.ofNat i.val)) x h y n true c = (((((((bif c then 1 else 0) ||| (Int32.ofNat i.val &&& 128)) ||| (if Int32.ofNat i.val = 0 then 64 else 0)) ||| (bif h then 16 else 0)) ||| (bif x then 32 else 0)) ||| (bif y then 8 else 0)) ||| (bif n then 4 else 0)) ||| 2 := by decide +kernel
theorem v_tellf : ∀ i : Fin 256, ((Int32.ofNat i.val >>> ((6 : Int32) &&& 31)) &&& 2 = bif bc (if Int32.ofNat i.val ≤ 127 then 0 else 1) then 2 else 0) ∧ (cpar (Int32.ofNat i.val) = bif bc (gev (Int32.ofNat i.val)) then 4 else 0) := by decide +kernel
theorem v_tellB : ∀ b7 b6 b5 h b3 b2 n : Bool, zfl b7 b6 b5 h b3 b2 n h = ((zfl b7 b6 b5 false b3 false false false ||| (bif n then 2 else 0)) ||| (bif h then 17 else 0)) ||| (bif b2 then 4 else 0) := by decide
theorem v_bk2 : ∀ i : Fin 256, Int32.ofNat i.val &&& 228 = 160 → (Int32.ofNat i.val &&& 3 = Int32.ofNat i.val &&& 7 ∧ ((Int32.ofNat i.val &&& 8 = 0 ∧ zrem ((Int32.ofNat i.val >>> ((3 : Int32) &&& 31)) &&& 7) 2 = 0) ∨ (Int32.ofNat i.val &&& 8 = 8 ∧ zrem ((Int32.ofNat i.val >>> ((3 : Int32) &&& 31)) &&& 7) 2 = 1)) ∧ (Int32.ofNat i.val &&& 16 = 0 ↔ (Int32.ofNat i.val >>> ((3 : Int32) &&& 31)) &&& 7 < 6) ∧ (Int32.ofNat i.val &&& 2 = 0 ↔ ¬ 2 ≤ Int32.ofNat i.val &&& 7) ∧ (Int32.ofNat i.val &&& 7).toInt ≤ 3) := by decide +kernel
section ZBL
variable {I : zSt → zSt → Prop} {σ μ : zSt}
theorem t_bk77 (hI : zIoK I) (h : zTT I σ μ) (hF : zF σ μ) (hW : zWzz σ μ) {op y z v : Int32} (k1 : op &&& 16 = 0 ↔ y < 6) (k2 : op &&& 2 = 0 ↔ ¬ 2 ≤ z) : zp2 (fX5_block_77 σ op v) (fX12_blocks_584 μ y z v) (zEnq I) := by
  unfold fX5_block_77 fX12_blocks_584 fX5_block_88 fX12_blocks_595 fX5_block_135 fX12_blocks_641
  have e16 : zEnq I (σ, 16) (μ, 16) := ⟨h, hF, hW, rfl⟩
  by_cases v0 : v = 0
  · refine zp2_ifl (fun _ => zp2_ifr (fun _ => zp2_some e16) (fun _ => zp2_ifr (fun _ => zp2_some e16) (fun q => absurd v0 q))) (fun q => absurd v0 q)
  refine zp2_ifl (fun q => absurd q v0) (fun _ => ?_)
  by_cases y6 : y < 6
  · exact zp2_ifl (fun _ => zp2_ifr (fun _ => zp2_some e16) (fun q => absurd y6 q)) (fun q => absurd (k1.mpr y6) q)
  refine zp2_ifl (fun q => absurd (k1.mp q) y6) (fun _ => zp2_ifr (fun q => absurd q y6) (fun _ => zp2_ifr (fun q => absurd q v0) (fun _ => ?_)))
  refine zp2_ckl (zp2_ckl (zp2_bvl (fun s1 f1 => zp2_ckr (zp2_ckr (zp2_bvr (fun t1 g1 => ?_))))))
  rw [show zgi μ 3 (19 : Int32).toNatClampNeg = zgi σ 36 (19 : Int32).toNatClampNeg from h.eq (j := 19) (by decide)] at g1
  have h1 : zTT I s1 t1 := by rw [f1, g1]; exact h.upd hI [19] (zQ.wi zQ.rf rfl) (zQ.wi zQ.rf rfl) rfl (zAl1 ⟨rfl, zrg_w (by decide) (by decide) (z_r16 _)⟩)
  have F1 : zF s1 t1 := by rw [f1, g1]; exact hF
  have W1 : zWzz s1 t1 := by rw [f1, g1]; exact hW
  by_cases z2 : 2 ≤ z
  · exact zp2_ifl (fun q => absurd z2 (k2.mp q)) (fun _ => zp2_ifr (fun _ => zp2_some ⟨h1, F1, W1, rfl⟩) (fun q => absurd z2 q))
  · refine zp2_ifl (fun _ => zp2_ifr (fun q => absurd q z2) (fun _ => ?_)) (fun q => absurd (k2.mpr z2) q)
    refine zp2_ckl (zp2_ckl (zp2_bvl (fun s2 f2 => zp2_ckr (zp2_ckr (zp2_bvr (fun t2 g2 => zp2_some ?_))))))
    rw [f2, g2]
    exact zEnq.wz hI h1 F1 (by rw [show zgi t1 3 (19 : Int32).toNatClampNeg = zgi s1 36 (19 : Int32).toNatClampNeg from h1.eq (j := 19) (by decide)]) (z_r16 _)
/-- the class has done its step: what is left of both -/
noncomputable def zBkk (I : zSt → zSt → Prop) (op : Int32) (r : zSt × Int32) (b : zSt × Int32) : Prop := ∀ a, fX5_block_77 r.1 op r.2 = some a → zEnq I a b
theorem zBkk.of {op : Int32} {s : zSt} {v : Int32} {p : Option (zSt × Int32)} (h : zp2 (fX5_block_77 s op v) p (zEnq I)) : zp2 (some (s, v)) p (zBkk I op) := by
  intro a b ea eb
  cases ea
  exact fun x ex => h x b ex eb
theorem t_mv {j : Nat} (hW : zWzz σ μ) (hF : zF σ μ) {s t : zSt} (hj : j = 2 ∨ j = 4 ∨ j = 6) (qc : zQ [] [(36, j, j), (36, j + 1, j + 1)] [] [] σ s) (qm : zQ [] [(3, j, j), (3, j + 1, j + 1)] [] [] μ t) : zF s t ∧ zWzz s t := by
  rcases hj with e | e | e <;> subst e <;> exact ⟨hF.of (qc.1 36 1 rfl) (qm.1 3 1 rfl), hW.of (qc.1 36 20 rfl) (qm.1 3 20 rfl)⟩
/-- a pair is counted on -/
theorem t_cnt2 (hI : zIoK I) (h : zTT I σ μ) (hF : zF σ μ) (hW : zWzz σ μ) {g : Int32 → Int32} {α β : Type} {Q : α → β → Prop} {f : zSt → Option α} {k : zSt → Option β} (c : ∀ s t, zTT I s t → zF s t → zWzz s t → s.1 36 0 = σ.1 36 0 → zp2 (f s) (k t) Q) : zp2 (zbi (fX5_pairAt σ 2) (fun s v => zbu (fX5_putPairAt s 2 (g v)) f)) (zbi (fX12_pair μ 2) (fun s v => zbu (fX12_pairTo s 2 (g v)) k)) Q := by
  refine zp2_sm (t_pair2 h) (fun v rv => zp2_buu (t_pairTo2 hI h rfl) (fun s t q => ?_))
  obtain ⟨h1, qc, qm⟩ := q
  obtain ⟨F1, W1⟩ := t_mv (j := 2) hW hF (by decide) qc qm
  exact c s t h1 F1 W1 (qc.1 36 0 rfl)
theorem t_cnt4 (hI : zIoK I) (h : zTT I σ μ) (hF : zF σ μ) (hW : zWzz σ μ) {g : Int32 → Int32} {α β : Type} {Q : α → β → Prop} {f : zSt → Option α} {k : zSt → Option β} (c : ∀ s t, zTT I s t → zF s t → zWzz s t → s.1 36 0 = σ.1 36 0 → zp2 (f s) (k t) Q) : zp2 (zbi (fX5_pairAt σ 4) (fun s v => zbu (fX5_putPairAt s 4 (g v)) f)) (zbi (fX12_pair μ 4) (fun s v => zbu (fX12_pairTo s 4 (g v)) k)) Q := by
  refine zp2_sm (t_pair4 h) (fun v rv => zp2_buu (t_pairTo4 hI h rfl) (fun s t q => ?_))
  obtain ⟨h1, qc, qm⟩ := q
  obtain ⟨F1, W1⟩ := t_mv (j := 4) hW hF (by decide) qc qm
  exact c s t h1 F1 W1 (qc.1 36 0 rfl)
theorem t_cnt6 (hI : zIoK I) (h : zTT I σ μ) (hF : zF σ μ) (hW : zWzz σ μ) {g : Int32 → Int32} {α β : Type} {Q : α → β → Prop} {f : zSt → Option α} {k : zSt → Option β} (c : ∀ s t, zTT I s t → zF s t → zWzz s t → s.1 36 0 = σ.1 36 0 → zp2 (f s) (k t) Q) : zp2 (zbi (fX5_pairAt σ 6) (fun s v => zbu (fX5_putPairAt s 6 (g v)) f)) (zbi (fX12_pair μ 6) (fun s v => zbu (fX12_pairTo s 6 (g v)) k)) Q := by
  refine zp2_sm (t_pair6 h) (fun v rv => zp2_buu (t_pairTo6 hI h rfl) (fun s t q => ?_))
  obtain ⟨h1, qc, qm⟩ := q
  obtain ⟨F1, W1⟩ := t_mv (j := 6) hW hF (by decide) qc qm
  exact c s t h1 F1 W1 (qc.1 36 0 rfl)
theorem p_b249 {y z f g : Int32} (hz : z = 0 ∨ z = 1) {b7 b6 b5 b4 b3 b2 b1 b0 : Bool} (hf : f = zfl b7 b6 b5 b4 b3 b2 b1 b0) {Q : zSt × Int32 → Prop} (c : zpc (fX12_blocks_584 (zsi μ 3 1 (zfl b7 b6 b5 b4 b3 (bc (if ((μ.1 3 2 <<< ((8 : Int32) &&& 31)) ||| μ.1 3 3) = 0 then 0 else 1)) (bc g) b0)) y z (if ((μ.1 3 2 <<< ((8 : Int32) &&& 31)) ||| μ.1 3 3) = 0 then 0 else if z = 0 then 1 else bif b6 then 0 else 1)) Q) : zpc (fX12_blocks_249 (zsi μ 3 1 f) y z g 1) Q := by
  subst hf
  unfold fX12_blocks_249
  refine zpc_bu p_put (fun s e => ?_)
  rw [pt_1] at e
  subst e
  refine zpc_bi p_pM2 (fun s v e => ?_)
  cases e
  show zpc (if ((μ.1 3 2 <<< ((8 : Int32) &&& 31)) ||| μ.1 3 3) = 0 then fX12_blocks_267 (zsi μ 3 1 (zfl b7 b6 b5 b4 b3 b2 (decide (¬ g = 0)) b0)) y z 0 2 else fX12_blocks_267 (zsi μ 3 1 (zfl b7 b6 b5 b4 b3 b2 (decide (¬ g = 0)) b0)) y z 1 2) Q
  by_cases q : ((μ.1 3 2 <<< ((8 : Int32) &&& 31)) ||| μ.1 3 3) = 0
  · rw [if_pos q] at c ⊢
    rw [if_pos q] at c
    unfold fX12_blocks_267 fX12_blocks_296 fX12_blocks_297
    refine zpc_bu p_put (fun s e => ?_)
    rw [pt_2] at e
    subst e
    refine zpc_bi p_flag (fun s v e => ?_)
    cases e
    rw [show (zsi μ 3 1 (zfl b7 b6 b5 b4 b3 (decide (¬ (0 : Int32) = 0)) (decide (¬ g = 0)) b0)).1 3 1 = zfl b7 b6 b5 b4 b3 false (decide (¬ g = 0)) b0 from rfl, fl_g2]
    exact zpc_if (fun q => absurd q (by decide)) (fun _ => c)
  · rw [if_neg q] at c ⊢
    rw [if_neg q] at c
    unfold fX12_blocks_267 fX12_blocks_296 fX12_blocks_297 fX12_blocks_292
    refine zpc_bu p_put (fun s e => ?_)
    rw [pt_2] at e
    subst e
    refine zpc_bi p_flag (fun s v e => ?_)
    cases e
    rw [show (zsi μ 3 1 (zfl b7 b6 b5 b4 b3 (decide (¬ (1 : Int32) = 0)) (decide (¬ g = 0)) b0)).1 3 1 = zfl b7 b6 b5 b4 b3 true (decide (¬ g = 0)) b0 from rfl, fl_g2]
    refine zpc_if (fun _ => ?_) (fun q => absurd rfl q)
    rcases hz with e | e
    · subst e
      exact zpc_if (fun _ => c) (fun q => absurd rfl q)
    · subst e
      refine zpc_if (fun q => absurd q (by decide)) (fun _ => zpc_bi p_flag (fun s v e => ?_))
      cases e
      rw [show (zsi μ 3 1 (zfl b7 b6 b5 b4 b3 (decide (¬ (1 : Int32) = 0)) (decide (¬ g = 0)) b0)).1 3 1 = zfl b7 b6 b5 b4 b3 true (decide (¬ g = 0)) b0 from rfl, fl_g6]
      cases b6
      · exact zpc_if (fun _ => c) (fun q => absurd rfl q)
      · exact zpc_if (fun q => absurd q (by decide)) (fun _ => c)
theorem p_b202 {y z f x : Int32} (hz : z = 0 ∨ z = 1) {b7 b6 b5 b4 b3 b2 b1 b0 : Bool} (hf : f = zfl b7 b6 b5 b4 b3 b2 b1 b0) {Q : zSt × Int32 → Prop} (c : zpc (fX12_blocks_584 (zsi μ 3 1 (zfl b7 b6 (zbt 1 x) b4 (zbt 3 x) (bc (if ((μ.1 3 2 <<< ((8 : Int32) &&& 31)) ||| μ.1 3 3) = 0 then 0 else 1)) (bc z) b0)) y z (if ((μ.1 3 2 <<< ((8 : Int32) &&& 31)) ||| μ.1 3 3) = 0 then 0 else if z = 0 then 1 else bif b6 then 0 else 1)) Q) : zpc (fX12_blocks_202 (zsi μ 3 1 f) y z x) Q := by
  subst hf
  unfold fX12_blocks_202
  refine zpc_jx (K := fun g => fX12_blocks_216 (zsi μ 3 1 (zfl b7 b6 b5 b4 b3 b2 b1 b0)) y z x g 5) (a := 0) (b := 1) rfl rfl (fun g eg => ?_)
  unfold fX12_blocks_216
  refine zpc_bu p_put (fun s e => ?_)
  rw [pt_5] at e
  subst e
  refine zpc_jx (K := fun k => fX12_blocks_234 (zsi μ 3 1 (zfl b7 b6 (decide (¬ g = 0)) b4 b3 b2 b1 b0)) y z k 3) (a := 0) (b := 1) rfl rfl (fun k ek => ?_)
  unfold fX12_blocks_234
  refine zpc_bu p_put (fun s e => ?_)
  rw [pt_3] at e
  subst e
  have e5 : decide (¬ g = 0) = zbt 1 x := by rw [eg]; exact z_x5
  have e3 : decide (¬ k = 0) = zbt 3 x := by rw [ek]; exact z_x3
  rw [e5, e3]
  rcases hz with e | e
  · subst e
    exact zpc_if (fun q => absurd q (by decide)) (fun _ => p_b249 (Or.inl rfl) rfl c)
  · subst e
    exact zpc_if (fun _ => p_b249 (Or.inr rfl) rfl c) (fun q => absurd rfl q)
theorem t_copy (hI : zIoK I) (h : zTT I σ μ) (hF : zF σ μ) (hW : zWzz σ μ) {op y d : Int32} (k1 : op &&& 16 = 0 ↔ y < 6) (k2 : op &&& 2 = 0 ↔ ¬ 2 ≤ (0 : Int32)) : zp2 (zbi (fX5_copyOne σ d) (fun σ3 v4 => fX5_block_77 σ3 op v4)) (fX12_blocks_11 μ y 0 d) (zEnq I) := by
  refine zp2_bilp (P := zBkk I op) ?_ (fun s v b q a b' ea eb => by cases eb; exact q a ea)
  unfold fX5_copyOne fX12_blocks_11
  refine zp2_ifr (fun q => absurd q (by decide)) (fun _ => ?_)
  refine zp2_sm (t_pair6 h) (fun a ra => zp2_rd h.1 rfl (fun b rb => zp2_ifr (fun _ => ?_) (fun q => absurd rfl q)))
  refine zp2_sm (t_pair4 h) (fun e re => zp2_wr h.1 rfl (z_m255 rb) rb (fun s1 t1 hm q1 q2 => ?_))
  have h1 := h.mem hI hm q1 q2
  have F1 : zF s1 t1 := hF.of (q1.1 36 1 rfl) (q2.1 3 1 rfl)
  have W1 : zWzz s1 t1 := hW.of (q1.1 36 20 rfl) (q2.1 3 20 rfl)
  unfold fX12_blocks_44
  refine t_cnt6 hI h1 F1 W1 (g := fun v => v + d) (fun s2 t2 h2 F2 W2 _ => zp2_ifr (fun _ => ?_) (fun q => absurd rfl q))
  refine t_cnt4 hI h2 F2 W2 (g := fun v => v + d) (fun s3 t3 h3 F3 W3 _ => ?_)
  unfold fX12_blocks_74
  refine t_cnt2 hI h3 F3 W3 (g := fun v => v - 1) (fun s4 t4 h4 F4 W4 _ => zp2_ifr (fun _ => zp2_ckr ?_) (fun q => absurd rfl q))
  have hf : zr 0 255 (s4.1 36 1) := h4.b (by decide)
  have ef : t4.1 3 1 = s4.1 36 1 := F4
  have ea : zgi t4 3 (0 : Int32).toNatClampNeg = s4.1 36 0 := h4.eq (j := 0) (by decide)
  unfold fX12_blocks_111
  rw [ea]
  refine zp2_ifr (fun q => absurd q (by decide)) (fun _ => zp2_bur p_put' (fun t5 e5 => ?_))
  rw [ef, fl_of hf, pt_4] at e5
  subst e5
  -- the class
  have cC : zpc (zbi (fX5_pairAt s4 2) (fun σ19 v20 => if v20 = 0 then fX5_copyOne_78 σ19 b 0 else fX5_copyOne_78 σ19 b 1)) (fun r => r = (zsi s4 36 1 ((((s4.1 36 1 &&& 193) ||| (((s4.1 36 0 + b) &&& 2) <<< ((4 : Int32) &&& 31))) ||| ((s4.1 36 0 + b) &&& 8)) ||| (if ((s4.1 36 2 <<< ((8 : Int32) &&& 31)) ||| s4.1 36 3) = 0 then 0 else 4)), if ((s4.1 36 2 <<< ((8 : Int32) &&& 31)) ||| s4.1 36 3) = 0 then 0 else 1)) := by
    refine zpc_bi p_pC2 (fun s v e => ?_)
    cases e
    have nx : ∀ c g : Int32, (c = 0 → g = 0) → (¬ c = 0 → g = 4) → zpc (fX5_copyOne_78 s4 b c) (fun r => r = (zsi s4 36 1 ((((s4.1 36 1 &&& 193) ||| (((s4.1 36 0 + b) &&& 2) <<< ((4 : Int32) &&& 31))) ||| ((s4.1 36 0 + b) &&& 8)) ||| g), c)) := fun c g g0 g4 => by
      unfold fX5_copyOne_78 fX5_copyOne_126
      refine zpc_ck (zpc_bv (fun x ex => zpc_ck (zpc_if (fun q => zpc_ck (zpc_bv (fun s5 f5 => zpc_ck (zpc_some ?_)))) (fun q => zpc_ck (zpc_bv (fun s5 f5 => zpc_ck (zpc_some ?_)))))))
      · rw [f5, ex, g0 q]; rfl
      · rw [f5, ex, g4 q]; rfl
    refine zpc_if (fun q => ?_) (fun q => ?_)
    · rw [if_pos q, if_pos q]; exact nx 0 0 (fun _ => rfl) (fun q => absurd rfl q)
    · rw [if_neg q, if_neg q]; exact nx 1 4 (fun q => absurd q (by decide)) (fun _ => rfl)
  intro r r' er er'
  have ec := cC r er
  subst ec
  refine zBkk.of ?_ _ r' rfl er'
  intro a' b' ea' eb'
  -- the reference
  have e2 : t4.1 3 2 = s4.1 36 2 := h4.eq (by decide)
  have e3 : t4.1 3 3 = s4.1 36 3 := h4.eq (by decide)
  refine p_b202 (Or.inl rfl) rfl (Q := fun b => zEnq I a' b) (fun b2 eb2 => ?_) b' eb'
  rw [e2, e3] at eb2
  have eN : ∀ n : Int32, (if n = 0 then (0 : Int32) else 4) = bif bc (if n = 0 then 0 else 1) then 4 else 0 := fun n => by
    by_cases q : n = 0
    · rw [if_pos q, if_pos q]; rfl
    · rw [if_neg q, if_neg q]; rfl
  have eF : zfl (decide (¬ s4.1 36 1 &&& 128 = 0)) (decide (¬ s4.1 36 1 &&& 64 = 0)) (zbt 1 (s4.1 36 0 + b)) (decide (¬ (0 : Int32) = 0)) (zbt 3 (s4.1 36 0 + b)) (bc (if ((s4.1 36 2 <<< ((8 : Int32) &&& 31)) ||| s4.1 36 3) = 0 then 0 else 1)) (bc 0) (decide (¬ s4.1 36 1 &&& 1 = 0)) = (((s4.1 36 1 &&& 193) ||| (((s4.1 36 0 + b) &&& 2) <<< ((4 : Int32) &&& 31))) ||| ((s4.1 36 0 + b) &&& 8)) ||| (if ((s4.1 36 2 <<< ((8 : Int32) &&& 31)) ||| s4.1 36 3) = 0 then 0 else 4) := by
    rw [z_193 hf, z_x5s, zbt_m3, eN, ← v_ldB]
    rfl
  rw [eF, if_pos (rfl : (0 : Int32) = 0)] at eb2
  have rF : zr 0 255 ((((s4.1 36 1 &&& 193) ||| (((s4.1 36 0 + b) &&& 2) <<< ((4 : Int32) &&& 31))) ||| ((s4.1 36 0 + b) &&& 8)) ||| (if ((s4.1 36 2 <<< ((8 : Int32) &&& 31)) ||| s4.1 36 3) = 0 then 0 else 4)) := by
    rw [← eF]
    exact zfl_r _ _ _ _ _ _ _ _
  exact t_bk77 hI ((h4.onC hI (Or.inl rfl) (zrg_b (Or.inl (by decide)) rF)).onM hI (Or.inl rfl)) rfl W4 k1 k2 a' b2 ea' eb2
theorem z_mod8 {x g : Int32} {k : Nat} (hk : k = 1 ∨ k = 3) (hx : zr (-255) 255 x) (hg : zr 0 1 g) : zbt k ((x &&& 255) - g) = zbt k (x - g) := by
  have w := z_w8 (v := x) rfl ⟨by have := hx.1; omega, by have := hx.2; omega⟩
  have x0 := hx.1
  have x1 := hx.2
  have g0 := hg.1
  have g1 := hg.2
  have e1 : ((x &&& 255) - g).toInt = (x &&& 255).toInt - g.toInt := z_tsub (z_r8 x) hg (by decide)
  have e2 : (x - g).toInt = x.toInt - g.toInt := z_tsub hx hg (by decide)
  have t1 := z_tc ((x &&& 255) - g)
  have t2 := z_tc (x - g)
  rw [zbt_n, zbt_n]
  rcases hk with e | e <;> subst e
  · have n : (2 : Nat) ^ 1 = 2 := by decide
    rw [n]
    exact decide_eq_decide.mpr (by omega)
  · have n : (2 : Nat) ^ 3 = 8 := by decide
    rw [n]
    exact decide_eq_decide.mpr (by omega)
theorem v_h4 : ∀ h : Bool, (bif h then (16 : Int32) else 0) >>> ((4 : Int32) &&& 31) = bif h then 1 else 0 := by decide
theorem t_cmp (hI : zIoK I) (h : zTT I σ μ) (hF : zF σ μ) (hW : zWzz σ μ) {op y d : Int32} (k1 : op &&& 16 = 0 ↔ y < 6) (k2 : op &&& 2 = 0 ↔ ¬ 2 ≤ (1 : Int32)) : zp2 (zbi (fX5_compareOne σ d) (fun σ3 v4 => fX5_block_77 σ3 op v4)) (fX12_blocks_11 μ y 1 d) (zEnq I) := by
  refine zp2_bilp (P := zBkk I op) ?_ (fun s v b q a b' ea eb => by cases eb; exact q a ea)
  unfold fX5_compareOne fX12_blocks_11
  refine zp2_ifr (fun q => absurd q (by decide)) (fun _ => ?_)
  refine zp2_sm (t_pair6 h) (fun a ra => zp2_rd h.1 rfl (fun b rb => zp2_ifr (fun q => absurd q (by decide)) (fun _ => ?_)))
  refine zp2_ckl (zp2_bvl (fun w ew => zp2_ckl (zp2_bvl (fun hh eh => ?_))))
  have ew : w = (σ.1 36 0 - b) &&& 255 := ew
  have eh : hh = ((σ.1 36 0 ^^^ b) ^^^ w) &&& 16 := eh
  unfold fX12_blocks_44
  refine t_cnt6 hI h hF hW (g := fun v => v + d) (fun s2 t2 h2 F2 W2 a2 => zp2_ifr (fun q => absurd q (by decide)) (fun _ => ?_))
  unfold fX12_blocks_74
  refine t_cnt2 hI h2 F2 W2 (g := fun v => v - 1) (fun s4 t4 h4 F4 W4 a4 => zp2_ifr (fun q => absurd q (by decide)) (fun _ => zp2_ckr ?_))
  unfold fX12_blocks_111
  refine zp2_ifr (fun _ => zp2_ckr (zp2_ckr (zp2_bvr (fun t5 g5 => zp2_ckr ?_)))) (fun q => absurd rfl q)
  refine zp2_ckl (zp2_ckl (zp2_bvl (fun s5 f5 => ?_)))
  rw [show zgi t4 3 (20 : Int32).toNatClampNeg = zgi s4 36 (20 : Int32).toNatClampNeg from W4] at g5
  have zz := zEnq.wz hI h4 F4 (v := ((zgi s4 36 (20 : Int32).toNatClampNeg) + d) &&& 65535) rfl (z_r16 _) (b := 0)
  have f5' : s5 = zsi s4 36 20 (((zgi s4 36 (20 : Int32).toNatClampNeg) + d) &&& 65535) := f5
  have g5' : t5 = zsi t4 3 20 (((zgi s4 36 (20 : Int32).toNatClampNeg) + d) &&& 65535) := g5
  have h5 : zTT I s5 t5 := by rw [f5', g5']; exact zz.1
  have F5 : zF s5 t5 := by rw [f5', g5']; exact zz.2.1
  have W5 : zWzz s5 t5 := by rw [f5', g5']; exact zz.2.2.1
  have a5 : s5.1 36 0 = σ.1 36 0 := by rw [f5']; exact a4.trans a2
  have aM : zgi t5 3 (0 : Int32).toNatClampNeg = σ.1 36 0 := (h5.eq (j := 0) (by decide)).trans a5
  have aM4 : zgi t4 3 (0 : Int32).toNatClampNeg = σ.1 36 0 := (h4.eq (j := 0) (by decide)).trans (a4.trans a2)
  rw [aM, aM4]
  have hf : zr 0 255 (s5.1 36 1) := h5.b (by decide)
  have ef : t5.1 3 1 = s5.1 36 1 := F5
  have rA : zr 0 255 (σ.1 36 0) := h.b (by decide)
  clear f5 g5 f5' g5' zz
  generalize σ.1 36 0 = A at *
  have rw1 : zr 0 255 w := by rw [ew]; exact z_r8 _
  -- half
  have m1 : (A &&& 15).toInt = A.toInt % 16 := z_mask (k := 4) rA.1 rfl (by decide)
  have m2 : (b &&& 15).toInt = b.toInt % 16 := z_mask (k := 4) rb.1 rfl (by decide)
  have r15 : ∀ x : Int32, zr 0 15 (x &&& 15) := fun x => zr_andr (lo := 0) (hi := 15) (zr_c (lo := 15) (hi := 15) (by decide)) (by decide)
  have eS : hS A b 0 = if (b &&& 15) ≤ (A &&& 15) then 0 else 1 := by
    unfold hS
    have e1 : ((A &&& 15) - (b &&& 15)).toInt = (A &&& 15).toInt - (b &&& 15).toInt := z_tsub (r15 _) (r15 _) (by decide)
    rw [Int32.sub_zero]
    have c0 : (0 : Int32).toInt = 0 := rfl
    by_cases q : (b &&& 15) ≤ (A &&& 15)
    · have q1 := Int32.le_iff_toInt_le.mp q
      rw [if_pos q, if_pos (Int32.le_iff_toInt_le.mpr (by omega))]
    · have q1 := Int32.lt_iff_toInt_lt.mp (z_nle q)
      rw [if_neg q, if_neg (fun r => by have := Int32.le_iff_toInt_le.mp r; omega)]
  have eH : hh = bif bc (if (b &&& 15) ≤ (A &&& 15) then 0 else 1) then 16 else 0 := by
    have v := v_hS (a := A) (b := b) (c := 0) (zr_c (by decide))
    rw [eS, Int32.sub_zero, ← ew, ← eh] at v
    exact v
  -- the class
  have cC : zpc (zbi (fX5_pairAt s5 2) (fun σ16 v17 => if v17 = 0 then fX5_compareOne_100 σ16 w hh 0 else fX5_compareOne_100 σ16 w hh 1)) (fun r => r = (zsi s5 36 1 ((((((((s5.1 36 1 &&& 1) ||| (w &&& 128)) ||| (if w = 0 then 64 else 0)) ||| hh) ||| (((w - (hh >>> ((4 : Int32) &&& 31))) &&& 2) <<< ((4 : Int32) &&& 31))) ||| ((w - (hh >>> ((4 : Int32) &&& 31))) &&& 8)) ||| (if ((s5.1 36 2 <<< ((8 : Int32) &&& 31)) ||| s5.1 36 3) = 0 then 0 else 4)) ||| 2), if ((s5.1 36 2 <<< ((8 : Int32) &&& 31)) ||| s5.1 36 3) = 0 then 0 else if w = 0 then 0 else 1)) := by
    refine zpc_bi p_pC2 (fun s v e => ?_)
    cases e
    have nx : ∀ c g : Int32, (c = 0 → g = 0) → (¬ c = 0 → g = 4) → zpc (fX5_compareOne_100 s5 w hh c) (fun r => r = (zsi s5 36 1 ((((((((s5.1 36 1 &&& 1) ||| (w &&& 128)) ||| (if w = 0 then 64 else 0)) ||| hh) ||| (((w - (hh >>> ((4 : Int32) &&& 31))) &&& 2) <<< ((4 : Int32) &&& 31))) ||| ((w - (hh >>> ((4 : Int32) &&& 31))) &&& 8)) ||| g) ||| 2), if c = 0 then 0 else if w = 0 then 0 else 1)) := fun c g g0 g4 => by
      unfold fX5_compareOne_100
      refine zpc_bv (fun x ex => zpc_ck ?_)
      subst ex
      refine zpc_jx (K := fun u => fX5_compareOne_139 s5 w hh c (w - (hh >>> ((4 : Int32) &&& 31))) u (((zgi s5 36 (1 : Int32).toNatClampNeg) &&& 1) ||| (w &&& 128)) 1) (a := 64) (b := 0) rfl rfl (fun u eu => ?_)
      unfold fX5_compareOne_139 fX5_compareOne_166 fX5_compareOne_183 fX5_compareOne_184
      rw [← eu]
      refine zpc_if (fun q => zpc_ck (zpc_bv (fun s6 f6 => zpc_if (fun _ => zpc_ck (zpc_some ?_)) (fun r => absurd q r)))) (fun q => zpc_ck (zpc_bv (fun s6 f6 => zpc_if (fun r => absurd r q) (fun _ => zpc_if (fun q2 => zpc_ck (zpc_some ?_)) (fun q2 => zpc_ck (zpc_some ?_))))))
      · rw [f6, if_pos q, g0 q]; rfl
      · rw [f6, if_neg q, if_pos q2, g4 q]; rfl
      · rw [f6, if_neg q, if_neg q2, g4 q]; rfl
    refine zpc_if (fun q => ?_) (fun q => ?_)
    · rw [if_pos q, if_pos q]; exact nx 0 0 (fun _ => rfl) (fun q => absurd rfl q)
    · rw [if_neg q, if_neg q]; exact nx 1 4 (fun q => absurd q (by decide)) (fun _ => rfl)
  intro r r' er er'
  have ec := cC r er
  subst ec
  refine zBkk.of ?_ _ r' rfl er'
  intro a' b' ea' eb'
  -- the reference
  have e2 : t5.1 3 2 = s5.1 36 2 := h5.eq (by decide)
  have e3 : t5.1 3 3 = s5.1 36 3 := h5.eq (by decide)
  have cM : zpc (if (b &&& 15) ≤ (A &&& 15) then fX12_blocks_159 t5 y 1 (A - b) 0 else fX12_blocks_159 t5 y 1 (A - b) 1) (fun x => zEnq I a' x) := by
    refine zpc_jx (K := fun g => fX12_blocks_159 t5 y 1 (A - b) g) (a := 0) (b := 1) rfl rfl (fun g eg => ?_)
    have rg : zr 0 1 g := by
      rw [eg]
      by_cases q : (b &&& 15) ≤ (A &&& 15)
      · rw [if_pos q]; exact zr_c (by decide)
      · rw [if_neg q]; exact zr_c (by decide)
    unfold fX12_blocks_159
    rw [← ew]
    refine zpc_bu p_by' (fun t6 e6 => ?_)
    rw [ef, fl_of hf, fl_by] at e6
    subst e6
    refine zpc_bu p_put (fun t6 e6 => ?_)
    rw [pt_4] at e6
    subst e6
    have nx : zpc (fX12_blocks_190 (zsi t5 3 1 (zfl (d7 w) (d6 w) (d5 w) (decide (¬ g = 0)) (d3 w) (decide (¬ s5.1 36 1 &&& 4 = 0)) (decide (¬ s5.1 36 1 &&& 2 = 0)) (decide (¬ s5.1 36 1 &&& 1 = 0)))) y 1 g (A - b)) (fun x => zEnq I a' x) := by
      unfold fX12_blocks_190
      refine zpc_bv (fun x ex => ?_)
      refine p_b202 (Or.inr rfl) rfl (fun b2 eb2 => ?_)
      rw [e2, e3] at eb2
      have eN : ∀ n : Int32, (if n = 0 then (0 : Int32) else 4) = bif bc (if n = 0 then 0 else 1) then 4 else 0 := fun n => by
        by_cases q : n = 0
        · rw [if_pos q, if_pos q]; rfl
        · rw [if_neg q, if_neg q]; rfl
      have eg1 : (bif bc g then (1 : Int32) else 0) = g := by
        obtain ⟨i, ei⟩ := z_bit1 rg
        have k : ∀ i : Fin 2, (bif bc (Int32.ofNat i.val) then (1 : Int32) else 0) = Int32.ofNat i.val := by decide
        rw [ei]
        exact k i
      have eh2 : hh = bif bc g then 16 else 0 := by rw [eH, eg]
      have ex2 : w - (hh >>> ((4 : Int32) &&& 31)) = w - g := by rw [eh2, v_h4, eg1]
      have rd : zr (-255) 255 (A - b) := zr_sub (lo := -255) (hi := 255) rA rb (by decide)
      have z1 : zbt 1 (w - g) = zbt 1 x := by rw [ex, ew]; exact z_mod8 (Or.inl rfl) rd rg
      have z3 : zbt 3 (w - g) = zbt 3 x := by rw [ex, ew]; exact z_mod8 (Or.inr rfl) rd rg
      have eF : zfl (d7 w) (d6 w) (zbt 1 x) (decide (¬ g = 0)) (zbt 3 x) (bc (if ((s5.1 36 2 <<< ((8 : Int32) &&& 31)) ||| s5.1 36 3) = 0 then 0 else 1)) (bc 1) (decide (¬ s5.1 36 1 &&& 1 = 0)) = (((((((s5.1 36 1 &&& 1) ||| (w &&& 128)) ||| (if w = 0 then 64 else 0)) ||| hh) ||| (((w - (hh >>> ((4 : Int32) &&& 31))) &&& 2) <<< ((4 : Int32) &&& 31))) ||| ((w - (hh >>> ((4 : Int32) &&& 31))) &&& 8)) ||| (if ((s5.1 36 2 <<< ((8 : Int32) &&& 31)) ||| s5.1 36 3) = 0 then 0 else 4)) ||| 2 := by
        conv => rhs; rw [ex2, z_x5s, zbt_m3, eN, z1, z3, z_f1 hf, eh2]
        obtain ⟨i, ei⟩ := z_byteF rw1
        rw [ei, ← v_cpiB i]
        rfl
      have e6 : (bif d6 w then (0 : Int32) else 1) = if w = 0 then 0 else 1 := by
        unfold d6
        by_cases q : w = 0
        · rw [if_pos q, if_pos q]; rfl
        · rw [if_neg q, if_neg q]; rfl
      rw [eF, if_neg (show ¬ (1 : Int32) = 0 by decide), e6] at eb2
      have rF : zr 0 255 ((((((((s5.1 36 1 &&& 1) ||| (w &&& 128)) ||| (if w = 0 then 64 else 0)) ||| hh) ||| (((w - (hh >>> ((4 : Int32) &&& 31))) &&& 2) <<< ((4 : Int32) &&& 31))) ||| ((w - (hh >>> ((4 : Int32) &&& 31))) &&& 8)) ||| (if ((s5.1 36 2 <<< ((8 : Int32) &&& 31)) ||| s5.1 36 3) = 0 then 0 else 4)) ||| 2) := by
        rw [← eF]
        exact zfl_r _ _ _ _ _ _ _ _
      exact t_bk77 hI ((h5.onC hI (Or.inl rfl) (zrg_b (Or.inl (by decide)) rF)).onM hI (Or.inl rfl)) rfl W5 k1 k2 a' b2 ea' eb2
    by_cases g0 : g = 0
    · rw [if_pos g0]
      rw [g0] at nx ⊢
      exact nx
    · have g1 : g = 1 := by
        obtain ⟨i, ei⟩ := z_bit1 rg
        have : ∀ i : Fin 2, ¬ Int32.ofNat i.val = 0 → Int32.ofNat i.val = 1 := by decide
        rw [ei] at g0 ⊢
        exact this i g0
      rw [if_neg g0]
      rw [g1] at nx ⊢
      exact nx
  exact cM b' eb'
end ZBL
end ZJN21
section ZJN22
/-! THE BLOCKS' PORTS -/
noncomputable def cTl (B v k : Int32) : Int32 := ((cby B ||| ((v >>> ((6 : Int32) &&& 31)) &&& 2)) ||| (if k ≤ 255 then 0 else 17)) ||| cpar ((k &&& 7) ^^^ B)
section ZBP
variable {I : zSt → zSt → Prop} {σ μ : zSt}
theorem p_tell {v k : Int32} : zpc (fX5_tellOfPort σ v k) (fun r => r = zsi σ 36 1 (cTl (σ.1 36 2) v k)) := by
  unfold fX5_tellOfPort cTl
  refine zpc_ck (zpc_bi p_byC (fun s x e => ?_))
  cases e
  refine zpc_jx (K := fun g => fX5_tellOfPort_34 σ k g (cby (zgi σ 36 (2 : Int32).toNatClampNeg) ||| ((v >>> ((6 : Int32) &&& 31)) &&& 2)) 1) (a := 0) (b := 17) rfl rfl (fun g eg => ?_)
  unfold fX5_tellOfPort_34
  refine zpc_ck (zpc_bi p_parC (fun s x e => ?_))
  cases e
  refine zpc_ck (zpc_bv (fun t et => zpc_some ?_))
  rw [et, eg]
  rfl
theorem fl_tell {f B v k : Int32} (hf : zr 0 255 f) (hB : zr 0 255 B) (hv : zr 0 255 v) : pt (pt (pt (pt (gby f B) 1 (if v ≤ 127 then 0 else 1)) 4 (if k ≤ 255 then 0 else 1)) 0 (if k ≤ 255 then 0 else 1)) 2 (gev ((k &&& 7) ^^^ B)) = cTl B v k := by
  have r7 : zr 0 255 ((k &&& 7) ^^^ B) := z_xb (zr_w (z_r7 k) (by decide)) hB
  unfold cTl
  have e1 : (v >>> ((6 : Int32) &&& 31)) &&& 2 = bif bc (if v ≤ 127 then 0 else 1) then 2 else 0 := by
    obtain ⟨i, e⟩ := z_byteF hv
    rw [e]
    exact (v_tellf i).1
  have e2 : cpar ((k &&& 7) ^^^ B) = bif bc (gev ((k &&& 7) ^^^ B)) then 4 else 0 := by
    obtain ⟨i, e⟩ := z_byteF r7
    rw [e]
    exact (v_tellf i).2
  have e3 : (if k ≤ 255 then (0 : Int32) else 17) = bif bc (if k ≤ 255 then 0 else 1) then 17 else 0 := by
    by_cases q : k ≤ 255
    · rw [if_pos q, if_pos q]; rfl
    · rw [if_neg q, if_neg q]; rfl
  rw [e1, e2, e3, v_cby hB, ← v_tellB]
  conv => lhs; rw [fl_of hf, fl_by, pt_1, pt_4, pt_0, pt_2]
  rfl
theorem r_tell {f B v k : Int32} (hf : zr 0 255 f) (hB : zr 0 255 B) (hv : zr 0 255 v) : zr 0 255 (cTl B v k) := by
  rw [← fl_tell hf hB hv, fl_of hf, fl_by, pt_1, pt_4, pt_0, pt_2]
  exact zfl_r _ _ _ _ _ _ _ _
theorem p_485 {y z v k : Int32} {Q : zSt × Int32 → Prop} (c : zpc (fX12_blocks_584 (zsi μ 3 1 (pt (pt (pt (pt (gby (μ.1 3 1) (μ.1 3 2)) 1 (if v ≤ 127 then 0 else 1)) 4 (if k ≤ 255 then 0 else 1)) 0 (if k ≤ 255 then 0 else 1)) 2 (gev ((k &&& 7) ^^^ μ.1 3 2)))) y z (if μ.1 3 2 = 0 then 0 else 1)) Q) : zpc (fX12_blocks_485 μ y z v k) Q := by
  unfold fX12_blocks_485
  refine zpc_ck (zpc_bu p_by' (fun s e => ?_))
  have e : s = zsi μ 3 1 (gby (μ.1 3 1) (μ.1 3 2)) := e
  subst e
  refine zpc_jx (K := fun g => fX12_blocks_509 (zsi μ 3 1 (gby (μ.1 3 1) (μ.1 3 2))) y z k g 1) (a := 0) (b := 1) rfl rfl (fun g1 e1 => ?_)
  unfold fX12_blocks_509
  refine zpc_bu p_put (fun s e => ?_)
  subst e
  refine zpc_jx (K := fun g => fX12_blocks_527 (zsi μ 3 1 (pt (gby (μ.1 3 1) (μ.1 3 2)) 1 g1)) y z k g 4) (a := 0) (b := 1) rfl rfl (fun g2 e2 => ?_)
  unfold fX12_blocks_527
  refine zpc_bu p_put (fun s e => ?_)
  subst e
  refine zpc_jx (K := fun g => fX12_blocks_545 (zsi μ 3 1 (pt (pt (gby (μ.1 3 1) (μ.1 3 2)) 1 g1) 4 g2)) y z k g 0) (a := 0) (b := 1) rfl rfl (fun g3 e3 => ?_)
  unfold fX12_blocks_545 fX12_blocks_582
  refine zpc_bu p_put (fun s e => zpc_ck ?_)
  subst e
  refine zpc_bi p_even (fun s x e => ?_)
  cases e
  refine zpc_bu p_put (fun s e => zpc_ck ?_)
  subst e
  rw [← e1, ← e2] at c
  have e32 : g3 = g2 := e3.trans e2.symm
  rw [e32]
  refine zpc_jx (K := fun g => fX12_blocks_584 _ y z g) (a := 0) (b := 1) rfl rfl (fun g eg => ?_)
  rw [eg]
  exact c
theorem t_tell (hI : zIoK I) (h : zTT I σ μ) (hF : zF σ μ) (hW : zWzz σ μ) {op y z v k : Int32} (k1 : op &&& 16 = 0 ↔ y < 6) (k2 : op &&& 2 = 0 ↔ ¬ 2 ≤ z) (hv : zr 0 255 v) {L : zSt → Int32 → Option (zSt × Int32)} (hL : ∀ s c, zpc (L s c) (fun r => r = (s, c))) : zp2 (zbu (fX5_tellOfPort σ v k) (fun σ13 => zck (zin 2 29) (if (zgi σ13 36 (2 : Int32).toNatClampNeg) = 0 then L σ13 0 else L σ13 1))) (fX12_blocks_485 μ y z v k) (zBkk I op) := by
  have hf : zr 0 255 (σ.1 36 1) := h.b (by decide)
  have hB : zr 0 255 (σ.1 36 2) := h.b (by decide)
  have ef : μ.1 3 1 = σ.1 36 1 := hF
  have eb : μ.1 3 2 = σ.1 36 2 := h.eq (by decide)
  have cC : zpc (zbu (fX5_tellOfPort σ v k) (fun σ13 => zck (zin 2 29) (if (zgi σ13 36 (2 : Int32).toNatClampNeg) = 0 then L σ13 0 else L σ13 1))) (fun r => r = (zsi σ 36 1 (cTl (σ.1 36 2) v k), if σ.1 36 2 = 0 then 0 else 1)) := by
    refine zpc_bu p_tell (fun s e => zpc_ck ?_)
    subst e
    refine zpc_if (fun q => ?_) (fun q => ?_)
    · intro r er
      rw [hL _ _ r er, if_pos (show σ.1 36 2 = 0 from q)]
    · intro r er
      rw [hL _ _ r er, if_neg (show ¬ σ.1 36 2 = 0 from q)]
  intro r r' er er'
  have ec := cC r er
  subst ec
  refine zBkk.of ?_ _ r' rfl er'
  intro a' b' ea' eb'
  refine p_485 (Q := fun x => zEnq I a' x) (fun b2 eb2 => ?_) b' eb'
  rw [ef, eb, fl_tell hf hB hv] at eb2
  exact t_bk77 hI ((h.onC hI (Or.inl rfl) (zrg_b (Or.inl (by decide)) (r_tell hf hB hv))).onM hI (Or.inl rfl)) rfl hW k1 k2 a' b2 ea' eb2
/-- B is counted down -/
theorem t_bdn (hI : zIoK I) (h : zTT I σ μ) {s t : zSt} (f : s = zsi σ 36 ((2 : Int32).toNatClampNeg) (((zgi σ 36 (2 : Int32).toNatClampNeg) - 1) &&& 255)) (g : t = zsi μ 3 ((2 : Int32).toNatClampNeg) (((zgi μ 3 (2 : Int32).toNatClampNeg) - 1) &&& 255)) : zTT I s t := by
  rw [show zgi μ 3 (2 : Int32).toNatClampNeg = zgi σ 36 (2 : Int32).toNatClampNeg from h.eq (j := 2) (by decide)] at g
  subst f
  subst g
  exact h.upd hI [2] (zQ.wi zQ.rf rfl) (zQ.wi zQ.rf rfl) rfl (zAl1 ⟨rfl, zrg_b (Or.inl (by decide)) (z_r8 _)⟩)
theorem t_take (hI : zIoK I) (hPo : zPorts I) (h : zTT I σ μ) (hF : zF σ μ) {op y d : Int32} (k1 : op &&& 16 = 0 ↔ y < 6) (k2 : op &&& 2 = 0 ↔ ¬ 2 ≤ (2 : Int32)) : zp2 (zbi (fX5_takeOne σ d) (fun σ3 v4 => fX5_block_77 σ3 op v4)) (fX12_blocks_11 μ y 2 d) (zEnq I) := by
  refine zp2_bilp (P := zBkk I op) ?_ (fun s v b q a b' ea eb => by cases eb; exact q a ea)
  unfold fX5_takeOne fX12_blocks_11
  refine zp2_ifr (fun _ => zp2_ifr (fun _ => ?_) (fun q => absurd rfl q)) (fun q => absurd (by decide) q)
  refine zp2_sm (t_pair2 h) (fun a ra => zp2_ckl (zp2_bvl (fun s1 f1 => zp2_ckr (zp2_bvr (fun t1 g1 => ?_)))))
  have zz := zEnq.wz hI h hF (v := (a + d) &&& 65535) rfl (z_r16 _) (b := 0)
  have h1 : zTT I s1 t1 := by rw [f1, g1]; exact zz.1
  have F1 : zF s1 t1 := by rw [f1, g1]; exact zz.2.1
  have W1 : zWzz s1 t1 := by rw [f1, g1]; exact zz.2.2.1
  refine zp2_ckl (zp2_ckr ?_)
  rw [show zgi t1 3 (3 : Int32).toNatClampNeg = zgi s1 36 (3 : Int32).toNatClampNeg from h1.eq (j := 3) (by decide)]
  refine zp2_bii (hPo.2 _ _ _ h1 (h1.b (j := 3) (by decide))) (fun s2 v t2 v' q => ?_)
  obtain ⟨h2, e2, rv, p2⟩ := q
  have e2 : v' = v := e2
  subst e2
  have F2 := p2.f F1
  have W2 := p2.w W1
  refine zp2_ckl (zp2_ckl (zp2_bvl (fun s3 f3 => zp2_ckr (zp2_ckr (zp2_bvr (fun t3 g3 => ?_))))))
  have h3 := t_bdn hI h2 f3 g3
  have F3 : zF s3 t3 := F2.of (by rw [f3]; rfl) (by rw [g3]; rfl)
  have W3 : zWzz s3 t3 := W2.of (by rw [f3]; rfl) (by rw [g3]; rfl)
  refine zp2_sm (t_pair6 h3) (fun x rx => zp2_wr h3.1 rfl (z_m255 rv) rv (fun s4 t4 hm q1 q2 => ?_))
  have h4 := h3.mem hI hm q1 q2
  have F4 : zF s4 t4 := F3.of (q1.1 36 1 rfl) (q2.1 3 1 rfl)
  have W4 : zWzz s4 t4 := W3.of (q1.1 36 20 rfl) (q2.1 3 20 rfl)
  refine t_cnt6 hI h4 F4 W4 (g := fun v => v + d) (fun s5 t5 h5 F5 W5 _ => zp2_ckl (zp2_ckr (zp2_bvr (fun k ek => ?_))))
  rw [show zgi t5 3 (3 : Int32).toNatClampNeg = zgi s5 36 (3 : Int32).toNatClampNeg from h5.eq (j := 3) (by decide)] at ek
  rw [← ek]
  exact t_tell hI h5 F5 W5 k1 k2 rv (L := fX5_takeOne_110) (fun s c => zpc_ck (zpc_some rfl))
theorem t_give (hI : zIoK I) (hPo : zPorts I) (h : zTT I σ μ) (hF : zF σ μ) {op y d : Int32} (k1 : op &&& 16 = 0 ↔ y < 6) (k2 : op &&& 2 = 0 ↔ ¬ 2 ≤ (3 : Int32)) : zp2 (zbi (fX5_giveOne σ d) (fun σ3 v4 => fX5_block_77 σ3 op v4)) (fX12_blocks_11 μ y 3 d) (zEnq I) := by
  refine zp2_bilp (P := zBkk I op) ?_ (fun s v b q a b' ea eb => by cases eb; exact q a ea)
  unfold fX5_giveOne fX12_blocks_11
  refine zp2_ifr (fun _ => zp2_ifr (fun q => absurd q (by decide)) (fun _ => ?_)) (fun q => absurd (by decide) q)
  refine zp2_sm (t_pair6 h) (fun a ra => zp2_rd h.1 rfl (fun v rv => ?_))
  refine zp2_ckl (zp2_ckl (zp2_bvl (fun s3 f3 => zp2_ckr (zp2_ckr (zp2_bvr (fun t3 g3 => ?_))))))
  have h3 := t_bdn hI h f3 g3
  have F3 : zF s3 t3 := hF.of (by rw [f3]; rfl) (by rw [g3]; rfl)
  refine zp2_ckl (zp2_ckr ?_)
  rw [show zgi t3 3 (3 : Int32).toNatClampNeg = zgi s3 36 (3 : Int32).toNatClampNeg from h3.eq (j := 3) (by decide)]
  refine zp2_buu (hPo.1 _ _ _ _ h3 (h3.b (j := 3) (by decide)) rv) (fun s4 t4 q => ?_)
  obtain ⟨h4, p4⟩ := q
  have F4 := p4.f F3
  refine zp2_sm (t_pair6 h4) (fun x rx => zp2_buu (t_pairTo6 hI h4 rfl) (fun s5 t5 q => ?_))
  obtain ⟨h5, qc, qm⟩ := q
  have F5 : zF s5 t5 := F4.of (qc.1 36 1 rfl) (qm.1 3 1 rfl)
  refine zp2_sm (t_pair2 h5) (fun x2 rx2 => zp2_ckl (zp2_bvl (fun s6 f6 => zp2_ckr (zp2_bvr (fun t6 g6 => ?_)))))
  have zz := zEnq.wz hI h5 F5 (v := (x2 + d) &&& 65535) rfl (z_r16 _) (b := 0)
  have h6 : zTT I s6 t6 := by rw [f6, g6]; exact zz.1
  have F6 : zF s6 t6 := by rw [f6, g6]; exact zz.2.1
  have W6 : zWzz s6 t6 := by rw [f6, g6]; exact zz.2.2.1
  refine zp2_ckl (zp2_ckr (zp2_bvr (fun k ek => ?_)))
  rw [show zgi t6 3 (7 : Int32).toNatClampNeg = zgi s6 36 (7 : Int32).toNatClampNeg from h6.eq (j := 7) (by decide)] at ek
  rw [← ek]
  exact t_tell hI h6 F6 W6 k1 k2 rv (L := fX5_giveOne_105) (fun s c => zpc_ck (zpc_some rfl))
theorem t_block (hI : zIoK I) (hPo : zPorts I) (h : zTT I σ μ) (hF : zF σ μ) (hW : zWzz σ μ) {op : Int32} (ho : zr 0 255 op) (hb : op &&& 228 = 160) : zp2 (fX5_block σ op) (fX12_more μ op) (zEnq I) := by
  have hz : zr 0 7 (op &&& 7) := z_r7 _
  have b2 := (z_blk ho).mpr hb
  have v : (op &&& 3 = op &&& 7 ∧ ((op &&& 8 = 0 ∧ zrem ((op >>> ((3 : Int32) &&& 31)) &&& 7) 2 = 0) ∨ (op &&& 8 = 8 ∧ zrem ((op >>> ((3 : Int32) &&& 31)) &&& 7) 2 = 1)) ∧ (op &&& 16 = 0 ↔ (op >>> ((3 : Int32) &&& 31)) &&& 7 < 6) ∧ (op &&& 2 = 0 ↔ ¬ 2 ≤ op &&& 7) ∧ (op &&& 7).toInt ≤ 3) := by
    obtain ⟨i, e⟩ := z_byteF ho
    subst e
    exact v_bk2 i hb
  obtain ⟨v1, par, k1, k2, z3⟩ := v
  have eM : fX12_more μ op = zbi (fX12_blocks μ ((op >>> ((3 : Int32) &&& 31)) &&& 7) (op &&& 7)) (fun σ44 v45 => some (σ44, v45)) := by
    unfold fX12_more
    show (if op >>> ((6 : Int32) &&& 31) = 2 then (if (op >>> ((3 : Int32) &&& 31)) &&& 7 ≤ 3 then fX12_more_42 μ (op >>> ((6 : Int32) &&& 31)) ((op >>> ((3 : Int32) &&& 31)) &&& 7) (op &&& 7) else if 4 ≤ op &&& 7 then fX12_more_42 μ (op >>> ((6 : Int32) &&& 31)) ((op >>> ((3 : Int32) &&& 31)) &&& 7) (op &&& 7) else zbi (fX12_blocks μ ((op >>> ((3 : Int32) &&& 31)) &&& 7) (op &&& 7)) (fun σ44 v45 => some (σ44, v45))) else fX12_more_42 μ (op >>> ((6 : Int32) &&& 31)) ((op >>> ((3 : Int32) &&& 31)) &&& 7) (op &&& 7)) = _
    rw [if_pos b2.1, if_neg b2.2.1, if_neg b2.2.2]
  rw [eM]
  have main : ∀ d : Int32, zp2 (fX5_block_12 σ op d) (fX12_blocks_11 μ ((op >>> ((3 : Int32) &&& 31)) &&& 7) (op &&& 7) d) (zEnq I) := fun d => by
    unfold fX5_block_12
    rw [v1]
    generalize hzz : op &&& 7 = z at *
    have rz : zr 0 3 z := ⟨hz.1, z3⟩
    rcases zr_hd (c := 0) rz rfl with e | rz
    · subst e
      exact zp2_ifl (fun _ => t_copy hI h hF hW k1 k2) (fun q => absurd rfl q)
    rcases zr_hd (c := 1) rz rfl with e | rz
    · subst e
      exact zp2_ifl (fun q => absurd q (by decide)) (fun _ => zp2_ifl (fun _ => t_cmp hI h hF hW k1 k2) (fun q => absurd rfl q))
    rcases zr_hd (c := 2) rz rfl with e | rz
    · subst e
      exact zp2_ifl (fun q => absurd q (by decide)) (fun _ => zp2_ifl (fun q => absurd q (by decide)) (fun _ => zp2_ifl (fun _ => t_take hI hPo h hF k1 k2) (fun q => absurd rfl q)))
    rcases zr_hd (c := 3) rz rfl with e | rz
    · subst e
      exact zp2_ifl (fun q => absurd q (by decide)) (fun _ => zp2_ifl (fun q => absurd q (by decide)) (fun _ => zp2_ifl (fun q => absurd q (by decide)) (fun _ => t_give hI hPo h hF k1 k2)))
    exact zr_no9 rz (by decide)
  refine zp2_birp (P := zEnq I) ?_ (fun a t w q => zp2_some q)
  unfold fX5_block fX12_blocks
  refine zp2_ckr ?_
  rcases par with ⟨e1, e2⟩ | ⟨e1, e2⟩
  · rw [e1, e2]
    exact zp2_ifl (fun _ => zp2_ifr (fun _ => main 1) (fun q => absurd rfl q)) (fun q => absurd rfl q)
  · rw [e1, e2]
    exact zp2_ifl (fun q => absurd q (by decide)) (fun _ => zp2_ifr (fun q => absurd q (by decide)) (fun _ => main (-1)))
end ZBP
end ZJN22
section ZJN23
/-! AN INSTRUCTION -/
theorem zsi_cr {ν : zSt} {k l i j : Nat} {v w : Int32} (h : ¬ k = l) : zsi (zsi ν k i v) l j w = zsi (zsi ν l j w) k i v := by
  refine Prod.ext (funext fun a => funext fun b => ?_) rfl
  rw [zsi_at, zsi_at, zsi_at, zsi_at]
  by_cases p : a = l ∧ b = j
  · rw [if_pos p, if_neg (fun q => h (q.1.symm.trans p.1)), if_pos p]
  · rw [if_neg p]
    by_cases q : a = k ∧ b = i
    · rw [if_pos q, if_pos q]
    · rw [if_neg q, if_neg q, if_neg p]
theorem v_opdec : ∀ i : Fin 256, (0 ≤ (Int32.ofNat i.val >>> ((6 : Int32) &&& 31)).toInt ∧ (Int32.ofNat i.val >>> ((6 : Int32) &&& 31)).toInt ≤ 3) ∧ (Int32.ofNat i.val >>> ((6 : Int32) &&& 31) = 3 → ((¬ Int32.ofNat i.val = 203 → Int32.ofNat i.val &&& 7 = 3 → ¬ (Int32.ofNat i.val >>> ((3 : Int32) &&& 31)) &&& 7 = 1) ∧ (¬ Int32.ofNat i.val = 221 → ¬ Int32.ofNat i.val = 237 → ¬ Int32.ofNat i.val = 253 → Int32.ofNat i.val &&& 7 = 5 → ((Int32.ofNat i.val >>> ((3 : Int32) &&& 31)) &&& 7 = 0 ∨ (Int32.ofNat i.val >>> ((3 : Int32) &&& 31)) &&& 7 = 1 ∨ (Int32.ofNat i.val >>> ((3 : Int32) &&& 31)) &&& 7 = 2 ∨ (Int32.ofNat i.val >>> ((3 : Int32) &&& 31)) &&& 7 = 4 ∨ (Int32.ofNat i.val >>> ((3 : Int32) &&& 31)) &&& 7 = 6)))) := by decide +kernel
theorem z_dec {op : Int32} (h : zr 0 255 op) : zr 0 3 (op >>> ((6 : Int32) &&& 31)) ∧ (op >>> ((6 : Int32) &&& 31) = 3 → ((¬ op = 203 → op &&& 7 = 3 → ¬ (op >>> ((3 : Int32) &&& 31)) &&& 7 = 1) ∧ (¬ op = 221 → ¬ op = 237 → ¬ op = 253 → op &&& 7 = 5 → ((op >>> ((3 : Int32) &&& 31)) &&& 7 = 0 ∨ (op >>> ((3 : Int32) &&& 31)) &&& 7 = 1 ∨ (op >>> ((3 : Int32) &&& 31)) &&& 7 = 2 ∨ (op >>> ((3 : Int32) &&& 31)) &&& 7 = 4 ∨ (op >>> ((3 : Int32) &&& 31)) &&& 7 = 6)))) := by
  obtain ⟨i, e⟩ := z_byteF h
  subst e
  exact v_opdec i
/-- both ends, with beats added on both sides -/
noncomputable def zEn2 (I : zSt → zSt → Prop) (c : Int32) (r : zSt × Int32) (b : zSt × Int32) : Prop := zEnq I r (b.1, b.2 + c)
section ZIN
variable {I : zSt → zSt → Prop} {σ μ : zSt}
/-- the four quarters -/
theorem t_quart (hI : zIoK I) (hPo : zPorts I) (h : zTT I σ μ) (hF : zF σ μ) (hW : zWzz σ μ) (hp : zPlc σ μ) (h28 : σ.1 36 28 = 0) {op x2 : Int32} (ho : zr 0 255 op) (n1 : ¬ op = 203) (n2 : ¬ op = 237) (n3 : ¬ op = 221) (n4 : ¬ op = 253) : zp2 (fX5_carryOn_141 σ op x2) (fX12_plain μ op) (zEn2 I x2) := by
  obtain ⟨rx, d⟩ := z_dec ho
  unfold fX5_carryOn_141 fX5_carryOn_275
  refine zp2_ifl (fun q => absurd q n1) (fun _ => zp2_ifl (fun q => absurd q n2) (fun _ => ?_))
  have fin : ∀ (s : zSt) (v : Int32) (b : zSt × Int32), zEnq I (s, v) b → zp2 (some (s, x2 + v)) (some b) (zEn2 I x2) := fun s v b q => zp2_some (by
    obtain ⟨q1, q2, q3, q4⟩ := q
    refine ⟨q1, q2, q3, ?_⟩
    show b.2 + x2 = x2 + v
    have q4 : b.2 = v := q4
    rw [q4, Int32.add_comm])
  by_cases x0 : op >>> ((6 : Int32) &&& 31) = 0
  · exact zp2_ifl (fun _ => zp2_bilp (t_first hI h hF hW hp x0) fin) (fun q => absurd x0 q)
  by_cases x1 : op >>> ((6 : Int32) &&& 31) = 1
  · exact zp2_ifl (fun q => absurd q x0) (fun _ => zp2_ifl (fun _ => zp2_bilp (t_move hI h hF hW hp x1) fin) (fun q => absurd x1 q))
  by_cases x2' : op >>> ((6 : Int32) &&& 31) = 2
  · exact zp2_ifl (fun q => absurd q x0) (fun _ => zp2_ifl (fun q => absurd q x1) (fun _ => zp2_ifl (fun _ => zp2_bilp (t_dor hI h hF hW hp x2') fin) (fun q => absurd x2' q)))
  have x3 : op >>> ((6 : Int32) &&& 31) = 3 := by
    rcases zr_hd (c := 0) rx rfl with e | rx
    · exact absurd e x0
    rcases zr_hd (c := 1) rx rfl with e | rx
    · exact absurd e x1
    rcases zr_hd (c := 2) rx rfl with e | rx
    · exact absurd e x2'
    rcases zr_hd (c := 3) rx rfl with e | rx
    · exact e
    exact zr_no9 rx (by decide)
  obtain ⟨d1, d2⟩ := d x3
  refine zp2_ifl (fun q => absurd q x0) (fun _ => zp2_ifl (fun q => absurd q x1) (fun _ => zp2_ifl (fun q => absurd q x2') (fun _ => ?_)))
  by_cases z3 : op &&& 7 = 3
  · exact zp2_ifl (fun _ => zp2_bilp (t_lx hI hPo h hF hW h28 x3 z3 (d1 n1 z3)) fin) (fun q => absurd z3 q)
  · exact zp2_ifl (fun q => absurd q z3) (fun _ => zp2_bilp (t_last hI h hF hW x3 z3 (d2 n3 n2 n4)) fin)
/-- the four quarters -/
theorem t_quart_r1 (hI : zIoK I) (hPo : zPorts I) (h : zTT I σ μ) (hF : zF σ μ) (hW : zWzz σ μ) (hp : zPlc σ μ) (h28 : σ.1 36 28 = 0) {op x2 : Int32} (ho : zr 0 255 op) (n1 : ¬ op = 203) (n2 : ¬ op = 237) (n3 : ¬ op = 221) (n4 : ¬ op = 253) : zp2 (fX5_carryOn_141 σ op x2) (fX12_plain_r1 μ op) (zEn2 I x2) := by
  obtain ⟨rx, d⟩ := z_dec ho
  unfold fX5_carryOn_141 fX5_carryOn_275
  refine zp2_ifl (fun q => absurd q n1) (fun _ => zp2_ifl (fun q => absurd q n2) (fun _ => ?_))
  have fin : ∀ (s : zSt) (v : Int32) (b : zSt × Int32), zEnq I (s, v) b → zp2 (some (s, x2 + v)) (some b) (zEn2 I x2) := fun s v b q => zp2_some (by
    obtain ⟨q1, q2, q3, q4⟩ := q
    refine ⟨q1, q2, q3, ?_⟩
    show b.2 + x2 = x2 + v
    have q4 : b.2 = v := q4
    rw [q4, Int32.add_comm])
  by_cases x0 : op >>> ((6 : Int32) &&& 31) = 0
  · exact zp2_ifl (fun _ => zp2_bilp (t_first_r1 hI h hF hW hp x0) fin) (fun q => absurd x0 q)
  by_cases x1 : op >>> ((6 : Int32) &&& 31) = 1
  · exact zp2_ifl (fun q => absurd q x0) (fun _ => zp2_ifl (fun _ => zp2_bilp (t_move_r1 hI h hF hW hp x1) fin) (fun q => absurd x1 q))
  by_cases x2' : op >>> ((6 : Int32) &&& 31) = 2
  · exact zp2_ifl (fun q => absurd q x0) (fun _ => zp2_ifl (fun q => absurd q x1) (fun _ => zp2_ifl (fun _ => zp2_bilp (t_dor_r1 hI h hF hW hp x2') fin) (fun q => absurd x2' q)))
  have x3 : op >>> ((6 : Int32) &&& 31) = 3 := by
    rcases zr_hd (c := 0) rx rfl with e | rx
    · exact absurd e x0
    rcases zr_hd (c := 1) rx rfl with e | rx
    · exact absurd e x1
    rcases zr_hd (c := 2) rx rfl with e | rx
    · exact absurd e x2'
    rcases zr_hd (c := 3) rx rfl with e | rx
    · exact e
    exact zr_no9 rx (by decide)
  obtain ⟨d1, d2⟩ := d x3
  refine zp2_ifl (fun q => absurd q x0) (fun _ => zp2_ifl (fun q => absurd q x1) (fun _ => zp2_ifl (fun q => absurd q x2') (fun _ => ?_)))
  by_cases z3 : op &&& 7 = 3
  · exact zp2_ifl (fun _ => zp2_bilp (t_lx_r1 hI hPo h hF hW h28 x3 z3 (d1 n1 z3)) fin) (fun q => absurd z3 q)
  · exact zp2_ifl (fun q => absurd q z3) (fun _ => zp2_bilp (t_last_r1 hI h hF hW x3 z3 (d2 n3 n2 n4)) fin)
/-- CB and ED -/
theorem t_cb (hI : zIoK I) (h : zTT I σ μ) (hF : zF σ μ) (hW : zWzz σ μ) (hp : zPlc σ μ) (h32 : μ.1 0 32 = 0) {x2 : Int32} : zp2 (fX5_carryOn_141 σ 203 x2) (fX12_plain μ 203) (zEnq I) := by
  unfold fX5_carryOn_141 fX12_plain fX12_plain_160
  refine zp2_ifl (fun _ => ?_) (fun q => absurd rfl q)
  refine zp2_bvr (fun y ey => zp2_bvr (fun z ez => ?_))
  have ey : y = 1 := ey.trans (by decide)
  have ez : z = 3 := ez.trans (by decide)
  subst ey
  subst ez
  refine zp2_ifr (fun q => absurd q (by decide)) (fun _ => zp2_ifr (fun q => absurd q (by decide)) (fun _ => zp2_ifr (fun q => absurd q (by decide)) (fun _ => zp2_ifr (fun q => absurd q (by decide)) (fun _ => ?_))))
  rw [e_th2 (by decide) (by decide)]
  refine zp2_birp (P := zEnq I) ?_ (fun a t w q => zp2_some q)
  unfold fX12_three_88 fX12_turns
  refine zp2_ifr (fun q => absurd q (by decide)) (fun _ => zp2_ifr (fun q => absurd q (by decide)) (fun _ => zp2_ifr (fun q => absurd q (by decide)) (fun _ => zp2_ifr (fun _ => ?_) (fun q => absurd rfl q))))
  refine zp2_birp (P := zEnq I) ?_ (fun a t w q => zp2_some q)
  refine zp2_bii (t_op hI h) (fun s v t v' q => ?_)
  obtain ⟨h1, e1, rv, qc, qm⟩ := q
  have e1 : v' = v := e1
  subst e1
  exact zp2_bii (t_turns hI h1 (hF.of (qc.1 36 1 rfl) (qm.1 3 1 rfl)) (hW.of (qc.1 36 20 rfl) (qm.1 3 20 rfl)) (hp.of (qc.1 7 5 rfl) (qc.1 36 6 rfl) (qc.1 36 7 rfl) (qm.1 3 20 rfl) (qm.1 0 32 rfl)) ((qm.1 0 32 rfl).trans h32) (z_dec rv).1) (fun s v t w q => zp2_some q)
theorem t_edp (hI : zIoK I) (hPo : zPorts I) (h : zTT I σ μ) (hF : zF σ μ) (hW : zWzz σ μ) (hp : zPlc σ μ) {x2 : Int32} : zp2 (fX5_carryOn_141 σ 237 x2) (fX12_plain μ 237) (zEnq I) := by
  unfold fX5_carryOn_141 fX12_plain fX12_plain_160 fX5_carryOn_193
  refine zp2_ifl (fun q => absurd q (by decide)) (fun _ => zp2_ifl (fun _ => ?_) (fun q => absurd rfl q))
  refine zp2_bvr (fun y ey => zp2_bvr (fun z ez => ?_))
  have ey : y = 5 := ey.trans (by decide)
  have ez : z = 5 := ez.trans (by decide)
  subst ey
  subst ez
  refine zp2_ifr (fun q => absurd q (by decide)) (fun _ => zp2_ifr (fun q => absurd q (by decide)) (fun _ => zp2_ifr (fun q => absurd q (by decide)) (fun _ => zp2_ifr (fun _ => ?_) (fun q => absurd (by decide) q))))
  refine zp2_birp (P := zEnq I) ?_ (fun a t w q => zp2_some q)
  unfold fX12_more3 fX12_more3_200
  refine zp2_bvr (fun p ep => zp2_ifr (fun q => absurd q (by decide)) (fun _ => zp2_ifr (fun q => absurd q (by decide)) (fun _ => zp2_ifr (fun q => absurd q (by decide)) (fun _ => zp2_ckr (zp2_ifr (fun q => absurd q (by decide)) (fun _ => ?_))))))
  have ep : p = 2 := ep.trans (by decide)
  subst ep
  refine zp2_ifr (fun q => absurd q (by decide)) (fun _ => zp2_ifr (fun _ => ?_) (fun q => absurd rfl q))
  refine zp2_bii (t_op hI h) (fun s v t v' q => ?_)
  obtain ⟨h1, e1, rv, qc, qm⟩ := q
  have e1 : v' = v := e1
  subst e1
  have F1 := hF.of (qc.1 36 1 rfl) (qm.1 3 1 rfl)
  have W1 := hW.of (qc.1 36 20 rfl) (qm.1 3 20 rfl)
  by_cases b : v' &&& 228 = 160
  · exact zp2_ifl (fun _ => zp2_bii (t_block hI hPo h1 F1 W1 rv b) (fun s v t w q => zp2_some q)) (fun q => absurd b q)
  · exact zp2_ifl (fun q => absurd q b) (fun _ => zp2_bii (t_ed hI hPo h1 F1 W1 (hp.of (qc.1 7 5 rfl) (qc.1 36 6 rfl) (qc.1 36 7 rfl) (qm.1 3 20 rfl) (qm.1 0 32 rfl)) rv b) (fun s v t w q => zp2_some q))
/-! behind a prefix: j is already set -/
theorem zTT.j6 (hI : zIoK I) (h : zTT I σ μ) {w : Int32} (hw : w = 16 ∨ w = 17) : zTT I (zsi σ 7 4 w) (zsi μ 0 31 w) := by
  refine ⟨h.1.keep (zQ.wi zQ.rf rfl) (zQ.wi zQ.rf rfl), ⟨fun j a b c => h.2.1.1 j a b c, h.2.1.2.1, h.2.1.2.2.1, h.2.1.2.2.2⟩, ?_, hI _ _ _ _ h.2.2.2 (zQ.wi zQ.rf rfl) (zQ.wi zQ.rf rfl)⟩
  rcases hw with e | e
  · subst e; exact Or.inr (Or.inl ⟨rfl, rfl⟩)
  · subst e; exact Or.inr (Or.inr ⟨rfl, rfl⟩)
theorem t_nextJ (hI : zIoK I) (h : zTT I σ μ) {w : Int32} : zp2 (fX5_fetch (zsi σ 7 4 w)) (fX12_next μ ) (fun r r' => ∃ s, r.1 = zsi s 7 4 w ∧ zTT I s r'.1 ∧ r'.2 = r.2 ∧ zr 0 255 r.2 ∧ zQ [] [(36, 19, 19)] [] [] σ s ∧ zQ [] [(3, 19, 19)] [] [] μ r'.1) := by
  have hm : zM2 (zsi σ 7 4 w) μ := h.1.keep (zQ.wi zQ.rf rfl) zQ.rf
  unfold fX5_fetch fX12_next
  have e : zgi μ 3 (19 : Int32).toNatClampNeg = zgi (zsi σ 7 4 w) 36 (19 : Int32).toNatClampNeg := h.eq (j := 19) (by decide)
  refine zp2_ckl (zp2_ckr (zp2_rd hm (by rw [e]) (fun v hv => ?_)))
  refine zp2_ckl (zp2_ckl (zp2_bvl (fun s es => zp2_ckr (zp2_ckr (zp2_bvr (fun t et => zp2_some ?_))))))
  refine ⟨zsi σ 36 19 ((σ.1 36 19 + 1) &&& 65535), ?_, ?_, rfl, hv, zQ.wi zQ.rf rfl, ?_⟩
  · rw [es]
    exact zsi_cr (by decide)
  · subst et
    refine h.upd hI [19] (zQ.wi zQ.rf rfl) (zQ.wi zQ.rf rfl) rfl (zAl1 ⟨?_, zrg_w (by decide) (by decide) (z_r16 _)⟩)
    show (μ.1 3 19 + 1) &&& 65535 = (σ.1 36 19 + 1) &&& 65535
    rw [h.eq (by decide)]
  · subst et; exact zQ.wi zQ.rf rfl
theorem zp2_rdE {α β : Type} {Q : α → β → Prop} (h : zM2 σ μ) {x y : Int32} (e : y &&& 65535 = x &&& 65535) {f : zSt → Int32 → Option α} {g : zSt → Int32 → Option β} (k : ∀ v, zr 0 255 v → fX12_read μ y = some (μ, v) → zp2 (f σ v) (g μ v) Q) : zp2 (zbi (fX2_read σ x) f) (zbi (fX12_read μ y) g) Q := by
  intro a b ea eb
  have d := h.rd e
  cases qa : fX2_read σ x with
  | none => rw [qa] at ea; cases ea
  | some r =>
    cases qb : fX12_read μ y with
    | none => rw [qb] at eb; cases eb
    | some r' =>
      obtain ⟨s, v⟩ := r
      obtain ⟨t, v'⟩ := r'
      obtain ⟨q1, q2, q3, q4⟩ := d _ _ qa qb
      have q1 : s = σ := q1
      have q2 : t = μ := q2
      have q3 : v' = v := q3
      subst q1
      subst q2
      subst q3
      rw [qa] at ea
      rw [qb] at eb
      exact k v' q4 qb a b ea eb
theorem t_opJ (hI : zIoK I) (h : zTT I σ μ) {w : Int32} : zp2 (fX5_fetchOp (zsi σ 7 4 w)) (fX12_fetch μ ) (fun r r' => ∃ s, r.1 = zsi s 7 4 w ∧ zTT I s r'.1 ∧ r'.2 = r.2 ∧ zr 0 255 r.2 ∧ zQ [] [(36, 19, 19), (36, 22, 22)] [] [] σ s ∧ zQ [] [(3, 19, 19), (3, 22, 22)] [] [] μ r'.1 ∧ fX12_read μ (zgi μ 3 (19 : Int32).toNatClampNeg) = some (μ, r'.2)) := by
  unfold fX5_fetchOp fX12_fetch
  have c22 : zpc (fX5_growR (zsi σ 7 4 w)) (fun r => r = zsi (zsi σ 36 22 ((σ.1 36 22 &&& 128) ||| ((σ.1 36 22 + 1) &&& 127))) 7 4 w) := by
    unfold fX5_growR
    exact zpc_ck (zpc_ck (zpc_ck (zpc_bv (fun s es => zpc_some (by rw [es]; exact zsi_cr (by decide))))))
  have m22 : ∀ t : zSt, zpc (fX12_grows t) (fun r => r = zsi t 3 22 ((t.1 3 22 &&& 128) ||| ((t.1 3 22 + 1) &&& 127))) := fun t => by
    unfold fX12_grows
    exact zpc_ck (zpc_ck (zpc_ck (zpc_bv (fun s es => zpc_some es))))
  have rr : ∀ x : Int32, zr 0 255 ((x &&& 128) ||| ((x + 1) &&& 127)) := fun x => zr_or (lo := 0) (hi := 255) 8 (zr_andr (lo := 0) (hi := 128) (zr_c (lo := 128) (hi := 128) (by decide)) (by decide)) (zr_andr (lo := 0) (hi := 127) (zr_c (lo := 127) (hi := 127) (by decide)) (by decide)) (by decide)
  have e22 : μ.1 3 22 = σ.1 36 22 := h.eq (by decide)
  have h0 : zTT I (zsi σ 36 22 ((σ.1 36 22 &&& 128) ||| ((σ.1 36 22 + 1) &&& 127))) (zsi μ 3 22 ((σ.1 36 22 &&& 128) ||| ((σ.1 36 22 + 1) &&& 127))) := h.upd hI [22] (zQ.wi zQ.rf rfl) (zQ.wi zQ.rf rfl) rfl (zAl1 ⟨rfl, zrg_b (Or.inr (Or.inr rfl)) (rr _)⟩)
  refine zp2_bul c22 (fun s0 e0 => ?_)
  have hm : zM2 s0 μ := by rw [e0]; exact h.1.keep (zQ.wi (zQ.wi zQ.rf rfl) rfl) zQ.rf
  have e19 : s0.1 36 19 = σ.1 36 19 := by rw [e0]; rfl
  have m19 : μ.1 3 19 = σ.1 36 19 := h.eq (by decide)
  have nx : zp2 (fX5_fetch s0) (fX12_next μ ) (fun r r' => r'.2 = r.2 ∧ zr 0 255 r.2 ∧ r.1 = zsi s0 36 19 ((σ.1 36 19 + 1) &&& 65535) ∧ r'.1 = zsi μ 3 19 ((σ.1 36 19 + 1) &&& 65535) ∧ fX12_read μ (zgi μ 3 (19 : Int32).toNatClampNeg) = some (μ, r'.2)) := by
    unfold fX5_fetch fX12_next
    refine zp2_ckl (zp2_ckr (zp2_rdE hm (by rw [show zgi μ 3 (19 : Int32).toNatClampNeg = σ.1 36 19 from m19, show zgi s0 36 (19 : Int32).toNatClampNeg = σ.1 36 19 from e19]) (fun v hv ee => zp2_ckl (zp2_ckl (zp2_bvl (fun s es => zp2_ckr (zp2_ckr (zp2_bvr (fun t et => zp2_some ⟨rfl, hv, ?_, ?_, ee⟩)))))))))
    · rw [es]
      show zsi s0 36 19 ((s0.1 36 19 + 1) &&& 65535) = _
      rw [e19]
    · rw [et]
      show zsi μ 3 19 ((μ.1 3 19 + 1) &&& 65535) = _
      rw [m19]
  refine zp2_bii nx (fun s v t v' q => ?_)
  obtain ⟨q1, q2, q3, q4, q5⟩ := q
  have q3 : s = zsi s0 36 19 ((σ.1 36 19 + 1) &&& 65535) := q3
  have q4 : t = zsi μ 3 19 ((σ.1 36 19 + 1) &&& 65535) := q4
  refine zp2_bur (m22 t) (fun t2 e2 => zp2_some ?_)
  have e2' : t2 = zsi (zsi μ 3 19 ((σ.1 36 19 + 1) &&& 65535)) 3 22 ((σ.1 36 22 &&& 128) ||| ((σ.1 36 22 + 1) &&& 127)) := by
    rw [e2, q4]
    show zsi (zsi μ 3 19 ((σ.1 36 19 + 1) &&& 65535)) 3 22 ((μ.1 3 22 &&& 128) ||| ((μ.1 3 22 + 1) &&& 127)) = _
    rw [e22]
  refine ⟨zsi (zsi σ 36 22 ((σ.1 36 22 &&& 128) ||| ((σ.1 36 22 + 1) &&& 127))) 36 19 ((σ.1 36 19 + 1) &&& 65535), ?_, ?_, q1, q2, zQ.wi (zQ.wi zQ.rf rfl) rfl, ?_, q5⟩
  · show s = _
    rw [q3, e0]
    exact zsi_cr (by decide)
  · show zTT I _ t2
    rw [e2']
    exact h.upd hI [19, 22] (zQ.wi (zQ.wi zQ.rf rfl) rfl) (zQ.wi (zQ.wi zQ.rf rfl) rfl) rfl (zAl2 ⟨rfl, zrg_w (by decide) (by decide) (z_r16 _)⟩ ⟨rfl, zrg_b (Or.inr (Or.inr rfl)) (rr _)⟩)
  · show zQ _ _ _ _ μ t2
    rw [e2']
    exact zQ.wi (zQ.wi zQ.rf rfl) rfl
end ZIN
end ZJN23
section ZJN24
/-! PREFIXES -/
noncomputable def mpl (op : Int32) : Int32 := if op >>> ((6 : Int32) &&& 31) = 0 then (if (if op &&& 56 = 48 then (1 : Int32) else 0) = 0 then 0 else if op &&& 7 < 4 then 0 else if 6 < op &&& 7 then 0 else 1) else if op >>> ((6 : Int32) &&& 31) = 1 then (if (if op &&& 56 = 48 then (1 : Int32) else 0) = (if op &&& 7 = 6 then 1 else 0) then 0 else 1) else if op >>> ((6 : Int32) &&& 31) = 2 then (if op &&& 7 = 6 then 1 else 0) else 0
noncomputable def pml6 (x z : Int32) : Int32 := if x = 2 then (if z = 6 then 1 else 0) else 0
noncomputable def pml2 (op x z : Int32) : Int32 := if op = 118 then pml6 x z else 1
noncomputable def pml0 (op x y z : Int32) : Int32 := if x = 1 then (if y = 6 then pml2 op x z else if z = 6 then pml2 op x z else pml6 x z) else pml6 x z
noncomputable def pml (op x y z : Int32) : Int32 := if x = 0 then (if z ≤ 3 then pml0 op x y z else if 7 ≤ z then pml0 op x y z else if y = 6 then 1 else pml0 op x y z) else pml0 op x y z
theorem v_mpl : ∀ i : Fin 256, pml (Int32.ofNat i.val) (Int32.ofNat i.val >>> ((6 : Int32) &&& 31)) ((Int32.ofNat i.val >>> ((3 : Int32) &&& 31)) &&& 7) (Int32.ofNat i.val &&& 7) = mpl (Int32.ofNat i.val) ∧ (mpl (Int32.ofNat i.val) = 0 ∨ mpl (Int32.ofNat i.val) = 1) := by decide +kernel
theorem z_mpl {op : Int32} (h : zr 0 255 op) : pml op (op >>> ((6 : Int32) &&& 31)) ((op >>> ((3 : Int32) &&& 31)) &&& 7) (op &&& 7) = mpl op ∧ (mpl op = 0 ∨ mpl op = 1) := by
  obtain ⟨i, e⟩ := z_byteF h
  subst e
  exact v_mpl i
section ZPX
variable {I : zSt → zSt → Prop} {σ μ : zSt}
theorem p_mpl {op : Int32} : zpc (fX5_meansPlace σ op) (fun r => r = (σ, mpl op)) := by
  unfold fX5_meansPlace mpl
  refine zpc_jx (K := fun v => fX5_meansPlace_14 σ op v) (a := 1) (b := 0) rfl rfl (fun a ea => ?_)
  unfold fX5_meansPlace_14
  refine zpc_jx (K := fun v => fX5_meansPlace_29 σ op a v) (a := 1) (b := 0) rfl rfl (fun b eb => ?_)
  rw [← ea, ← eb]
  unfold fX5_meansPlace_29 fX5_meansPlace_85 fX5_meansPlace_86 fX5_meansPlace_97
  refine zpc_if (fun x => ?_) (fun x => ?_)
  · rw [if_pos x]
    exact zpc_if (fun q => zpc_ck (zpc_some (by rw [if_pos q]))) (fun q => zpc_if (fun r => zpc_ck (zpc_some (by rw [if_neg q, if_pos r]))) (fun r => zpc_if (fun u => zpc_ck (zpc_some (by rw [if_neg q, if_neg r, if_pos u]))) (fun u => zpc_ck (zpc_some (by rw [if_neg q, if_neg r, if_neg u])))))
  · rw [if_neg x]
    refine zpc_if (fun x1 => ?_) (fun x1 => ?_)
    · rw [if_pos x1]
      exact zpc_if (fun q => zpc_ck (zpc_some (by rw [if_pos q]))) (fun q => zpc_ck (zpc_some (by rw [if_neg q])))
    · rw [if_neg x1]
      exact zpc_if (fun q => zpc_ck (zpc_some (by rw [if_pos q]))) (fun q => zpc_ck (zpc_some (by rw [if_neg q])))
theorem e_pml {op w x y z : Int32} : (if x = 0 then if z ≤ 3 then fX12_prefixed_200 μ w op y z x else if 7 ≤ z then fX12_prefixed_200 μ w op y z x else if y = 6 then fX12_prefixed_239 μ w op else fX12_prefixed_200 μ w op y z x else fX12_prefixed_200 μ w op y z x) = fX12_prefixed_244 μ w op (pml op x y z) := by
  have e6 : fX12_prefixed_226 μ w op z x = fX12_prefixed_244 μ w op (pml6 x z) := z_jx (K := fun v => fX12_prefixed_244 μ w op v) (z_jx (a := 1) (b := 0) rfl rfl) (b := 0) rfl
  have e2 : fX12_prefixed_220 μ w op z x = fX12_prefixed_244 μ w op (pml2 op x z) := z_jx (K := fun v => fX12_prefixed_244 μ w op v) e6 (b := 1) rfl
  have e0 : fX12_prefixed_200 μ w op y z x = fX12_prefixed_244 μ w op (pml0 op x y z) := z_jx (K := fun v => fX12_prefixed_244 μ w op v) (z_jx e2 (z_jx e2 e6)) e6
  exact z_jx (K := fun v => fX12_prefixed_244 μ w op v) (z_jx e0 (z_jx e0 (z_jx (a := 1) rfl e0))) e0
theorem zTT.pl (hI : zIoK I) (h : zTT I σ μ) {v u : Int32} : zTT I (zsi σ 7 5 v) (zsi μ 0 32 u) := ⟨h.1.keep (zQ.wi zQ.rf rfl) (zQ.wi zQ.rf rfl), ⟨fun j a b c => h.2.1.1 j a b c, h.2.1.2.1, h.2.1.2.2.1, h.2.1.2.2.2⟩, h.2.2.1.of rfl rfl, hI _ _ _ _ h.2.2.2 (zQ.wi zQ.rf rfl) (zQ.wi zQ.rf rfl)⟩
theorem z_ia {α : Type} {o : Option (zSt × Int32)} {f : zSt → Int32 → Option (zSt × Int32)} {k : zSt → Int32 → Option α} : zbi (zbi o f) k = zbi o (fun s v => zbi (f s v) k) := by
  cases o with
  | none => rfl
  | some r => rfl
/-- the class fetches within; the reference fetches -/
theorem zp2_fx {α β : Type} {c : Bool} {o p : Option (zSt × Int32)} {f : zSt → Int32 → Option (zSt × Int32)} {k : zSt → Int32 → Option α} {g : zSt → Int32 → Option β} {P : zSt × Int32 → zSt × Int32 → Prop} {Q : α → β → Prop} (h : zp2 o p P) (n : ∀ s v t w, P (s, v) (t, w) → zp2 (zbi (f s v) k) (g t w) Q) : zp2 (zbi (zck c (zbi o f)) k) (zbi p g) Q := by
  intro a b ea eb
  cases c with
  | false => cases ea
  | true =>
    have ea : zbi (zbi o f) k = some a := ea
    cases e1 : o with
    | none => rw [e1] at ea; cases ea
    | some r =>
      cases e2 : p with
      | none => rw [e2] at eb; cases eb
      | some r' =>
        rw [e1] at ea
        rw [e2] at eb
        exact n r.1 r.2 r'.1 r'.2 (h r r' e1 e2) a b ea eb
theorem t_px (hI : zIoK I) (hPo : zPorts I) (h : zTT I σ μ) (hF : zF σ μ) (hW : zWzz σ μ) (hp : zPlc σ μ) (h7 : σ.1 7 4 = 6) (h28 : σ.1 36 28 = 0) {op w : Int32} (hw : w = 16 ∨ w = 17) (ho : zr 0 255 op) (n1 : ¬ op = 203) (n2 : ¬ op = 237) (n3 : ¬ op = 221) (n4 : ¬ op = 253) : zp2 (zbi (fX5_takePlace (zsi σ 7 4 w) op) (fun σ25 v26 => fX5_carryOn_141 σ25 op v26)) (fX12_prefixed_244 μ w op (mpl op)) (zEnq I) := by
  have en : ∀ (c : Int32) (r b : zSt × Int32), zEn2 I c r b → zEnq I r (b.1, b.2 + c) := fun c r b q => q
  unfold fX5_takePlace fX12_prefixed_244
  rcases (z_mpl ho).2 with m0 | m1
  · refine zp2_bil (P := fun r => r = (zsi σ 7 4 w, 4)) (zpc_bi p_mpl (fun s v e => ?_)) (fun s v e => ?_)
    · cases e
      exact zpc_if (fun _ => zpc_some rfl) (fun q => absurd m0 q)
    · cases e
      refine zp2_ifr (fun _ => zp2_bvr (fun t1 g1 => ?_)) (fun q => absurd m0 q)
      subst g1
      have hq := t_quart_r1 hI hPo (h.j6 hI hw) (show zF (zsi σ 7 4 w) (zsi μ 0 31 w) from hF) (show zWzz (zsi σ 7 4 w) (zsi μ 0 31 w) from hW) (hp.of (σ1 := zsi σ 7 4 w) (μ1 := zsi μ 0 31 w) rfl rfl rfl rfl rfl) (show (zsi σ 7 4 w).1 36 28 = 0 from h28) (op := op) (x2 := 4) ho n1 n2 n3 n4
      exact zp2_birp hq (fun a t v q => zp2_some (en 4 a (t, v) q))
  · refine zp2_ifr (fun q => absurd (m1.symm.trans q) (by decide)) (fun _ => zp2_ckr ?_)
    rw [z_ia]
    refine zp2_bil p_mpl (fun s v e => ?_)
    cases e
    rw [if_neg (fun q => absurd (m1.symm.trans q) (by decide))]
    have ej : zgi (zsi σ 7 4 w) 7 4 = w := rfl
    have ei : zgi (zsi σ 7 4 w) 36 w.toNatClampNeg = zgi μ 3 w.toNatClampNeg := by
      rcases hw with e | e
      · subst e; exact (h.eq (j := 16) (by decide)).symm
      · subst e; exact (h.eq (j := 17) (by decide)).symm
    rw [ej, ei]
    -- the class fetches, then goes on
    refine zp2_fx (t_nextJ hI h (w := w)) (fun s1 v t v' q => ?_)
    obtain ⟨s', q1, h1, q3, q4, qc, qm⟩ := q
    have q3 : v' = v := q3
    subst q3
    have q4 : zr 0 255 v' := q4
    refine zp2_bir p_signed (fun t1 v1 et => ?_)
    cases et
    refine zp2_ckr (zp2_bvr (fun t2 g2 => zp2_ckr (zp2_bvr (fun t3 g3 => ?_))))
    have ev : v'.toInt8.toInt32 = if 128 ≤ v' then v' - 256 else v' := z_i8s q4
    rw [ev]
    generalize hV : ((zgi μ 3 w.toNatClampNeg) + (if 128 ≤ v' then v' - 256 else v')) &&& 65535 = V at g2
    have rV : zr 0 65535 V := by rw [← hV]; exact z_r16 _
    have zz := (zEnq.wz hI h1 (hF.of (qc.1 36 1 rfl) (qm.1 3 1 rfl)) (v := V) rfl rV (b := 0))
    have q1 : s1 = zsi s' 7 4 w := q1
    have s7 : s'.1 7 4 = 6 := (qc.1 7 4 rfl).trans h7
    have eS : zsi (zsi (zsi s1 36 20 V) 7 5 V) 7 4 6 = zsi (zsi s' 36 20 V) 7 5 V := by
      rw [q1, zsi_cr (k := 7) (l := 36) (by decide), zsi_comm (ν := zsi s' 36 20 V) (k := 7) (i := 4) (j := 5) (by decide), zsi_ow]
      have e4 : zsi (zsi (zsi s' 36 20 V) 7 5 V) 7 4 ((zsi (zsi s' 36 20 V) 7 5 V).1 7 4) = zsi (zsi s' 36 20 V) 7 5 V := zsi_own
      rw [show (zsi (zsi s' 36 20 V) 7 5 V).1 7 4 = 6 from s7] at e4
      exact e4
    have hS : zTT I (zsi (zsi s' 36 20 V) 7 5 V) t3 := by rw [g3, g2]; exact zz.1.pl hI
    have fS : zF (zsi (zsi s' 36 20 V) 7 5 V) t3 := by rw [g3, g2]; exact zz.2.1
    have wS : zWzz (zsi (zsi s' 36 20 V) 7 5 V) t3 := by rw [g3, g2]; rfl
    have pS : zPlc (zsi (zsi s' 36 20 V) 7 5 V) t3 := by
      rw [g3, g2]
      exact Or.inr ⟨show ¬ (1 : Int32) = 0 by decide, rfl⟩
    have c28 : (zsi (zsi s' 36 20 V) 7 5 V).1 36 28 = 0 := (qc.1 36 28 rfl).trans h28
    have hq := fun x2 => t_quart_r1 hI hPo hS fS wS pS c28 (op := op) (x2 := x2) ho n1 n2 n3 n4
    have fin : ∀ c : Int32, zp2 (fX5_carryOn_141 (zsi (zsi (zsi s1 36 20 V) 7 5 V) 7 4 6) op c) (zbi (fX12_plain_r1 t3 op) (fun σ8 v9 => fX12_prefixed_311 σ8 c v9)) (zEnq I) := fun c => by
      rw [eS]
      exact zp2_birp (hq c) (fun a t v q => zp2_some (en c a (t, v) q))
    by_cases o54 : op = 54
    · have e1 : (zck (zin 20 29) (zbv (zsi s1 36 ((20 : Int32).toNatClampNeg) V) (fun σ5 => zck (zin 20 29) (zbv (zsi σ5 7 5 (zgi σ5 36 (20 : Int32).toNatClampNeg)) (fun σ6 => zbv (zsi σ6 7 4 6) (fun σ7 => if op = 54 then fX5_takePlace_64 σ7 9 else fX5_takePlace_64 σ7 12)))))) = some (zsi (zsi (zsi s1 36 20 V) 7 5 V) 7 4 6, 9) := by
        show (if op = 54 then some (zsi (zsi (zsi s1 36 20 V) 7 5 V) 7 4 6, (9 : Int32)) else some (zsi (zsi (zsi s1 36 20 V) 7 5 V) 7 4 6, (12 : Int32))) = _
        rw [if_pos o54]
      rw [e1]
      simp only [if_pos o54]
      exact fin 9
    · have e1 : (zck (zin 20 29) (zbv (zsi s1 36 ((20 : Int32).toNatClampNeg) V) (fun σ5 => zck (zin 20 29) (zbv (zsi σ5 7 5 (zgi σ5 36 (20 : Int32).toNatClampNeg)) (fun σ6 => zbv (zsi σ6 7 4 6) (fun σ7 => if op = 54 then fX5_takePlace_64 σ7 9 else fX5_takePlace_64 σ7 12)))))) = some (zsi (zsi (zsi s1 36 20 V) 7 5 V) 7 4 6, 12) := by
        show (if op = 54 then some (zsi (zsi (zsi s1 36 20 V) 7 5 V) 7 4 6, (9 : Int32)) else some (zsi (zsi (zsi s1 36 20 V) 7 5 V) 7 4 6, (12 : Int32))) = _
        rw [if_neg o54]
      rw [e1]
      simp only [if_neg o54]
      exact fin 12
end ZPX
end ZJN24
section ZJN25
/-! DD CB, FD CB -/
section ZDD
variable {I : zSt → zSt → Prop} {σ μ : zSt}
theorem zp2_burx {α β : Type} {o p : Option zSt} {f : zSt → Option α} {g : zSt → Option β} {P : zSt → zSt → Prop} {Q : α → β → Prop} (h : zp2 o p P) (k : ∀ s t, P s t → zp2 (f s) (g t) Q) : zp2 (zbu o f) (zbu p g) Q := zp2_buu h k
theorem t_r6 (h : zTT I σ μ) (hp : zPlc σ μ) : zp2 (fX2_read σ (zgi σ 7 5)) (fX12_r μ 6) (fun r r' => r.1 = σ ∧ r'.1 = μ ∧ r'.2 = r.2 ∧ zr 0 255 r.2) := by
  unfold fX12_r fX12_r_73
  refine zp2_ifr (fun _ => ?_) (fun q => absurd rfl q)
  refine zp2_bir (p_m h hp) (fun t w et => ?_)
  cases et
  exact zp2_birp (h.1.rd rfl) (fun a t w q => zp2_some q)
/-- bits, behind DD CB -/
theorem t_dbit (hI : zIoK I) (h : zTT I σ μ) (hF : zF σ μ) (hW : zWzz σ μ) (hp : zPlc σ μ) (h32 : ¬ μ.1 0 32 = 0) {op : Int32} (x1 : op >>> ((6 : Int32) &&& 31) = 1) : zp2 (zbi (fX2_read σ (zgi σ 7 5)) (fun σ8 v9 => zck (zin 20 29) (zbu (fX5_askBit σ8 ((op >>> ((3 : Int32) &&& 31)) &&& 7) v9 ((zgi σ8 36 (20 : Int32).toNatClampNeg) >>> ((8 : Int32) &&& 31))) (fun σ14 => some (σ14, (20 : Int32)))))) (fX12_turn μ op) (fun r r' => zEnq I r (r'.1, 20)) := by
  unfold fX12_turn
  refine zp2_bvr (fun y ey => zp2_ifr (fun q => absurd q h32) (fun _ => ?_))
  unfold fX12_turn_23
  refine zp2_sm (t_r6 h hp) (fun v rv => zp2_bvr (fun x ex => ?_))
  have x1' : x = 1 := ex.trans x1
  refine zp2_ifr (fun _ => ?_) (fun q => absurd x1' q)
  refine zp2_bvr (fun w ew => zp2_bur p_by' (fun t2 e2 => ?_))
  subst e2
  have rw1 : zr 0 255 w := by rw [ew]; exact zr_andl (lo := 0) (hi := 255) rv (by decide)
  intro r r' er er'
  have em := p_bitM (μ := μ) (f := gby (μ.1 3 1) w) (z := 6) (v := v) (w := w) r' er'
  have hf : zr 0 255 (σ.1 36 1) := h.b (by decide)
  have hs : zr 0 255 (σ.1 36 20 >>> ((8 : Int32) &&& 31)) := z_hi (h.w (j := 20) (by decide) (by decide))
  have ef : μ.1 3 1 = σ.1 36 1 := hF
  have ew20 : μ.1 3 20 = σ.1 36 20 := hW
  rw [if_pos (rfl : (6 : Int32) = 6), ef, ew20, v_bit hf rw1 hs] at em
  have cC : zpc (zck (zin 20 29) (zbu (fX5_askBit σ ((op >>> ((3 : Int32) &&& 31)) &&& 7) v ((zgi σ 36 (20 : Int32).toNatClampNeg) >>> ((8 : Int32) &&& 31))) (fun σ14 => some (σ14, (20 : Int32))))) (fun r => r = (zsi σ 36 1 (cbit (σ.1 36 1) w (σ.1 36 20 >>> ((8 : Int32) &&& 31))), 20)) := by
    refine zpc_ck (zpc_bu p_bitC (fun s e => zpc_some ?_))
    rw [e, ew, ey]
    rfl
  rw [cC r er, em]
  exact ⟨(h.onC hI (Or.inl rfl) (zrg_b (Or.inl (by decide)) (r_bit hf rw1 hs))).onM hI (Or.inl rfl), rfl, hW, rfl⟩
/-- rotations, behind DD CB: up to the write -/
theorem t_drot (hI : zIoK I) (h : zTT I σ μ) (hF : zF σ μ) (hW : zWzz σ μ) (hp : zPlc σ μ) (h32 : ¬ μ.1 0 32 = 0) {op : Int32} (hx : zr 0 3 (op >>> ((6 : Int32) &&& 31))) (x1 : ¬ op >>> ((6 : Int32) &&& 31) = 1) : zp2 (zbi (fX2_read σ (zgi σ 7 5)) (fun σ8 v9 => zbi (fX5_turned σ8 op v9) (fun σ10 v11 => zbu (fX2_write σ10 (zgi σ10 7 5) v11) (fun σ12 => some (σ12, v11))))) (fX12_turn μ op) (fun r r' => zTT I r.1 r'.1 ∧ zF r.1 r'.1 ∧ zWzz r.1 r'.1 ∧ r'.1.1 0 33 = r.2 ∧ r'.2 = 15 ∧ zr 0 255 r.2) := by
  unfold fX12_turn
  refine zp2_bvr (fun y ey => zp2_ifr (fun q => absurd q h32) (fun _ => ?_))
  unfold fX12_turn_23
  refine zp2_sm (t_r6 h hp) (fun v rv => zp2_bvr (fun x ex => ?_))
  have x1' : ¬ x = 1 := fun q => x1 (ex.symm.trans q)
  refine zp2_ifr (fun q => absurd q x1') (fun _ => ?_)
  rw [ex, ey]
  unfold fX12_turn_191
  refine t_tk hI h hF hx x1 rv (g := fun t w => fX12_turn_193 t 6 w) (fun s t w h1 f1 qc qm rw1 => ?_)
  unfold fX12_turn_193 fX12_turn_219 fX12_rTo
  refine zp2_burx (P := fun s2 t2 => zTT I s2 t2 ∧ zQ [15, 17, 19] [] [] [] s s2 ∧ zQ [5, 6] [(3, 29, 32)] [] [] t t2) ?_ (fun s2 t2 q => zp2_bvr (fun t3 g3 => zp2_ifr (fun _ => zp2_some ?_) (fun q => absurd rfl q)))
  · refine zp2_bvr (fun u eu => ?_)
    have eu : u = w := eu.trans (z_m255 rw1)
    subst eu
    refine zp2_ifr (fun _ => ?_) (fun q => absurd rfl q)
    refine zp2_bir (p_m h1 (hp.of (qc.1 7 5 rfl) (qc.1 36 6 rfl) (qc.1 36 7 rfl) (qm.1 3 20 rfl) (qm.1 0 32 rfl))) (fun t0 w0 et => ?_)
    cases et
    refine zp2_burp (P := fun s2 t2 => zTT I s2 t2 ∧ zQ [15, 17, 19] [] [] [] s s2 ∧ zQ [5, 6] [(3, 29, 32)] [] [] t t2) (zp2_mono (h1.1.wr rfl (z_m255 rw1) rw1) (fun a b q => ⟨h1.mem hI q.1 q.2.1 q.2.2, q.2.1, q.2.2⟩)) (fun a t q => zp2_some q)
  · obtain ⟨h2, qc2, qm2⟩ := q
    subst g3
    exact ⟨h2.m33 hI, f1.of (qc2.1 36 1 rfl) (qm2.1 3 1 rfl), hW.of ((qc2.1 36 20 rfl).trans (qc.1 36 20 rfl)) ((qm2.1 3 20 rfl).trans (qm.1 3 20 rfl)), rfl, rfl, rw1⟩
end ZDD
end ZJN25
section ZJN26
/-! PREFIXES, WHOLE -/
section ZPW
variable {I : zSt → zSt → Prop} {σ μ : zSt}
theorem t_putOneN (hI : zIoK I) (h : zTT I σ μ) {k v w : Int32} (hk6 : ¬ k = 6) (hk : zr 0 7 k) (e : w &&& 255 = v) (hv : zr 0 255 v) : zp2 (fX5_putOne σ k v) (fX12_rTo μ k w) (fun r r' => zTT I r r' ∧ zQ [15, 17, 19] [(36, 0, 0), (36, 2, 7), (36, 16, 17)] [] [] σ r ∧ zQ [5, 6] [(3, 0, 0), (3, 2, 7), (3, 16, 17), (3, 29, 32)] [] [] μ r') := by
  unfold fX5_putOne fX12_rTo fX5_putOne_88 fX12_rTo_113 fX12_rTo_104 fX12_rTo_100 fX5_putPairHalf fX5_putPairHalf_68 fX5_putPairHalf_69
  refine zp2_bvr (fun y ey => ?_)
  have ey : y = v := ey.trans e
  subst ey
  rcases zr_hd (c := 0) hk rfl with e1 | hk
  · subst e1
    have fin : zp2 (zck (zin (2 + (0 &&& 3)) 29) (zbv (zsi σ 36 ((2 + (0 &&& 3) : Int32).toNatClampNeg) y) (fun σ5 => some σ5))) (zck (zin (2 + 0) 1048) (zbv (zsi μ 3 ((2 + 0 : Int32).toNatClampNeg) y) (fun σ1 => some σ1))) (fun r r' => zTT I r r' ∧ zQ [15, 17, 19] [(36, 0, 0), (36, 2, 7), (36, 16, 17)] [] [] σ r ∧ zQ [5, 6] [(3, 0, 0), (3, 2, 7), (3, 16, 17), (3, 29, 32)] [] [] μ r') := by
      refine zp2_ckl (zp2_bvl (fun s f => zp2_ckr (zp2_bvr (fun t g => zp2_some ?_))))
      subst f
      subst g
      exact ⟨h.upd hI [2] (zQ.wi zQ.rf rfl) (zQ.wi zQ.rf rfl) rfl (zAl1 ⟨rfl, zrg_b (Or.inl (by decide)) hv⟩), zQ.wi zQ.rf rfl, zQ.wi zQ.rf rfl⟩
    exact zp2_ifl (fun q => absurd q (by decide)) (fun _ => zp2_ifl (fun q => absurd q (by decide)) (fun _ => zp2_ifl (fun q => absurd q (by decide)) (fun _ => zp2_ifl (fun q => absurd q (by decide)) (fun _ => zp2_ifr (fun q => absurd q (by decide)) (fun _ => zp2_ifr (fun q => absurd q (by decide)) (fun _ => zp2_ifr (fun _ => fin) (fun _ => zp2_ifr (fun _ => fin) (fun q => absurd (by decide) q))))))))
  rcases zr_hd (c := 1) hk rfl with e1 | hk
  · subst e1
    have fin : zp2 (zck (zin (2 + (1 &&& 3)) 29) (zbv (zsi σ 36 ((2 + (1 &&& 3) : Int32).toNatClampNeg) y) (fun σ5 => some σ5))) (zck (zin (2 + 1) 1048) (zbv (zsi μ 3 ((2 + 1 : Int32).toNatClampNeg) y) (fun σ1 => some σ1))) (fun r r' => zTT I r r' ∧ zQ [15, 17, 19] [(36, 0, 0), (36, 2, 7), (36, 16, 17)] [] [] σ r ∧ zQ [5, 6] [(3, 0, 0), (3, 2, 7), (3, 16, 17), (3, 29, 32)] [] [] μ r') := by
      refine zp2_ckl (zp2_bvl (fun s f => zp2_ckr (zp2_bvr (fun t g => zp2_some ?_))))
      subst f
      subst g
      exact ⟨h.upd hI [3] (zQ.wi zQ.rf rfl) (zQ.wi zQ.rf rfl) rfl (zAl1 ⟨rfl, zrg_b (Or.inl (by decide)) hv⟩), zQ.wi zQ.rf rfl, zQ.wi zQ.rf rfl⟩
    exact zp2_ifl (fun q => absurd q (by decide)) (fun _ => zp2_ifl (fun q => absurd q (by decide)) (fun _ => zp2_ifl (fun q => absurd q (by decide)) (fun _ => zp2_ifl (fun q => absurd q (by decide)) (fun _ => zp2_ifr (fun q => absurd q (by decide)) (fun _ => zp2_ifr (fun q => absurd q (by decide)) (fun _ => zp2_ifr (fun _ => fin) (fun _ => zp2_ifr (fun _ => fin) (fun q => absurd (by decide) q))))))))
  rcases zr_hd (c := 2) hk rfl with e1 | hk
  · subst e1
    have fin : zp2 (zck (zin (2 + (2 &&& 3)) 29) (zbv (zsi σ 36 ((2 + (2 &&& 3) : Int32).toNatClampNeg) y) (fun σ5 => some σ5))) (zck (zin (2 + 2) 1048) (zbv (zsi μ 3 ((2 + 2 : Int32).toNatClampNeg) y) (fun σ1 => some σ1))) (fun r r' => zTT I r r' ∧ zQ [15, 17, 19] [(36, 0, 0), (36, 2, 7), (36, 16, 17)] [] [] σ r ∧ zQ [5, 6] [(3, 0, 0), (3, 2, 7), (3, 16, 17), (3, 29, 32)] [] [] μ r') := by
      refine zp2_ckl (zp2_bvl (fun s f => zp2_ckr (zp2_bvr (fun t g => zp2_some ?_))))
      subst f
      subst g
      exact ⟨h.upd hI [4] (zQ.wi zQ.rf rfl) (zQ.wi zQ.rf rfl) rfl (zAl1 ⟨rfl, zrg_b (Or.inl (by decide)) hv⟩), zQ.wi zQ.rf rfl, zQ.wi zQ.rf rfl⟩
    exact zp2_ifl (fun q => absurd q (by decide)) (fun _ => zp2_ifl (fun q => absurd q (by decide)) (fun _ => zp2_ifl (fun q => absurd q (by decide)) (fun _ => zp2_ifl (fun q => absurd q (by decide)) (fun _ => zp2_ifr (fun q => absurd q (by decide)) (fun _ => zp2_ifr (fun q => absurd q (by decide)) (fun _ => zp2_ifr (fun _ => fin) (fun _ => zp2_ifr (fun _ => fin) (fun q => absurd (by decide) q))))))))
  rcases zr_hd (c := 3) hk rfl with e1 | hk
  · subst e1
    have fin : zp2 (zck (zin (2 + (3 &&& 3)) 29) (zbv (zsi σ 36 ((2 + (3 &&& 3) : Int32).toNatClampNeg) y) (fun σ5 => some σ5))) (zck (zin (2 + 3) 1048) (zbv (zsi μ 3 ((2 + 3 : Int32).toNatClampNeg) y) (fun σ1 => some σ1))) (fun r r' => zTT I r r' ∧ zQ [15, 17, 19] [(36, 0, 0), (36, 2, 7), (36, 16, 17)] [] [] σ r ∧ zQ [5, 6] [(3, 0, 0), (3, 2, 7), (3, 16, 17), (3, 29, 32)] [] [] μ r') := by
      refine zp2_ckl (zp2_bvl (fun s f => zp2_ckr (zp2_bvr (fun t g => zp2_some ?_))))
      subst f
      subst g
      exact ⟨h.upd hI [5] (zQ.wi zQ.rf rfl) (zQ.wi zQ.rf rfl) rfl (zAl1 ⟨rfl, zrg_b (Or.inl (by decide)) hv⟩), zQ.wi zQ.rf rfl, zQ.wi zQ.rf rfl⟩
    exact zp2_ifl (fun q => absurd q (by decide)) (fun _ => zp2_ifl (fun q => absurd q (by decide)) (fun _ => zp2_ifl (fun q => absurd q (by decide)) (fun _ => zp2_ifl (fun q => absurd q (by decide)) (fun _ => zp2_ifr (fun q => absurd q (by decide)) (fun _ => zp2_ifr (fun q => absurd q (by decide)) (fun _ => zp2_ifr (fun _ => fin) (fun _ => zp2_ifr (fun _ => fin) (fun q => absurd (by decide) q))))))))
  rcases zr_hd (c := 4) hk rfl with e1 | hk
  · subst e1
    rcases h.2.2.1 with ⟨a, b⟩ | ⟨a, b⟩ | ⟨a, b⟩
    · refine zp2_ifl (fun _ => ?_) (fun q => absurd rfl q)
      rw [show zgi μ 0 31 = 0 from b]
      refine zp2_ifr (fun q => absurd q (by decide)) (fun _ => zp2_ifr (fun q => absurd q (by decide)) (fun _ => zp2_ifr (fun _ => ?_) (fun q => absurd (by decide) q)))
      refine zp2_bul (P := fun r => r = zsi σ 36 6 y) (zpc_if (fun _ => zpc_ck (zpc_bv (fun s f => zpc_some f))) (fun q => absurd a q)) (fun s f => zp2_ckr (zp2_bvr (fun t g => zp2_some ?_)))
      subst f
      subst g
      exact ⟨h.upd hI [6] (zQ.wi zQ.rf rfl) (zQ.wi zQ.rf rfl) rfl (zAl1 ⟨rfl, zrg_b (Or.inl (by decide)) hv⟩), zQ.wi zQ.rf rfl, zQ.wi zQ.rf rfl⟩
    · refine zp2_ifl (fun _ => ?_) (fun q => absurd rfl q)
      refine zp2_bul (P := fun r => r = zsi σ 36 16 ((y <<< ((8 : Int32) &&& 31)) ||| (σ.1 36 16 &&& 255))) ?_ (fun s f => ?_)
      · refine zpc_if (fun q => absurd (a.symm.trans q) (by decide)) (fun _ => zpc_if (fun _ => zpc_ck ?_) (fun q => absurd rfl q))
        rw [show zgi σ 7 4 = 16 from a]
        exact zpc_ck (zpc_bv (fun s f => zpc_some f))
      rw [show zgi μ 0 31 = 16 from b]
      refine zp2_ifr (fun q => absurd q (by decide)) (fun _ => zp2_ifr (fun q => absurd q (by decide)) (fun _ => zp2_ifr (fun q => absurd q (by decide)) (fun _ => zp2_ifr (fun q => absurd q (by decide)) (fun _ => zp2_ifr (fun _ => zp2_ckr ?_) (fun q => absurd rfl q)))))
      refine zp2_ckr (zp2_bvr (fun t g => zp2_some ?_))
      subst f
      subst g
      refine ⟨h.upd hI [16] (zQ.wi zQ.rf rfl) (zQ.wi zQ.rf rfl) rfl (zAl1 ⟨?_, zrg_w (by decide) (by decide) (z_rw' hv (z_r8 _))⟩), zQ.wi zQ.rf rfl, zQ.wi zQ.rf rfl⟩
      show (y <<< ((8 : Int32) &&& 31)) ||| (μ.1 3 16 &&& 255) = (y <<< ((8 : Int32) &&& 31)) ||| (σ.1 36 16 &&& 255)
      rw [h.eq (by decide)]
    · refine zp2_ifl (fun _ => ?_) (fun q => absurd rfl q)
      refine zp2_bul (P := fun r => r = zsi σ 36 17 ((y <<< ((8 : Int32) &&& 31)) ||| (σ.1 36 17 &&& 255))) ?_ (fun s f => ?_)
      · refine zpc_if (fun q => absurd (a.symm.trans q) (by decide)) (fun _ => zpc_if (fun _ => zpc_ck ?_) (fun q => absurd rfl q))
        rw [show zgi σ 7 4 = 17 from a]
        exact zpc_ck (zpc_bv (fun s f => zpc_some f))
      rw [show zgi μ 0 31 = 17 from b]
      refine zp2_ifr (fun q => absurd q (by decide)) (fun _ => zp2_ifr (fun q => absurd q (by decide)) (fun _ => zp2_ifr (fun q => absurd q (by decide)) (fun _ => zp2_ifr (fun q => absurd q (by decide)) (fun _ => zp2_ifr (fun _ => zp2_ckr ?_) (fun q => absurd rfl q)))))
      refine zp2_ckr (zp2_bvr (fun t g => zp2_some ?_))
      subst f
      subst g
      refine ⟨h.upd hI [17] (zQ.wi zQ.rf rfl) (zQ.wi zQ.rf rfl) rfl (zAl1 ⟨?_, zrg_w (by decide) (by decide) (z_rw' hv (z_r8 _))⟩), zQ.wi zQ.rf rfl, zQ.wi zQ.rf rfl⟩
      show (y <<< ((8 : Int32) &&& 31)) ||| (μ.1 3 17 &&& 255) = (y <<< ((8 : Int32) &&& 31)) ||| (σ.1 36 17 &&& 255)
      rw [h.eq (by decide)]
  rcases zr_hd (c := 5) hk rfl with e1 | hk
  · subst e1
    rcases h.2.2.1 with ⟨a, b⟩ | ⟨a, b⟩ | ⟨a, b⟩
    · refine zp2_ifl (fun q => absurd q (by decide)) (fun _ => zp2_ifl (fun _ => ?_) (fun q => absurd rfl q))
      rw [show zgi μ 0 31 = 0 from b]
      refine zp2_ifr (fun q => absurd q (by decide)) (fun _ => zp2_ifr (fun q => absurd q (by decide)) (fun _ => zp2_ifr (fun _ => ?_) (fun q => absurd (by decide) q)))
      refine zp2_bul (P := fun r => r = zsi σ 36 7 y) (zpc_if (fun _ => zpc_ck (zpc_bv (fun s f => zpc_some f))) (fun q => absurd a q)) (fun s f => zp2_ckr (zp2_bvr (fun t g => zp2_some ?_)))
      subst f
      subst g
      exact ⟨h.upd hI [7] (zQ.wi zQ.rf rfl) (zQ.wi zQ.rf rfl) rfl (zAl1 ⟨rfl, zrg_b (Or.inl (by decide)) hv⟩), zQ.wi zQ.rf rfl, zQ.wi zQ.rf rfl⟩
    · refine zp2_ifl (fun q => absurd q (by decide)) (fun _ => zp2_ifl (fun _ => ?_) (fun q => absurd rfl q))
      refine zp2_bul (P := fun r => r = zsi σ 36 16 ((σ.1 36 16 &&& 65280) ||| y)) ?_ (fun s f => ?_)
      · refine zpc_if (fun q => absurd (a.symm.trans q) (by decide)) (fun _ => zpc_if (fun q => absurd q (by decide)) (fun _ => zpc_ck ?_))
        rw [show zgi σ 7 4 = 16 from a]
        exact zpc_ck (zpc_bv (fun s f => zpc_some f))
      rw [show zgi μ 0 31 = 16 from b]
      refine zp2_ifr (fun q => absurd q (by decide)) (fun _ => zp2_ifr (fun q => absurd q (by decide)) (fun _ => zp2_ifr (fun q => absurd q (by decide)) (fun _ => zp2_ifr (fun q => absurd q (by decide)) (fun _ => zp2_ifr (fun q => absurd q (by decide)) (fun _ => zp2_ckr ?_)))))
      refine zp2_ckr (zp2_bvr (fun t g => zp2_some ?_))
      subst f
      subst g
      refine ⟨h.upd hI [16] (zQ.wi zQ.rf rfl) (zQ.wi zQ.rf rfl) rfl (zAl1 ⟨?_, zrg_w (by decide) (by decide) (zr_or (lo := 0) (hi := 65535) 16 (zr_andr (lo := 0) (hi := 65280) (zr_c (lo := 65280) (hi := 65280) (by decide)) (by decide)) hv (by decide))⟩), zQ.wi zQ.rf rfl, zQ.wi zQ.rf rfl⟩
      show (μ.1 3 16 &&& 65280) ||| y = (σ.1 36 16 &&& 65280) ||| y
      rw [h.eq (by decide)]
    · refine zp2_ifl (fun q => absurd q (by decide)) (fun _ => zp2_ifl (fun _ => ?_) (fun q => absurd rfl q))
      refine zp2_bul (P := fun r => r = zsi σ 36 17 ((σ.1 36 17 &&& 65280) ||| y)) ?_ (fun s f => ?_)
      · refine zpc_if (fun q => absurd (a.symm.trans q) (by decide)) (fun _ => zpc_if (fun q => absurd q (by decide)) (fun _ => zpc_ck ?_))
        rw [show zgi σ 7 4 = 17 from a]
        exact zpc_ck (zpc_bv (fun s f => zpc_some f))
      rw [show zgi μ 0 31 = 17 from b]
      refine zp2_ifr (fun q => absurd q (by decide)) (fun _ => zp2_ifr (fun q => absurd q (by decide)) (fun _ => zp2_ifr (fun q => absurd q (by decide)) (fun _ => zp2_ifr (fun q => absurd q (by decide)) (fun _ => zp2_ifr (fun q => absurd q (by decide)) (fun _ => zp2_ckr ?_)))))
      refine zp2_ckr (zp2_bvr (fun t g => zp2_some ?_))
      subst f
      subst g
      refine ⟨h.upd hI [17] (zQ.wi zQ.rf rfl) (zQ.wi zQ.rf rfl) rfl (zAl1 ⟨?_, zrg_w (by decide) (by decide) (zr_or (lo := 0) (hi := 65535) 16 (zr_andr (lo := 0) (hi := 65280) (zr_c (lo := 65280) (hi := 65280) (by decide)) (by decide)) hv (by decide))⟩), zQ.wi zQ.rf rfl, zQ.wi zQ.rf rfl⟩
      show (μ.1 3 17 &&& 65280) ||| y = (σ.1 36 17 &&& 65280) ||| y
      rw [h.eq (by decide)]
  rcases zr_hd (c := 6) hk rfl with e1 | hk
  · exact absurd e1 hk6
  rcases zr_hd (c := 7) hk rfl with e1 | hk
  · subst e1
    refine zp2_ifl (fun q => absurd q (by decide)) (fun _ => zp2_ifl (fun q => absurd q (by decide)) (fun _ => zp2_ifl (fun q => absurd q (by decide)) (fun _ => zp2_ifl (fun _ => zp2_ckl ?_) (fun q => absurd rfl q))))
    refine zp2_ifr (fun q => absurd q (by decide)) (fun _ => zp2_ifr (fun _ => zp2_ckr ?_) (fun q => absurd rfl q))
    refine zp2_bvl (fun s f => zp2_bvr (fun t g => zp2_some ?_))
    subst f
    subst g
    exact ⟨h.upd hI [0] (zQ.wi zQ.rf rfl) (zQ.wi zQ.rf rfl) rfl (zAl1 ⟨rfl, zrg_b (Or.inl (by decide)) hv⟩), zQ.wi zQ.rf rfl, zQ.wi zQ.rf rfl⟩
  exact zr_no9 hk (by decide)
theorem zTT.m32 (hI : zIoK I) (h : zTT I σ μ) {w : Int32} : zTT I σ (zsi μ 0 32 w) := ⟨h.1.keep zQ.rf (zQ.wi zQ.rf rfl), ⟨fun j a b c => h.2.1.1 j a b c, h.2.1.2.1, h.2.1.2.2.1, h.2.1.2.2.2⟩, h.2.2.1.of rfl rfl, hI _ _ _ _ h.2.2.2 zQ.rf (zQ.wi zQ.rf rfl)⟩
theorem zp2_3a {α β : Type} {o p : Option (zSt × Int32)} {f : zSt → Int32 → Option (zSt × Int32)} {g : zSt → Int32 → Option zSt} {K : zSt → Int32 → Option α} {G : zSt → Int32 → Option β} {P : zSt × Int32 → zSt × Int32 → Prop} {Q : α → β → Prop} (h : zp2 (zbi o (fun a b => zbi (f a b) (fun c d => zbu (g c d) (fun e => some (e, d))))) p P) (k : ∀ s v t w, P (s, v) (t, w) → zp2 (K s v) (G t w) Q) : zp2 (zbi o (fun a b => zbi (f a b) (fun c d => zbu (g c d) (fun e => K e d)))) (zbi p G) Q := by
  have e : zbi o (fun a b => zbi (f a b) (fun c d => zbu (g c d) (fun e => K e d))) = zbi (zbi o (fun a b => zbi (f a b) (fun c d => zbu (g c d) (fun e => some (e, d))))) K := by
    cases o with
    | none => rfl
    | some r =>
      show zbi (f r.1 r.2) (fun c d => zbu (g c d) (fun e => K e d)) = zbi (zbi (f r.1 r.2) (fun c d => zbu (g c d) (fun e => some (e, d)))) K
      cases f r.1 r.2 with
      | none => rfl
      | some u =>
        show zbu (g u.1 u.2) (fun e => K e u.2) = zbi (zbu (g u.1 u.2) (fun e => some (e, u.2))) K
        cases g u.1 u.2 with
        | none => rfl
        | some x => rfl
  rw [e]
  exact zp2_bii h (fun s v t w q => k s v t w q)
theorem t_d135 {s t : zSt} {op v : Int32} (h : zTT I s t) (hF : zF s t) (hW : zWzz s t) (x1 : ¬ op >>> ((6 : Int32) &&& 31) = 1) (hv : v = 15) : zp2 (some (s, (23 : Int32))) (fX12_prefixed_135 t op v) (zEnq I) := by
  unfold fX12_prefixed_135 fX12_prefixed_154
  subst hv
  exact zp2_ifr (fun q => absurd q x1) (fun _ => zp2_some ⟨h, hF, hW, (show (15 : Int32) + 8 = 23 by decide)⟩)
theorem t_ddcb (hI : zIoK I) (h : zTT I σ μ) (hF : zF σ μ) (h7 : σ.1 7 4 = 6) {w : Int32} (hw : w = 16 ∨ w = 17) : zp2 (fX5_turnBeside (zsi σ 7 4 w)) (zck (zin w 1048) (zbi (fX12_next μ ) (fun σ20 v21 => zbi (fX12_signed σ20 v21) (fun σ22 v23 => zck (zin 20 1048) (zbv (zsi σ22 3 ((20 : Int32).toNatClampNeg) (((zgi μ 3 w.toNatClampNeg) + v23) &&& 65535)) (fun σ24 => zck (zbo 1) (zbv (zsi σ24 0 32 1) (fun σ25 => zbi (fX12_next σ25 ) (fun σ26 v27 => zbi (fX12_turn σ26 v27) (fun σ28 v29 => if (v27 >>> ((6 : Int32) &&& 31)) = 1 then fX12_prefixed_135 σ28 v27 v29 else if (v27 &&& 7) = 6 then fX12_prefixed_135 σ28 v27 v29 else zck (zbo 0) (zbv (zsi σ28 0 32 0) (fun σ30 => zbu (fX12_rTo σ30 (v27 &&& 7) (zgi σ30 0 33)) (fun σ31 => fX12_prefixed_135 σ31 v27 v29))))))))))))) (zEnq I) := by
  unfold fX5_turnBeside fX5_turnBeside_128
  have ej : zgi (zsi σ 7 4 w) 7 4 = w := rfl
  have ei : zgi (zsi σ 7 4 w) 36 w.toNatClampNeg = zgi μ 3 w.toNatClampNeg := by
    rcases hw with e | e
    · subst e; exact (h.eq (j := 16) (by decide)).symm
    · subst e; exact (h.eq (j := 17) (by decide)).symm
  rw [ej, ei]
  refine zp2_ckl (zp2_ckr (zp2_bii (t_nextJ hI h (w := w)) (fun s1 v t v' q => ?_)))
  obtain ⟨s', q1, h1, q3, q4, qc, qm⟩ := q
  have q3 : v' = v := q3
  subst q3
  have q4 : zr 0 255 v' := q4
  refine zp2_bir p_signed (fun t1 v1 et => ?_)
  cases et
  refine zp2_ckr (zp2_bvr (fun t2 g2 => zp2_ckr (zp2_bvr (fun t3 g3 => ?_))))
  have ev : v'.toInt8.toInt32 = if 128 ≤ v' then v' - 256 else v' := z_i8s q4
  rw [ev]
  generalize hV : ((zgi μ 3 w.toNatClampNeg) + (if 128 ≤ v' then v' - 256 else v')) &&& 65535 = V at g2
  have rV : zr 0 65535 V := by rw [← hV]; exact z_r16 _
  have zz := (zEnq.wz hI h1 (hF.of (qc.1 36 1 rfl) (qm.1 3 1 rfl)) (v := V) rfl rV (b := 0))
  have q1 : s1 = zsi s' 7 4 w := q1
  have s7 : s'.1 7 4 = 6 := (qc.1 7 4 rfl).trans h7
  have eS : zsi (zsi (zsi s1 36 20 V) 7 5 V) 7 4 6 = zsi (zsi s' 36 20 V) 7 5 V := by
    rw [q1, zsi_cr (k := 7) (l := 36) (by decide), zsi_comm (ν := zsi s' 36 20 V) (k := 7) (i := 4) (j := 5) (by decide), zsi_ow]
    have e4 : zsi (zsi (zsi s' 36 20 V) 7 5 V) 7 4 ((zsi (zsi s' 36 20 V) 7 5 V).1 7 4) = zsi (zsi s' 36 20 V) 7 5 V := zsi_own
    rw [show (zsi (zsi s' 36 20 V) 7 5 V).1 7 4 = 6 from s7] at e4
    exact e4
  have hS : zTT I (zsi (zsi s' 36 20 V) 7 5 V) t3 := by rw [g3, g2]; exact zz.1.pl hI
  have fS : zF (zsi (zsi s' 36 20 V) 7 5 V) t3 := by rw [g3, g2]; exact zz.2.1
  have wS : zWzz (zsi (zsi s' 36 20 V) 7 5 V) t3 := by rw [g3, g2]; rfl
  have n32 : ¬ t3.1 0 32 = 0 := by rw [g3]; exact (show ¬ (1 : Int32) = 0 by decide)
  have pS : zPlc (zsi (zsi s' 36 20 V) 7 5 V) t3 := by
    rw [g3, g2]
    exact Or.inr ⟨show ¬ (1 : Int32) = 0 by decide, rfl⟩
  refine zp2_ckl (zp2_bvl (fun s3 f3 => zp2_ckl (zp2_bvl (fun s4 f4 => zp2_bvl (fun s5 f5 => ?_)))))
  have f5' : s5 = zsi (zsi s' 36 20 V) 7 5 V := by
    rw [← eS, f5, f4, f3]
    rfl
  subst f5'
  refine zp2_bii (t_next hI hS) (fun s6 op t6 op' q => ?_)
  obtain ⟨h6, e6, ro, qc6, qm6⟩ := q
  have e6 : op' = op := e6
  subst e6
  have ro : zr 0 255 op' := ro
  have F6 : zF s6 t6 := fS.of (qc6.1 36 1 rfl) (qm6.1 3 1 rfl)
  have W6 : zWzz s6 t6 := wS.of (qc6.1 36 20 rfl) (qm6.1 3 20 rfl)
  have p6 : zPlc s6 t6 := pS.of (qc6.1 7 5 rfl) (qc6.1 36 6 rfl) (qc6.1 36 7 rfl) (qm6.1 3 20 rfl) (qm6.1 0 32 rfl)
  have n6 : ¬ t6.1 0 32 = 0 := fun q => n32 ((qm6.1 0 32 rfl).symm.trans q)
  by_cases x1 : op' >>> ((6 : Int32) &&& 31) = 1
  · have tb := t_dbit hI h6 F6 W6 p6 n6 x1
    simp only [if_pos x1]
    refine zp2_birp tb (fun a t w q => ?_)
    unfold fX12_prefixed_135 fX12_prefixed_154
    exact zp2_ifr (fun _ => zp2_some q) (fun r => absurd x1 r)
  · have tr := t_drot hI h6 F6 W6 p6 n6 (z_dec ro).1 x1
    simp only [if_neg x1]
    refine zp2_3a tr (fun s v t w q => ?_)
    obtain ⟨q1, q2, q3, q4, q5, q6⟩ := q
    by_cases z6 : op' &&& 7 = 6
    · exact zp2_ifl (fun _ => zp2_ifr (fun _ => t_d135 q1 q2 q3 x1 q5) (fun r => absurd z6 r)) (fun r => absurd z6 r)
    · refine zp2_ifl (fun r => absurd r z6) (fun _ => zp2_ifr (fun r => absurd r z6) (fun _ => zp2_ckr (zp2_bvr (fun t30 g30 => ?_))))
      have h30 : zTT I s t30 := by rw [g30]; exact q1.m32 hI
      have e33 : zgi t30 0 33 = v := by rw [g30]; exact q4
      rw [e33]
      refine zp2_buu (t_putOneN hI h30 (k := op' &&& 7) z6 (z_r7 _) (z_m255 q6) q6) (fun s2 t2 q => ?_)
      obtain ⟨h2, qc2, qm2⟩ := q
      have f30 : zF s t30 := by rw [g30]; exact q2
      have w30 : zWzz s t30 := by rw [g30]; exact q3
      exact t_d135 h2 (f30.of (qc2.1 36 1 rfl) (qm2.1 3 1 rfl)) (w30.of (qc2.1 36 20 rfl) (qm2.1 3 20 rfl)) x1 q5
end ZPW
end ZJN26
section ZJN27
/-! ONE INSTRUCTION OF BOTH -/
section ZCO
variable {I : zSt → zSt → Prop} {σ μ : zSt}
theorem t_p90 (hI : zIoK I) (h : zTT I σ μ) (hF : zF σ μ) (hW : zWzz σ μ) : zp2 (fX5_carryOn_90 σ) (fX12_prefixed_33 μ) (zEnq I) := by
  unfold fX5_carryOn_90 fX12_prefixed_33
  refine zp2_ckl (zp2_bvl (fun s f => zp2_ckr (zp2_bvr (fun t g => zp2_some ?_))))
  subst f
  subst g
  exact ⟨h.pz hI (zr_c (by decide)), hF, hW, rfl⟩
theorem t_115 (hI : zIoK I) (hPo : zPorts I) (h : zTT I σ μ) (hF : zF σ μ) (hW : zWzz σ μ) (hp : zPlc σ μ) (h7 : σ.1 7 4 = 6) (h28 : σ.1 36 28 = 0) {w v : Int32} (hw : w = 16 ∨ w = 17) (ee : fX12_read μ (zgi μ 3 (19 : Int32).toNatClampNeg) = some (μ, v)) (n3 : ¬ v = 221) (n2 : ¬ v = 237) (n4 : ¬ v = 253) : zp2 (fX5_carryOn_115 σ w) (zbi (fX12_fetch μ ) (fun σ15 v16 => if v16 = 203 then zck (zin w 1048) (zbi (fX12_next σ15 ) (fun σ20 v21 => zbi (fX12_signed σ20 v21) (fun σ22 v23 => zck (zin 20 1048) (zbv (zsi σ22 3 ((20 : Int32).toNatClampNeg) (((zgi σ15 3 w.toNatClampNeg) + v23) &&& 65535)) (fun σ24 => zck (zbo 1) (zbv (zsi σ24 0 32 1) (fun σ25 => zbi (fX12_next σ25 ) (fun σ26 v27 => zbi (fX12_turn σ26 v27) (fun σ28 v29 => if (v27 >>> ((6 : Int32) &&& 31)) = 1 then fX12_prefixed_135 σ28 v27 v29 else if (v27 &&& 7) = 6 then fX12_prefixed_135 σ28 v27 v29 else zck (zbo 0) (zbv (zsi σ28 0 32 0) (fun σ30 => zbu (fX12_rTo σ30 (v27 &&& 7) (zgi σ30 0 33)) (fun σ31 => fX12_prefixed_135 σ31 v27 v29)))))))))))) else zbv ((v16 >>> ((3 : Int32) &&& 31)) &&& 7) (fun v17 => zbv (v16 &&& 7) (fun v18 => zbv (v16 >>> ((6 : Int32) &&& 31)) (fun v19 => if v19 = 0 then if v18 ≤ 3 then fX12_prefixed_200 σ15 w v16 v17 v18 v19 else if 7 ≤ v18 then fX12_prefixed_200 σ15 w v16 v17 v18 v19 else if v17 = 6 then fX12_prefixed_239 σ15 w v16 else fX12_prefixed_200 σ15 w v16 v17 v18 v19 else fX12_prefixed_200 σ15 w v16 v17 v18 v19))))) (zEnq I) := by
  unfold fX5_carryOn_115
  refine zp2_bvl (fun s0 e0 => ?_)
  subst e0
  refine zp2_bii (t_opJ hI h) (fun s1 op t op' q => ?_)
  obtain ⟨s', q1, h1, q3, ro, qc, qm, rd⟩ := q
  have q3 : op' = op := q3
  subst q3
  have ro : zr 0 255 op' := ro
  have ev : op' = v := by
    have e : some (μ, op') = some (μ, v) := rd.symm.trans ee
    cases e
    rfl
  have q1 : s1 = zsi s' 7 4 w := q1
  subst q1
  have F1 : zF s' t := hF.of (qc.1 36 1 rfl) (qm.1 3 1 rfl)
  have W1 : zWzz s' t := hW.of (qc.1 36 20 rfl) (qm.1 3 20 rfl)
  have p1 : zPlc s' t := hp.of (qc.1 7 5 rfl) (qc.1 36 6 rfl) (qc.1 36 7 rfl) (qm.1 3 20 rfl) (qm.1 0 32 rfl)
  by_cases cb : op' = 203
  · refine zp2_ifl (fun _ => zp2_ifr (fun _ => ?_) (fun q => absurd cb q)) (fun q => absurd cb q)
    exact zp2_bilp (t_ddcb hI h1 F1 ((qc.1 7 4 rfl).trans h7) hw) (fun s v b q => zp2_some q)
  · refine zp2_ifl (fun q => absurd q cb) (fun _ => zp2_ifr (fun q => absurd q cb) (fun _ => ?_))
    refine zp2_bvr (fun y ey => zp2_bvr (fun z ez => zp2_bvr (fun x ex => ?_)))
    rw [e_pml, ey, ez, ex, (z_mpl ro).1]
    exact t_px hI hPo h1 F1 W1 p1 ((qc.1 7 4 rfl).trans h7) ((qc.1 36 28 rfl).trans h28) hw ro cb (fun e => n2 (ev.symm.trans e)) (fun e => n3 (ev.symm.trans e)) (fun e => n4 (ev.symm.trans e))
theorem t_prefix (hI : zIoK I) (hPo : zPorts I) (h : zTT I σ μ) (hF : zF σ μ) (hW : zWzz σ μ) (hp : zPlc σ μ) (h7 : σ.1 7 4 = 6) (h28 : σ.1 36 28 = 0) {x w : Int32} (hx : (x = 221 ∧ w = 16) ∨ (x = 253 ∧ w = 17)) : zp2 (fX5_carryOn_54 σ x) (fX12_prefixed μ w) (zEnq I) := by
  unfold fX5_carryOn_54 fX12_prefixed
  have e19 : zgi μ 3 (19 : Int32).toNatClampNeg = zgi σ 36 (19 : Int32).toNatClampNeg := h.eq (j := 19) (by decide)
  refine zp2_ckl (zp2_ckr (zp2_rdE h.1 (by rw [e19]) (fun v hv ee => ?_)))
  refine zp2_if (fun _ => t_p90 hI h hF hW) (fun n3 => zp2_if (fun _ => t_p90 hI h hF hW) (fun n2 => zp2_if (fun _ => t_p90 hI h hF hW) (fun n4 => ?_)))
  rcases hx with ⟨e1, e2⟩ | ⟨e1, e2⟩
  · subst e1
    subst e2
    exact zp2_ifl (fun _ => t_115 hI hPo h hF hW hp h7 h28 (Or.inl rfl) ee n3 n2 n4) (fun q => absurd rfl q)
  · subst e1
    subst e2
    exact zp2_ifl (fun q => absurd q (by decide)) (fun _ => t_115 hI hPo h hF hW hp h7 h28 (Or.inr rfl) ee n3 n2 n4)
theorem t_pl221 {o : Option (zSt × Int32)} (h : zp2 o (fX12_prefixed μ 16) (zEnq I)) : zp2 o (fX12_plain μ 221) (zEnq I) := by
  unfold fX12_plain fX12_plain_160
  refine zp2_bvr (fun y ey => zp2_bvr (fun z ez => ?_))
  have ey : y = 3 := ey.trans (by decide)
  have ez : z = 5 := ez.trans (by decide)
  subst ey
  subst ez
  refine zp2_ifr (fun q => absurd q (by decide)) (fun _ => zp2_ifr (fun q => absurd q (by decide)) (fun _ => zp2_ifr (fun q => absurd q (by decide)) (fun _ => zp2_ifr (fun _ => ?_) (fun q => absurd (by decide) q))))
  refine zp2_birp (P := zEnq I) ?_ (fun a t w q => zp2_some q)
  unfold fX12_more3 fX12_more3_197 fX12_more3_200
  refine zp2_bvr (fun p ep => zp2_ifr (fun q => absurd q (by decide)) (fun _ => zp2_ifr (fun q => absurd q (by decide)) (fun _ => zp2_ifr (fun q => absurd q (by decide)) (fun _ => zp2_ckr (zp2_ifr (fun q => absurd q (by decide)) (fun _ => ?_))))))
  have ep : p = 1 := ep.trans (by decide)
  subst ep
  refine zp2_ifr (fun q => absurd q (by decide)) (fun _ => zp2_ifr (fun q => absurd q (by decide)) (fun _ => zp2_ifr (fun _ => ?_) (fun q => absurd rfl q)))
  exact zp2_birp h (fun a t w q => zp2_some q)
theorem t_pl253 {o : Option (zSt × Int32)} (h : zp2 o (fX12_prefixed μ 17) (zEnq I)) : zp2 o (fX12_plain μ 253) (zEnq I) := by
  unfold fX12_plain fX12_plain_160
  refine zp2_bvr (fun y ey => zp2_bvr (fun z ez => ?_))
  have ey : y = 7 := ey.trans (by decide)
  have ez : z = 5 := ez.trans (by decide)
  subst ey
  subst ez
  refine zp2_ifr (fun q => absurd q (by decide)) (fun _ => zp2_ifr (fun q => absurd q (by decide)) (fun _ => zp2_ifr (fun q => absurd q (by decide)) (fun _ => zp2_ifr (fun _ => ?_) (fun q => absurd (by decide) q))))
  refine zp2_birp (P := zEnq I) ?_ (fun a t w q => zp2_some q)
  unfold fX12_more3 fX12_more3_197 fX12_more3_200
  refine zp2_bvr (fun p ep => zp2_ifr (fun q => absurd q (by decide)) (fun _ => zp2_ifr (fun q => absurd q (by decide)) (fun _ => zp2_ifr (fun q => absurd q (by decide)) (fun _ => zp2_ckr (zp2_ifr (fun q => absurd q (by decide)) (fun _ => ?_))))))
  have ep : p = 3 := ep.trans (by decide)
  subst ep
  refine zp2_ifr (fun q => absurd q (by decide)) (fun _ => zp2_ifr (fun q => absurd q (by decide)) (fun _ => zp2_ifr (fun q => absurd q (by decide)) (fun _ => ?_)))
  exact zp2_birp h (fun a t w q => zp2_some q)
theorem zTT.j0 (hI : zIoK I) (h : zTT I σ μ) {v : Int32} : zTT I (zsi (zsi σ 7 4 6) 7 5 v) (zsi (zsi μ 0 31 0) 0 32 0) := ⟨h.1.keep (zQ.wi (zQ.wi zQ.rf rfl) rfl) (zQ.wi (zQ.wi zQ.rf rfl) rfl), ⟨fun j a b c => h.2.1.1 j a b c, h.2.1.2.1, h.2.1.2.2.1, h.2.1.2.2.2⟩, Or.inl ⟨rfl, rfl⟩, hI _ _ _ _ h.2.2.2 (zQ.wi (zQ.wi zQ.rf rfl) rfl) (zQ.wi (zQ.wi zQ.rf rfl) rfl)⟩
theorem t_instr (hI : zIoK I) (hPo : zPorts I) (h : zTT I σ μ) (hF : zF σ μ) (hW : zWzz σ μ) (h28 : σ.1 36 28 = 0) : zp2 (zbv (zsi σ 7 4 6) (fun σ31 => zbi (fX5_pairAt σ31 6) (fun σ32 v33 => zbv (zsi σ32 7 5 v33) (fun σ34 => zbi (fX5_fetchOp σ34 ) (fun σ35 v36 => if v36 = 221 then fX5_carryOn_54 σ35 v36 else if v36 = 253 then fX5_carryOn_54 σ35 v36 else fX5_carryOn_141 σ35 v36 0))))) (fX12_instruction μ ) (zEnq I) := by
  unfold fX12_instruction
  refine zp2_bvl (fun s0 e0 => zp2_bil p_pC6 (fun s1 v1 e1 => ?_))
  cases e1
  subst e0
  refine zp2_bvl (fun s2 e2 => zp2_bvr (fun t1 g1 => zp2_ckr (zp2_bvr (fun t2 g2 => ?_))))
  subst g1
  subst g2
  have h2 : zTT I s2 (zsi (zsi μ 0 31 0) 0 32 0) := by rw [e2]; exact h.j0 hI
  have F2 : zF s2 (zsi (zsi μ 0 31 0) 0 32 0) := by rw [e2]; exact hF
  have W2 : zWzz s2 (zsi (zsi μ 0 31 0) 0 32 0) := by rw [e2]; exact hW
  have p2 : zPlc s2 (zsi (zsi μ 0 31 0) 0 32 0) := by rw [e2]; exact Or.inl ⟨rfl, rfl⟩
  have s7 : s2.1 7 4 = 6 := by rw [e2]; rfl
  have c28 : s2.1 36 28 = 0 := by rw [e2]; exact h28
  refine zp2_bii (t_op hI h2) (fun s op t op' q => ?_)
  obtain ⟨h3, e3, ro, qc, qm⟩ := q
  have e3 : op' = op := e3
  subst e3
  have ro : zr 0 255 op' := ro
  have F3 : zF s t := F2.of (qc.1 36 1 rfl) (qm.1 3 1 rfl)
  have W3 : zWzz s t := W2.of (qc.1 36 20 rfl) (qm.1 3 20 rfl)
  have p3 : zPlc s t := p2.of (qc.1 7 5 rfl) (qc.1 36 6 rfl) (qc.1 36 7 rfl) (qm.1 3 20 rfl) (qm.1 0 32 rfl)
  have t7 : s.1 7 4 = 6 := (qc.1 7 4 rfl).trans s7
  have t28 : s.1 36 28 = 0 := (qc.1 36 28 rfl).trans c28
  have t32 : t.1 0 32 = 0 := (qm.1 0 32 rfl).trans rfl
  refine zp2_birp (P := zEnq I) ?_ (fun a t w q => zp2_some q)
  by_cases a1 : op' = 221
  · subst a1
    exact zp2_ifl (fun _ => t_pl221 (t_prefix hI hPo h3 F3 W3 p3 t7 t28 (Or.inl ⟨rfl, rfl⟩))) (fun q => absurd rfl q)
  by_cases a2 : op' = 253
  · subst a2
    exact zp2_ifl (fun q => absurd q (by decide)) (fun _ => zp2_ifl (fun _ => t_pl253 (t_prefix hI hPo h3 F3 W3 p3 t7 t28 (Or.inr ⟨rfl, rfl⟩))) (fun q => absurd rfl q))
  refine zp2_ifl (fun q => absurd q a1) (fun _ => zp2_ifl (fun q => absurd q a2) (fun _ => ?_))
  by_cases a3 : op' = 203
  · subst a3
    exact t_cb hI h3 F3 W3 p3 t32
  by_cases a4 : op' = 237
  · subst a4
    exact t_edp hI hPo h3 F3 W3 p3
  refine zp2_mono (t_quart hI hPo h3 F3 W3 p3 t28 (x2 := 0) ro a3 a4 a1 a2) (fun r r' q => ?_)
  obtain ⟨q1, q2, q3, q4⟩ := q
  refine ⟨q1, q2, q3, ?_⟩
  have q4 : r'.2 + 0 = r.2 := q4
  rw [Int32.add_zero] at q4
  exact q4
end ZCO
end ZJN27
section ZJN28
/-! CALLS -/
theorem z_uck {α : Type} {c : Bool} {o : Option zSt} {f : zSt → Option α} : zbu (zck c o) f = zck c (zbu o f) := by
  cases c <;> rfl
theorem z_ubv {α : Type} {a : zSt} {g : zSt → Option zSt} {f : zSt → Option α} : zbu (zbv a g) f = zbv a (fun s => zbu (g s) f) := rfl
theorem z_us {α : Type} {s : zSt} {f : zSt → Option α} : zbu (some s) f = f s := rfl
noncomputable def zgR (x : Int32) : Int32 := (x &&& 128) ||| ((x + 1) &&& 127)
theorem zgR_r (x : Int32) : zr 0 255 (zgR x) := zr_or (lo := 0) (hi := 255) 8 (zr_andr (lo := 0) (hi := 128) (zr_c (lo := 128) (hi := 128) (by decide)) (by decide)) (zr_andr (lo := 0) (hi := 127) (zr_c (lo := 127) (hi := 127) (by decide)) (by decide)) (by decide)
section ZCL
variable {I : zSt → zSt → Prop} {σ μ : zSt}
theorem p_grR : zpc (fX5_growR σ ) (fun r => r = zsi σ 36 22 (zgR (σ.1 36 22))) := by
  unfold fX5_growR
  exact zpc_ck (zpc_ck (zpc_ck (zpc_bv (fun s es => zpc_some es))))
theorem p_grM : zpc (fX12_grows μ ) (fun r => r = zsi μ 3 22 (zgR (μ.1 3 22))) := by
  unfold fX12_grows
  exact zpc_ck (zpc_ck (zpc_ck (zpc_bv (fun s es => zpc_some es))))
theorem t_halt (hI : zIoK I) (h : zTT I σ μ) (hF : zF σ μ) (hW : zWzz σ μ) : zp2 (fX5_growR σ ) (fX12_grows μ ) (fun r r' => zTT I r r' ∧ zF r r' ∧ zWzz r r') := by
  intro r r' er er'
  rw [p_grR r er, p_grM r' er', show μ.1 3 22 = σ.1 36 22 from h.eq (by decide)]
  exact ⟨h.upd hI [22] (zQ.wi zQ.rf rfl) (zQ.wi zQ.rf rfl) rfl (zAl1 ⟨rfl, zrg_b (Or.inr (Or.inr rfl)) (zgR_r _)⟩), hF, hW⟩
theorem p_ans : zpc (fX12_answers μ ) (fun r => r = zsi (zsi μ 3 22 (zgR (μ.1 3 22))) 3 26 0) := by
  unfold fX12_answers
  exact zpc_bu p_grM (fun s e => zpc_ck (zpc_bv (fun s2 e2 => zpc_some (by rw [e2, e]; rfl))))
/-- both break off and call; m2: the reference behind its answer -/
theorem t_brk (hI : zIoK I) (h : zTT I σ μ) (hF : zF σ μ) {x : Int32} (hx : zr 0 65535 x) {m2 : zSt} (e : m2 = zsi (zsi μ 3 22 (zgR (μ.1 3 22))) 3 26 0) {α β : Type} {Q : α → β → Prop} {f : zSt → Option α} {g : zSt → Option β} (k : ∀ s t, zTT I s t → zF s t → zWzz s t → t.1 3 25 = μ.1 3 25 → zp2 (f s) (g t) Q) : zp2 (zbu (fX5_breakOff σ x) f) (zbu (fX12_call m2 x) g) Q := by
  unfold fX5_breakOff
  rw [z_ua]
  refine zp2_bul p_grR (fun s1 e1 => ?_)
  rw [z_uck]
  refine zp2_ckl ?_
  rw [z_ubv]
  refine zp2_bvl (fun s2 e2 => ?_)
  rw [z_uck]
  refine zp2_ckl ?_
  simp only [z_ua, z_us]
  have e22 : μ.1 3 22 = σ.1 36 22 := h.eq (by decide)
  rw [e22] at e
  have h2 : zTT I s2 m2 := by
    rw [e, e2, e1]
    exact h.upd hI [22, 26] (zQ.wi (zQ.wi zQ.rf rfl) rfl) (zQ.wi (zQ.wi zQ.rf rfl) rfl) rfl (zAl2 ⟨rfl, zrg_b (Or.inr (Or.inr rfl)) (zgR_r _)⟩ ⟨rfl, zrg_1 (by decide) (by decide) (show zr 0 1 (0 : Int32) from zr_c (by decide))⟩)
  have F2 : zF s2 m2 := by rw [e, e2, e1]; exact hF
  refine t_callk hI h2 F2 hx (fun s t q1 q2 q3 _ qm => k s t q1 q2 q3 ?_)
  rw [qm.1 3 25 rfl, e]
  rfl
end ZCL
end ZJN28
section ZJN29
/-! BEATS -/
theorem zpc_tt {α : Type} {o : Option α} : zpc o (fun _ => True) := fun _ _ => trivial
theorem pb_fX12_singles_28 {σ : zSt} {s0 : Int32} (qs0 : zr 7 10 s0) : zpc (fX12_singles_28 σ s0) (fun r => zr (7) (10) r.2) := by
  unfold fX12_singles_28
  exact zpc_some qs0
theorem pb_fX12_singles_316 {σ : zSt} : zpc (fX12_singles_316 σ) (fun r => zr (4) (4) r.2) := by
  unfold fX12_singles_316
  exact zpc_some (zr_c (x := 4) (lo := 4) (hi := 4) (by decide))
theorem pb_fX12_singles_297 {σ : zSt} {s0 : Int32} {s1 : Int32} : zpc (fX12_singles_297 σ s0 s1) (fun r => zr (4) (4) r.2) := by
  unfold fX12_singles_297
  exact zpc_bu zpc_tt (fun σ7 _ => zpc_bu zpc_tt (fun σ8 _ => zpc_ck (zpc_bu zpc_tt (fun σ9 _ => pb_fX12_singles_316))))
theorem pb_fX12_singles_292 {σ : zSt} {s0 : Int32} : zpc (fX12_singles_292 σ s0) (fun r => zr (4) (4) r.2) := by
  unfold fX12_singles_292
  exact pb_fX12_singles_297
theorem pb_fX12_singles_273 {σ : zSt} {x1 : Int32} {s0 : Int32} {s1 : Int32} : zpc (fX12_singles_273 σ x1 s0 s1) (fun r => zr (4) (4) r.2) := by
  unfold fX12_singles_273
  exact zpc_bu zpc_tt (fun σ10 _ => zpc_if (fun _ => pb_fX12_singles_292) (fun _ => zpc_bi zpc_tt (fun σ11 v12 _ => zpc_if (fun _ => pb_fX12_singles_292) (fun _ => pb_fX12_singles_297))))
theorem pb_fX12_singles_272 {σ : zSt} {x1 : Int32} {s0 : Int32} : zpc (fX12_singles_272 σ x1 s0) (fun r => zr (4) (4) r.2) := by
  unfold fX12_singles_272
  exact pb_fX12_singles_273
theorem pb_fX12_singles_149 {σ : zSt} {s0 : Int32} (qs0 : zr 4 11 s0) : zpc (fX12_singles_149 σ s0) (fun r => zr (4) (11) r.2) := by
  unfold fX12_singles_149
  exact zpc_some qs0
theorem pb_fX12_singles_134 {σ : zSt} {x1 : Int32} {s0 : Int32} {s1 : Int32} : zpc (fX12_singles_134 σ x1 s0 s1) (fun r => zr (4) (11) r.2) := by
  unfold fX12_singles_134
  exact zpc_bu zpc_tt (fun σ1 _ => zpc_if (fun _ => pb_fX12_singles_149 (zr_w (zr_c (x := 11) (lo := 11) (hi := 11) (by decide)) (by decide))) (fun _ => pb_fX12_singles_149 (zr_w (zr_c (x := 4) (lo := 4) (hi := 4) (by decide)) (by decide))))
theorem pb_fX12_singles_119 {σ : zSt} {x1 : Int32} {x2 : Int32} {s0 : Int32} {s1 : Int32} : zpc (fX12_singles_119 σ x1 x2 s0 s1) (fun r => zr (4) (11) r.2) := by
  unfold fX12_singles_119
  exact zpc_bu zpc_tt (fun σ2 _ => zpc_if (fun _ => pb_fX12_singles_134) (fun _ => pb_fX12_singles_134))
theorem pb_fX12_singles_111 {σ : zSt} {x1 : Int32} {x2 : Int32} {s0 : Int32} {s1 : Int32} {s2 : Int32} : zpc (fX12_singles_111 σ x1 x2 s0 s1 s2) (fun r => zr (4) (11) r.2) := by
  unfold fX12_singles_111
  exact zpc_if (fun _ => pb_fX12_singles_119) (fun _ => pb_fX12_singles_119)
theorem pb_fX12_singles_92 {σ : zSt} {x1 : Int32} {x2 : Int32} {x3 : Int32} {s0 : Int32} {s1 : Int32} : zpc (fX12_singles_92 σ x1 x2 x3 s0 s1) (fun r => zr (4) (11) r.2) := by
  unfold fX12_singles_92
  exact zpc_bu zpc_tt (fun σ3 _ => zpc_if (fun _ => pb_fX12_singles_111) (fun _ => pb_fX12_singles_111))
theorem pb_fX12_singles_84 {σ : zSt} {x1 : Int32} {x2 : Int32} {x3 : Int32} {s0 : Int32} {s1 : Int32} {s2 : Int32} : zpc (fX12_singles_84 σ x1 x2 x3 s0 s1 s2) (fun r => zr (4) (11) r.2) := by
  unfold fX12_singles_84
  exact zpc_if (fun _ => pb_fX12_singles_92) (fun _ => pb_fX12_singles_92)
theorem pb_fX12_singles_50 {σ : zSt} {x1 : Int32} {x2 : Int32} {s0 : Int32} {s1 : Int32} : zpc (fX12_singles_50 σ x1 x2 s0 s1) (fun r => zr (4) (11) r.2) := by
  unfold fX12_singles_50
  exact zpc_bv (fun v4 _ => zpc_bu zpc_tt (fun σ5 _ => zpc_bu zpc_tt (fun σ6 _ => zpc_if (fun _ => pb_fX12_singles_84) (fun _ => pb_fX12_singles_84))))
theorem pb_fX12_singles {σ : zSt} {x1 : Int32} {x2 : Int32} : zpc (fX12_singles σ x1 x2) (fun r => zr (4) (11) r.2) := by
  unfold fX12_singles
  exact zpc_if (fun _ => zpc_bi zpc_tt (fun σ28 v29 _ => zpc_bu zpc_tt (fun σ30 _ => zpc_if (fun _ => zpc_mono (pb_fX12_singles_28 (zr_w (zr_c (x := 10) (lo := 10) (hi := 10) (by decide)) (by decide))) (fun _ h => zr_w h (by decide))) (fun _ => zpc_mono (pb_fX12_singles_28 (zr_w (zr_c (x := 7) (lo := 7) (hi := 7) (by decide)) (by decide))) (fun _ h => zr_w h (by decide)))))) (fun _ => zpc_if (fun _ => zpc_if (fun _ => zpc_if (fun _ => zpc_bu zpc_tt (fun σ19 _ => zpc_mono (pb_fX12_singles_316) (fun _ h => zr_w h (by decide)))) (fun _ => zpc_if (fun _ => zpc_ck (zpc_ck (zpc_bv (fun σ15 _ => zpc_bu zpc_tt (fun σ16 _ => zpc_bu zpc_tt (fun σ17 _ => zpc_ck (zpc_bu zpc_tt (fun σ18 _ => zpc_mono (pb_fX12_singles_316) (fun _ h => zr_w h (by decide)))))))))) (fun _ => zpc_if (fun _ => zpc_bi zpc_tt (fun σ13 v14 _ => zpc_if (fun _ => zpc_mono (pb_fX12_singles_273) (fun _ h => zr_w h (by decide))) (fun _ => zpc_mono (pb_fX12_singles_272) (fun _ h => zr_w h (by decide))))) (fun _ => zpc_mono (pb_fX12_singles_272) (fun _ h => zr_w h (by decide)))))) (fun _ => zpc_ck (zpc_bi zpc_tt (fun σ20 v21 _ => zpc_ck (zpc_bv (fun σ22 _ => zpc_ck (zpc_bu zpc_tt (fun σ23 _ => zpc_bu zpc_tt (fun σ24 _ => zpc_bu zpc_tt (fun σ25 _ => zpc_mono (pb_fX12_singles_316) (fun _ h => zr_w h (by decide)))))))))))) (fun _ => zpc_bi zpc_tt (fun σ26 v27 _ => zpc_if (fun _ => pb_fX12_singles_50) (fun _ => pb_fX12_singles_50))))
theorem pb_fX12_plain_64 {σ : zSt} {s0 : Int32} (qs0 : zr 4 16 s0) : zpc (fX12_plain_64 σ s0) (fun r => zr (4) (16) r.2) := by
  unfold fX12_plain_64
  exact zpc_some qs0
theorem pb_fX12_zero_154 {σ : zSt} {s0 : Int32} (qs0 : zr 7 13 s0) : zpc (fX12_zero_154 σ s0) (fun r => zr (7) (13) r.2) := by
  unfold fX12_zero_154
  exact zpc_some qs0
theorem pb_fX12_zero_122 {σ : zSt} {x1 : Int32} {x5 : Int32} : zpc (fX12_zero_122 σ x1 x5) (fun r => zr (7) (13) r.2) := by
  unfold fX12_zero_122
  exact zpc_if (fun _ => zpc_if (fun _ => pb_fX12_zero_154 (zr_w (zr_c (x := 8) (lo := 8) (hi := 8) (by decide)) (by decide))) (fun _ => pb_fX12_zero_154 (zr_w (zr_c (x := 13) (lo := 13) (hi := 13) (by decide)) (by decide)))) (fun _ => zpc_if (fun _ => pb_fX12_zero_154 (zr_w (zr_c (x := 7) (lo := 7) (hi := 7) (by decide)) (by decide))) (fun _ => pb_fX12_zero_154 (zr_w (zr_c (x := 12) (lo := 12) (hi := 12) (by decide)) (by decide))))
theorem pb_fX12_zero_109 {σ : zSt} {x1 : Int32} {x4 : Int32} {s0 : Int32} : zpc (fX12_zero_109 σ x1 x4 s0) (fun r => zr (7) (13) r.2) := by
  unfold fX12_zero_109
  exact zpc_if (fun _ => pb_fX12_zero_122) (fun _ => zpc_bu zpc_tt (fun σ1 _ => pb_fX12_zero_122))
theorem pb_fX12_zero_104 {σ : zSt} {x1 : Int32} {x4 : Int32} : zpc (fX12_zero_104 σ x1 x4) (fun r => zr (7) (13) r.2) := by
  unfold fX12_zero_104
  exact pb_fX12_zero_109
theorem pb_fX12_zero_67 {σ : zSt} {x1 : Int32} {x4 : Int32} : zpc (fX12_zero_67 σ x1 x4) (fun r => zr (7) (13) r.2) := by
  unfold fX12_zero_67
  exact zpc_if (fun _ => zpc_ck (zpc_if (fun _ => pb_fX12_zero_109) (fun _ => pb_fX12_zero_109))) (fun _ => zpc_if (fun _ => pb_fX12_zero_104) (fun _ => zpc_bi zpc_tt (fun σ2 v3 _ => zpc_if (fun _ => pb_fX12_zero_109) (fun _ => pb_fX12_zero_104))))
theorem pb_fX12_zero_266 {σ : zSt} {x6 : Int32} {s0 : Int32} {s1 : Int32} : zpc (fX12_zero_266 σ x6 s0 s1) (fun r => zr (11) (11) r.2) := by
  unfold fX12_zero_266
  exact zpc_bu zpc_tt (fun σ4 _ => zpc_bu zpc_tt (fun σ5 _ => zpc_bu zpc_tt (fun σ6 _ => zpc_some (zr_c (x := 11) (lo := 11) (hi := 11) (by decide)))))
theorem pb_fX12_zero_249 {σ : zSt} {x6 : Int32} {s0 : Int32} {s1 : Int32} : zpc (fX12_zero_249 σ x6 s0 s1) (fun r => zr (11) (11) r.2) := by
  unfold fX12_zero_249
  exact zpc_bu zpc_tt (fun σ7 _ => zpc_if (fun _ => pb_fX12_zero_266) (fun _ => pb_fX12_zero_266))
theorem pb_fX12_moves_214 {σ : zSt} {s0 : Int32} (qs0 : zr 13 16 s0) : zpc (fX12_moves_214 σ s0) (fun r => zr (13) (16) r.2) := by
  unfold fX12_moves_214
  exact zpc_some qs0
theorem pb_fX12_moves_201 {σ : zSt} {x1 : Int32} {s0 : Int32} {s1 : Int32} : zpc (fX12_moves_201 σ x1 s0 s1) (fun r => zr (13) (16) r.2) := by
  unfold fX12_moves_201
  exact zpc_ck (zpc_bv (fun σ9 _ => zpc_if (fun _ => pb_fX12_moves_214 (zr_w (zr_c (x := 16) (lo := 16) (hi := 16) (by decide)) (by decide))) (fun _ => pb_fX12_moves_214 (zr_w (zr_c (x := 13) (lo := 13) (hi := 13) (by decide)) (by decide)))))
theorem pb_fX12_moves_195 {σ : zSt} {x1 : Int32} {x3 : Int32} {s0 : Int32} : zpc (fX12_moves_195 σ x1 x3 s0) (fun r => zr (13) (16) r.2) := by
  unfold fX12_moves_195
  exact pb_fX12_moves_201
theorem pb_fX12_moves_160 {σ : zSt} {x1 : Int32} {x2 : Int32} {x3 : Int32} : zpc (fX12_moves_160 σ x1 x2 x3) (fun r => zr (13) (16) r.2) := by
  unfold fX12_moves_160
  exact zpc_if (fun _ => zpc_if (fun _ => zpc_ck (pb_fX12_moves_201)) (fun _ => pb_fX12_moves_195)) (fun _ => pb_fX12_moves_195)
theorem pb_fX12_moves_114 {σ : zSt} {x1 : Int32} {x2 : Int32} {x3 : Int32} : zpc (fX12_moves_114 σ x1 x2 x3) (fun r => zr (13) (16) r.2) := by
  unfold fX12_moves_114
  exact zpc_if (fun _ => zpc_bi zpc_tt (fun σ14 v15 _ => zpc_bu zpc_tt (fun σ16 _ => pb_fX12_moves_160))) (fun _ => zpc_if (fun _ => zpc_ck (zpc_bu zpc_tt (fun σ10 _ => pb_fX12_moves_160))) (fun _ => zpc_bi zpc_tt (fun σ11 v12 _ => zpc_ck (zpc_bv (fun σ13 _ => pb_fX12_moves_160)))))
theorem pb_fX12_moves_85 {σ : zSt} : zpc (fX12_moves_85 σ) (fun r => zr (7) (7) r.2) := by
  unfold fX12_moves_85
  exact zpc_some (zr_c (x := 7) (lo := 7) (hi := 7) (by decide))
theorem pb_fX12_moves_15 {σ : zSt} {x2 : Int32} {s0 : Int32} : zpc (fX12_moves_15 σ x2 s0) (fun r => zr (7) (7) r.2) := by
  unfold fX12_moves_15
  exact zpc_bi zpc_tt (fun σ1 v2 _ => zpc_if (fun _ => zpc_ck (zpc_bu zpc_tt (fun σ3 _ => zpc_ck (zpc_ck (zpc_bv (fun σ4 _ => pb_fX12_moves_85)))))) (fun _ => zpc_bi zpc_tt (fun σ5 v6 _ => zpc_ck (zpc_bv (fun σ7 _ => zpc_ck (zpc_bv (fun σ8 _ => pb_fX12_moves_85)))))))
theorem pb_fX12_moves {σ : zSt} {x1 : Int32} {x2 : Int32} : zpc (fX12_moves σ x1 x2) (fun r => zr (7) (16) r.2) := by
  unfold fX12_moves
  exact zpc_if (fun _ => zpc_bi zpc_tt (fun σ17 v18 _ => zpc_if (fun _ => zpc_if (fun _ => zpc_mono (pb_fX12_moves_114) (fun _ h => zr_w h (by decide))) (fun _ => zpc_bi zpc_tt (fun σ19 v20 _ => zpc_bu zpc_tt (fun σ21 _ => zpc_mono (pb_fX12_moves_160) (fun _ h => zr_w h (by decide)))))) (fun _ => zpc_mono (pb_fX12_moves_114) (fun _ h => zr_w h (by decide))))) (fun _ => zpc_if (fun _ => zpc_mono (pb_fX12_moves_15) (fun _ h => zr_w h (by decide))) (fun _ => zpc_mono (pb_fX12_moves_15) (fun _ h => zr_w h (by decide))))
theorem pb_fX12_zero_306 {σ : zSt} {s0 : Int32} {s1 : Int32} : zpc (fX12_zero_306 σ s0 s1) (fun r => zr (7) (16) r.2) := by
  unfold fX12_zero_306
  exact zpc_bi (pb_fX12_moves) (fun σ8 v9 hv9 => zpc_some hv9)
theorem pb_fX12_zero_328 {σ : zSt} {s0 : Int32} {s1 : Int32} {s2 : Int32} : zpc (fX12_zero_328 σ s0 s1 s2) (fun r => zr (6) (6) r.2) := by
  unfold fX12_zero_328
  exact zpc_bu zpc_tt (fun σ10 _ => zpc_some (zr_c (x := 6) (lo := 6) (hi := 6) (by decide)))
theorem pb_fX12_zero_178 {σ : zSt} {x1 : Int32} {x2 : Int32} {x3 : Int32} : zpc (fX12_zero_178 σ x1 x2 x3) (fun r => zr (6) (16) r.2) := by
  unfold fX12_zero_178
  exact zpc_if (fun _ => zpc_bi zpc_tt (fun σ13 v14 _ => zpc_bi zpc_tt (fun σ15 v16 _ => zpc_ck (zpc_bv (fun σ17 _ => zpc_bv (fun v18 _ => zpc_bu zpc_tt (fun σ19 _ => zpc_if (fun _ => zpc_mono (pb_fX12_zero_249) (fun _ h => zr_w h (by decide))) (fun _ => zpc_mono (pb_fX12_zero_249) (fun _ h => zr_w h (by decide)))))))))) (fun _ => zpc_if (fun _ => zpc_ck (zpc_if (fun _ => zpc_mono (pb_fX12_zero_306) (fun _ h => zr_w h (by decide))) (fun _ => zpc_mono (pb_fX12_zero_306) (fun _ h => zr_w h (by decide))))) (fun _ => zpc_bi zpc_tt (fun σ11 v12 _ => zpc_ck (zpc_if (fun _ => zpc_mono (pb_fX12_zero_328) (fun _ h => zr_w h (by decide))) (fun _ => zpc_mono (pb_fX12_zero_328) (fun _ h => zr_w h (by decide)))))))
theorem pb_fX12_zero {σ : zSt} {x1 : Int32} {x2 : Int32} : zpc (fX12_zero σ x1 x2) (fun r => zr (4) (16) r.2) := by
  unfold fX12_zero
  exact zpc_bv (fun v20 _ => zpc_if (fun _ => zpc_if (fun _ => zpc_some (zr_w (zr_c (x := 4) (lo := 4) (hi := 4) (by decide)) (by decide))) (fun _ => zpc_if (fun _ => zpc_bu zpc_tt (fun σ29 _ => zpc_bu zpc_tt (fun σ30 _ => zpc_some (zr_w (zr_c (x := 4) (lo := 4) (hi := 4) (by decide)) (by decide))))) (fun _ => zpc_bi zpc_tt (fun σ24 v25 _ => zpc_bi zpc_tt (fun σ26 v27 _ => zpc_if (fun _ => zpc_ck (zpc_ck (zpc_bv (fun σ28 _ => zpc_mono (pb_fX12_zero_67) (fun _ h => zr_w h (by decide)))))) (fun _ => zpc_mono (pb_fX12_zero_67) (fun _ h => zr_w h (by decide)))))))) (fun _ => zpc_if (fun _ => zpc_ck (zpc_if (fun _ => zpc_bi zpc_tt (fun σ21 v22 _ => zpc_bu zpc_tt (fun σ23 _ => zpc_some (zr_w (zr_c (x := 10) (lo := 10) (hi := 10) (by decide)) (by decide))))) (fun _ => zpc_mono (pb_fX12_zero_178) (fun _ h => zr_w h (by decide))))) (fun _ => zpc_mono (pb_fX12_zero_178) (fun _ h => zr_w h (by decide)))))
theorem pb_fX12_plain_116 {σ : zSt} {s0 : Int32} (qs0 : zr 4 7 s0) : zpc (fX12_plain_116 σ s0) (fun r => zr (4) (7) r.2) := by
  unfold fX12_plain_116
  exact zpc_some qs0
theorem pb_fX12_plain_115 {σ : zSt} : zpc (fX12_plain_115 σ) (fun r => zr (4) (7) r.2) := by
  unfold fX12_plain_115
  exact pb_fX12_plain_116 (zr_w (zr_c (x := 4) (lo := 4) (hi := 4) (by decide)) (by decide))
theorem pb_fX12_plain_110 {σ : zSt} : zpc (fX12_plain_110 σ) (fun r => zr (4) (7) r.2) := by
  unfold fX12_plain_110
  exact pb_fX12_plain_116 (zr_w (zr_c (x := 7) (lo := 7) (hi := 7) (by decide)) (by decide))
theorem pb_fX12_plain_92 {σ : zSt} {x1 : Int32} {x2 : Int32} {x3 : Int32} : zpc (fX12_plain_92 σ x1 x2 x3) (fun r => zr (4) (7) r.2) := by
  unfold fX12_plain_92
  exact zpc_if (fun _ => pb_fX12_plain_115) (fun _ => zpc_if (fun _ => pb_fX12_plain_110) (fun _ => zpc_if (fun _ => pb_fX12_plain_110) (fun _ => pb_fX12_plain_115)))
theorem pb_fX12_plain_139 {σ : zSt} {s0 : Int32} (qs0 : zr 4 7 s0) : zpc (fX12_plain_139 σ s0) (fun r => zr (4) (7) r.2) := by
  unfold fX12_plain_139
  exact zpc_some qs0
theorem pb_fX12_more3_119 {σ : zSt} {s0 : Int32} : zpc (fX12_more3_119 σ s0) (fun r => zr (11) (11) r.2) := by
  unfold fX12_more3_119
  exact zpc_bu zpc_tt (fun σ1 _ => zpc_some (zr_c (x := 11) (lo := 11) (hi := 11) (by decide)))
theorem pb_fX12_more_133 {σ : zSt} {x5 : Int32} {x6 : Int32} : zpc (fX12_more_133 σ x5 x6) (fun r => zr (12) (12) r.2) := by
  unfold fX12_more_133
  exact zpc_bu zpc_tt (fun σ8 _ => zpc_bi zpc_tt (fun σ9 v10 _ => zpc_bu zpc_tt (fun σ11 _ => zpc_bu zpc_tt (fun σ12 _ => zpc_bu zpc_tt (fun σ13 _ => zpc_ck (zpc_bv (fun σ14 _ => zpc_some (zr_c (x := 12) (lo := 12) (hi := 12) (by decide)))))))))
theorem pb_fX12_more_195 {σ : zSt} {s0 : Int32} {s1 : Int32} : zpc (fX12_more_195 σ s0 s1) (fun r => zr (12) (12) r.2) := by
  unfold fX12_more_195
  exact zpc_bu zpc_tt (fun σ4 _ => zpc_bi zpc_tt (fun σ5 v6 _ => zpc_ck (zpc_bv (fun σ7 _ => zpc_some (zr_c (x := 12) (lo := 12) (hi := 12) (by decide))))))
theorem pb_fX12_more_234 {σ : zSt} {s0 : Int32} {s1 : Int32} : zpc (fX12_more_234 σ s0 s1) (fun r => zr (15) (15) r.2) := by
  unfold fX12_more_234
  exact zpc_bu zpc_tt (fun σ3 _ => zpc_some (zr_c (x := 15) (lo := 15) (hi := 15) (by decide)))
theorem pb_fX12_more_281 {σ : zSt} {x7 : Int32} : zpc (fX12_more_281 σ x7) (fun r => zr (20) (20) r.2) := by
  unfold fX12_more_281
  exact zpc_ck (zpc_bv (fun σ2 _ => zpc_some (zr_c (x := 20) (lo := 20) (hi := 20) (by decide))))
theorem pb_fX12_more_387 {σ : zSt} {s0 : Int32} {s1 : Int32} : zpc (fX12_more_387 σ s0 s1) (fun r => zr (8) (8) r.2) := by
  unfold fX12_more_387
  exact zpc_ck (zpc_bv (fun σ1 _ => zpc_some (zr_c (x := 8) (lo := 8) (hi := 8) (by decide))))
theorem pb_fX12_specials_244 {σ : zSt} {s0 : Int32} (qs0 : zr 9 18 s0) : zpc (fX12_specials_244 σ s0) (fun r => zr (9) (18) r.2) := by
  unfold fX12_specials_244
  exact zpc_some qs0
theorem pb_fX12_specials_220 {σ : zSt} {x1 : Int32} : zpc (fX12_specials_220 σ x1) (fun r => zr (9) (18) r.2) := by
  unfold fX12_specials_220
  exact zpc_bu zpc_tt (fun σ2 _ => zpc_bu zpc_tt (fun σ3 _ => zpc_if (fun _ => pb_fX12_specials_244 (zr_w (zr_c (x := 18) (lo := 18) (hi := 18) (by decide)) (by decide))) (fun _ => pb_fX12_specials_244 (zr_w (zr_c (x := 9) (lo := 9) (hi := 9) (by decide)) (by decide)))))
theorem pb_fX12_specials_194 {σ : zSt} {x1 : Int32} {s0 : Int32} {s1 : Int32} {s2 : Int32} : zpc (fX12_specials_194 σ x1 s0 s1 s2) (fun r => zr (9) (18) r.2) := by
  unfold fX12_specials_194
  exact zpc_ck (zpc_bv (fun σ7 _ => zpc_ck (zpc_bu zpc_tt (fun σ8 _ => zpc_ck (zpc_bi zpc_tt (fun σ9 v10 _ => zpc_bu zpc_tt (fun σ11 _ => pb_fX12_specials_220)))))))
theorem pb_fX12_specials_161 {σ : zSt} {x1 : Int32} {x3 : Int32} {s0 : Int32} {s1 : Int32} : zpc (fX12_specials_161 σ x1 x3 s0 s1) (fun r => zr (9) (18) r.2) := by
  unfold fX12_specials_161
  exact zpc_bu zpc_tt (fun σ12 _ => zpc_ck (zpc_if (fun _ => pb_fX12_specials_194) (fun _ => pb_fX12_specials_194)))
theorem pb_fX12_specials_94 {σ : zSt} {x1 : Int32} {s0 : Int32} {s1 : Int32} : zpc (fX12_specials_94 σ x1 s0 s1) (fun r => zr (9) (18) r.2) := by
  unfold fX12_specials_94
  exact zpc_bu zpc_tt (fun σ4 _ => pb_fX12_specials_220)
theorem pb_fX12_specials_64 {σ : zSt} {x1 : Int32} {s0 : Int32} {s2 : Int32} : zpc (fX12_specials_64 σ x1 s0 s2) (fun r => zr (9) (18) r.2) := by
  unfold fX12_specials_64
  exact zpc_ck (zpc_ck (zpc_bv (fun σ5 _ => zpc_ck (zpc_bu zpc_tt (fun σ6 _ => zpc_ck (zpc_if (fun _ => pb_fX12_specials_94) (fun _ => pb_fX12_specials_94)))))))
theorem pb_fX12_specials_28 {σ : zSt} {s0 : Int32} : zpc (fX12_specials_28 σ s0) (fun r => zr (9) (9) r.2) := by
  unfold fX12_specials_28
  exact zpc_ck (zpc_ck (zpc_bv (fun σ1 _ => zpc_some (zr_c (x := 9) (lo := 9) (hi := 9) (by decide)))))
theorem pb_fX12_specials {σ : zSt} {x1 : Int32} : zpc (fX12_specials σ x1) (fun r => zr (8) (18) r.2) := by
  unfold fX12_specials
  exact zpc_if (fun _ => zpc_if (fun _ => zpc_if (fun _ => zpc_bi zpc_tt (fun σ13 v14 _ => zpc_ck (zpc_bv (fun σ15 _ => zpc_bi zpc_tt (fun σ16 v17 _ => zpc_ck (zpc_bv (fun v18 _ => zpc_if (fun _ => zpc_mono (pb_fX12_specials_161) (fun _ h => zr_w h (by decide))) (fun _ => zpc_mono (pb_fX12_specials_161) (fun _ h => zr_w h (by decide)))))))))) (fun _ => zpc_if (fun _ => zpc_mono (pb_fX12_specials_64) (fun _ h => zr_w h (by decide))) (fun _ => zpc_mono (pb_fX12_specials_64) (fun _ h => zr_w h (by decide))))) (fun _ => zpc_if (fun _ => zpc_mono (pb_fX12_specials_28) (fun _ h => zr_w h (by decide))) (fun _ => zpc_mono (pb_fX12_specials_28) (fun _ h => zr_w h (by decide))))) (fun _ => zpc_some (zr_w (zr_c (x := 8) (lo := 8) (hi := 8) (by decide)) (by decide)))
theorem pb_fX12_more_42 {σ : zSt} {x2 : Int32} {x3 : Int32} {x4 : Int32} : zpc (fX12_more_42 σ x2 x3 x4) (fun r => zr (8) (20) r.2) := by
  unfold fX12_more_42
  exact zpc_if (fun _ => zpc_if (fun _ => zpc_bi zpc_tt (fun σ15 v16 _ => zpc_bv (fun v17 _ => zpc_ck (zpc_bi zpc_tt (fun σ18 v19 _ => zpc_if (fun _ => zpc_mono (pb_fX12_more_133) (fun _ h => zr_w h (by decide))) (fun _ => zpc_bu zpc_tt (fun σ20 _ => zpc_mono (pb_fX12_more_133) (fun _ h => zr_w h (by decide))))))))) (fun _ => zpc_if (fun _ => zpc_ck (zpc_if (fun _ => zpc_mono (pb_fX12_more_195) (fun _ h => zr_w h (by decide))) (fun _ => zpc_bi zpc_tt (fun σ21 v22 _ => zpc_mono (pb_fX12_more_195) (fun _ h => zr_w h (by decide)))))) (fun _ => zpc_if (fun _ => zpc_ck (zpc_if (fun _ => zpc_mono (pb_fX12_more_234) (fun _ h => zr_w h (by decide))) (fun _ => zpc_mono (pb_fX12_more_234) (fun _ h => zr_w h (by decide))))) (fun _ => zpc_if (fun _ => zpc_bi zpc_tt (fun σ23 v24 _ => zpc_ck (zpc_if (fun _ => zpc_bi zpc_tt (fun σ28 v29 _ => zpc_bu zpc_tt (fun σ30 _ => zpc_mono (pb_fX12_more_281) (fun _ h => zr_w h (by decide))))) (fun _ => zpc_bi zpc_tt (fun σ25 v26 _ => zpc_bu zpc_tt (fun σ27 _ => zpc_mono (pb_fX12_more_281) (fun _ h => zr_w h (by decide)))))))) (fun _ => zpc_if (fun _ => zpc_ck (zpc_bv (fun v31 _ => zpc_ck (zpc_bv (fun σ32 _ => zpc_bu zpc_tt (fun σ33 _ => zpc_some (zr_w (zr_c (x := 8) (lo := 8) (hi := 8) (by decide)) (by decide)))))))) (fun _ => zpc_if (fun _ => zpc_bi zpc_tt (fun σ34 v35 _ => zpc_ck (zpc_bv (fun σ36 _ => zpc_ck (zpc_ck (zpc_bv (fun σ37 _ => zpc_ck (zpc_ck (zpc_bv (fun σ38 _ => zpc_some (zr_w (zr_c (x := 14) (lo := 14) (hi := 14) (by decide)) (by decide)))))))))))) (fun _ => zpc_if (fun _ => zpc_ck (zpc_if (fun _ => zpc_ck (zpc_mono (pb_fX12_more_387) (fun _ h => zr_w h (by decide)))) (fun _ => zpc_mono (pb_fX12_more_387) (fun _ h => zr_w h (by decide))))) (fun _ => zpc_bi (pb_fX12_specials) (fun σ39 v40 hv40 => zpc_some (zr_w hv40 (by decide))))))))))) (fun _ => zpc_some (zr_w (zr_c (x := 8) (lo := 8) (hi := 8) (by decide)) (by decide)))
theorem pb_fX12_blocks_595 {σ : zSt} : zpc (fX12_blocks_595 σ) (fun r => zr (16) (16) r.2) := by
  unfold fX12_blocks_595
  exact zpc_some (zr_c (x := 16) (lo := 16) (hi := 16) (by decide))
theorem pb_fX12_blocks_641 {σ : zSt} : zpc (fX12_blocks_641 σ) (fun r => zr (21) (21) r.2) := by
  unfold fX12_blocks_641
  exact zpc_some (zr_c (x := 21) (lo := 21) (hi := 21) (by decide))
theorem pb_fX12_blocks_584 {σ : zSt} {x1 : Int32} {x2 : Int32} {x5 : Int32} : zpc (fX12_blocks_584 σ x1 x2 x5) (fun r => zr (16) (21) r.2) := by
  unfold fX12_blocks_584
  exact zpc_if (fun _ => zpc_mono (pb_fX12_blocks_595) (fun _ h => zr_w h (by decide))) (fun _ => zpc_if (fun _ => zpc_mono (pb_fX12_blocks_595) (fun _ h => zr_w h (by decide))) (fun _ => zpc_ck (zpc_ck (zpc_bv (fun σ1 _ => zpc_if (fun _ => zpc_mono (pb_fX12_blocks_641) (fun _ h => zr_w h (by decide))) (fun _ => zpc_ck (zpc_ck (zpc_bv (fun σ2 _ => zpc_mono (pb_fX12_blocks_641) (fun _ h => zr_w h (by decide)))))))))))
theorem pb_fX12_blocks_582 {σ : zSt} {x1 : Int32} {x2 : Int32} {s0 : Int32} : zpc (fX12_blocks_582 σ x1 x2 s0) (fun r => zr (16) (21) r.2) := by
  unfold fX12_blocks_582
  exact pb_fX12_blocks_584
theorem pb_fX12_blocks_545 {σ : zSt} {x1 : Int32} {x2 : Int32} {x6 : Int32} {s0 : Int32} {s1 : Int32} : zpc (fX12_blocks_545 σ x1 x2 x6 s0 s1) (fun r => zr (16) (21) r.2) := by
  unfold fX12_blocks_545
  exact zpc_bu zpc_tt (fun σ27 _ => zpc_ck (zpc_bi zpc_tt (fun σ28 v29 _ => zpc_bu zpc_tt (fun σ30 _ => zpc_ck (zpc_if (fun _ => pb_fX12_blocks_582) (fun _ => pb_fX12_blocks_582))))))
theorem pb_fX12_blocks_527 {σ : zSt} {x1 : Int32} {x2 : Int32} {x6 : Int32} {s0 : Int32} {s1 : Int32} : zpc (fX12_blocks_527 σ x1 x2 x6 s0 s1) (fun r => zr (16) (21) r.2) := by
  unfold fX12_blocks_527
  exact zpc_bu zpc_tt (fun σ31 _ => zpc_if (fun _ => pb_fX12_blocks_545) (fun _ => pb_fX12_blocks_545))
theorem pb_fX12_blocks_509 {σ : zSt} {x1 : Int32} {x2 : Int32} {x6 : Int32} {s0 : Int32} {s1 : Int32} : zpc (fX12_blocks_509 σ x1 x2 x6 s0 s1) (fun r => zr (16) (21) r.2) := by
  unfold fX12_blocks_509
  exact zpc_bu zpc_tt (fun σ32 _ => zpc_if (fun _ => pb_fX12_blocks_527) (fun _ => pb_fX12_blocks_527))
theorem pb_fX12_blocks_485 {σ : zSt} {x1 : Int32} {x2 : Int32} {x4 : Int32} {x6 : Int32} : zpc (fX12_blocks_485 σ x1 x2 x4 x6) (fun r => zr (16) (21) r.2) := by
  unfold fX12_blocks_485
  exact zpc_ck (zpc_bu zpc_tt (fun σ33 _ => zpc_if (fun _ => pb_fX12_blocks_509) (fun _ => pb_fX12_blocks_509)))
theorem pb_fX12_blocks_297 {σ : zSt} {x1 : Int32} {x2 : Int32} {s0 : Int32} : zpc (fX12_blocks_297 σ x1 x2 s0) (fun r => zr (16) (21) r.2) := by
  unfold fX12_blocks_297
  exact pb_fX12_blocks_584
theorem pb_fX12_blocks_292 {σ : zSt} {x1 : Int32} {x2 : Int32} : zpc (fX12_blocks_292 σ x1 x2) (fun r => zr (16) (21) r.2) := by
  unfold fX12_blocks_292
  exact pb_fX12_blocks_297
theorem pb_fX12_blocks_296 {σ : zSt} {x1 : Int32} {x2 : Int32} : zpc (fX12_blocks_296 σ x1 x2) (fun r => zr (16) (21) r.2) := by
  unfold fX12_blocks_296
  exact pb_fX12_blocks_297
theorem pb_fX12_blocks_267 {σ : zSt} {x1 : Int32} {x2 : Int32} {s0 : Int32} {s1 : Int32} : zpc (fX12_blocks_267 σ x1 x2 s0 s1) (fun r => zr (16) (21) r.2) := by
  unfold fX12_blocks_267
  exact zpc_bu zpc_tt (fun σ3 _ => zpc_bi zpc_tt (fun σ4 v5 _ => zpc_if (fun _ => zpc_if (fun _ => pb_fX12_blocks_292) (fun _ => zpc_bi zpc_tt (fun σ6 v7 _ => zpc_if (fun _ => pb_fX12_blocks_292) (fun _ => pb_fX12_blocks_296)))) (fun _ => pb_fX12_blocks_296)))
theorem pb_fX12_blocks_249 {σ : zSt} {x1 : Int32} {x2 : Int32} {s0 : Int32} {s1 : Int32} : zpc (fX12_blocks_249 σ x1 x2 s0 s1) (fun r => zr (16) (21) r.2) := by
  unfold fX12_blocks_249
  exact zpc_bu zpc_tt (fun σ8 _ => zpc_bi zpc_tt (fun σ9 v10 _ => zpc_if (fun _ => pb_fX12_blocks_267) (fun _ => pb_fX12_blocks_267)))
theorem pb_fX12_blocks_234 {σ : zSt} {x1 : Int32} {x2 : Int32} {s0 : Int32} {s1 : Int32} : zpc (fX12_blocks_234 σ x1 x2 s0 s1) (fun r => zr (16) (21) r.2) := by
  unfold fX12_blocks_234
  exact zpc_bu zpc_tt (fun σ11 _ => zpc_if (fun _ => pb_fX12_blocks_249) (fun _ => pb_fX12_blocks_249))
theorem pb_fX12_blocks_216 {σ : zSt} {x1 : Int32} {x2 : Int32} {x6 : Int32} {s0 : Int32} {s1 : Int32} : zpc (fX12_blocks_216 σ x1 x2 x6 s0 s1) (fun r => zr (16) (21) r.2) := by
  unfold fX12_blocks_216
  exact zpc_bu zpc_tt (fun σ12 _ => zpc_if (fun _ => pb_fX12_blocks_234) (fun _ => pb_fX12_blocks_234))
theorem pb_fX12_blocks_202 {σ : zSt} {x1 : Int32} {x2 : Int32} {x6 : Int32} : zpc (fX12_blocks_202 σ x1 x2 x6) (fun r => zr (16) (21) r.2) := by
  unfold fX12_blocks_202
  exact zpc_if (fun _ => pb_fX12_blocks_216) (fun _ => pb_fX12_blocks_216)
theorem pb_fX12_blocks_190 {σ : zSt} {x1 : Int32} {x2 : Int32} {s0 : Int32} {s1 : Int32} : zpc (fX12_blocks_190 σ x1 x2 s0 s1) (fun r => zr (16) (21) r.2) := by
  unfold fX12_blocks_190
  exact zpc_bv (fun v13 _ => pb_fX12_blocks_202)
theorem pb_fX12_blocks_159 {σ : zSt} {x1 : Int32} {x2 : Int32} {x6 : Int32} {s0 : Int32} : zpc (fX12_blocks_159 σ x1 x2 x6 s0) (fun r => zr (16) (21) r.2) := by
  unfold fX12_blocks_159
  exact zpc_bu zpc_tt (fun σ14 _ => zpc_bu zpc_tt (fun σ15 _ => zpc_if (fun _ => pb_fX12_blocks_190) (fun _ => pb_fX12_blocks_190)))
theorem pb_fX12_blocks_111 {σ : zSt} {x1 : Int32} {x2 : Int32} {x3 : Int32} {x4 : Int32} {s0 : Int32} : zpc (fX12_blocks_111 σ x1 x2 x3 x4 s0) (fun r => zr (16) (21) r.2) := by
  unfold fX12_blocks_111
  exact zpc_if (fun _ => zpc_ck (zpc_ck (zpc_bv (fun σ17 _ => zpc_ck (zpc_if (fun _ => pb_fX12_blocks_159) (fun _ => pb_fX12_blocks_159)))))) (fun _ => zpc_bu zpc_tt (fun σ16 _ => pb_fX12_blocks_202))
theorem pb_fX12_blocks_74 {σ : zSt} {x1 : Int32} {x2 : Int32} {x3 : Int32} {x4 : Int32} : zpc (fX12_blocks_74 σ x1 x2 x3 x4) (fun r => zr (16) (21) r.2) := by
  unfold fX12_blocks_74
  exact zpc_bi zpc_tt (fun σ18 v19 _ => zpc_bu zpc_tt (fun σ20 _ => zpc_if (fun _ => zpc_ck (pb_fX12_blocks_111)) (fun _ => zpc_ck (pb_fX12_blocks_111))))
theorem pb_fX12_blocks_44 {σ : zSt} {x1 : Int32} {x2 : Int32} {x3 : Int32} {x4 : Int32} : zpc (fX12_blocks_44 σ x1 x2 x3 x4) (fun r => zr (16) (21) r.2) := by
  unfold fX12_blocks_44
  exact zpc_bi zpc_tt (fun σ21 v22 _ => zpc_bu zpc_tt (fun σ23 _ => zpc_if (fun _ => zpc_bi zpc_tt (fun σ24 v25 _ => zpc_bu zpc_tt (fun σ26 _ => pb_fX12_blocks_74))) (fun _ => pb_fX12_blocks_74)))
theorem pb_fX12_blocks_11 {σ : zSt} {x1 : Int32} {x2 : Int32} {s0 : Int32} : zpc (fX12_blocks_11 σ x1 x2 s0) (fun r => zr (16) (21) r.2) := by
  unfold fX12_blocks_11
  exact zpc_if (fun _ => zpc_if (fun _ => zpc_bi zpc_tt (fun σ47 v48 _ => zpc_ck (zpc_bv (fun σ49 _ => zpc_ck (zpc_bi zpc_tt (fun σ50 v51 _ => zpc_ck (zpc_ck (zpc_bv (fun σ52 _ => zpc_bi zpc_tt (fun σ53 v54 _ => zpc_bu zpc_tt (fun σ55 _ => zpc_bi zpc_tt (fun σ56 v57 _ => zpc_bu zpc_tt (fun σ58 _ => zpc_ck (zpc_bv (fun v59 _ => pb_fX12_blocks_485))))))))))))))) (fun _ => zpc_bi zpc_tt (fun σ34 v35 _ => zpc_bi zpc_tt (fun σ36 v37 _ => zpc_ck (zpc_ck (zpc_bv (fun σ38 _ => zpc_ck (zpc_bu zpc_tt (fun σ39 _ => zpc_bi zpc_tt (fun σ40 v41 _ => zpc_bu zpc_tt (fun σ42 _ => zpc_bi zpc_tt (fun σ43 v44 _ => zpc_ck (zpc_bv (fun σ45 _ => zpc_ck (zpc_bv (fun v46 _ => pb_fX12_blocks_485)))))))))))))))) (fun _ => zpc_bi zpc_tt (fun σ60 v61 _ => zpc_bi zpc_tt (fun σ62 v63 _ => zpc_if (fun _ => zpc_bi zpc_tt (fun σ64 v65 _ => zpc_bu zpc_tt (fun σ66 _ => pb_fX12_blocks_44))) (fun _ => pb_fX12_blocks_44))))
theorem pb_fX12_blocks {σ : zSt} {x1 : Int32} {x2 : Int32} : zpc (fX12_blocks σ x1 x2) (fun r => zr (16) (21) r.2) := by
  unfold fX12_blocks
  exact zpc_ck (zpc_if (fun _ => pb_fX12_blocks_11) (fun _ => pb_fX12_blocks_11))
theorem pb_fX12_more {σ : zSt} {x1 : Int32} : zpc (fX12_more σ x1) (fun r => zr (8) (21) r.2) := by
  unfold fX12_more
  exact zpc_bv (fun v41 _ => zpc_bv (fun v42 _ => zpc_bv (fun v43 _ => zpc_if (fun _ => zpc_if (fun _ => zpc_mono (pb_fX12_more_42) (fun _ h => zr_w h (by decide))) (fun _ => zpc_if (fun _ => zpc_mono (pb_fX12_more_42) (fun _ h => zr_w h (by decide))) (fun _ => zpc_bi (pb_fX12_blocks) (fun σ44 v45 hv45 => zpc_some (zr_w hv45 (by decide)))))) (fun _ => zpc_mono (pb_fX12_more_42) (fun _ h => zr_w h (by decide))))))
theorem pb_fX12_more3_200 {σ : zSt} {s0 : Int32} (qs0 : zr 4 35 s0) : zpc (fX12_more3_200 σ s0) (fun r => zr (4) (35) r.2) := by
  unfold fX12_more3_200
  exact zpc_some qs0
theorem pb_fX12_prefixed_33 {σ : zSt} : zpc (fX12_prefixed_33 σ) (fun r => zr (4) (4) r.2) := by
  unfold fX12_prefixed_33
  exact zpc_ck (zpc_bv (fun σ1 _ => zpc_some (zr_c (x := 4) (lo := 4) (hi := 4) (by decide))))
theorem pb_fX12_turn_122 {σ : zSt} {s0 : Int32} (qs0 : zr 8 12 s0) : zpc (fX12_turn_122 σ s0) (fun r => zr (8) (12) r.2) := by
  unfold fX12_turn_122
  exact zpc_some qs0
theorem pb_fX12_turn_106 {σ : zSt} {x3 : Int32} {s0 : Int32} : zpc (fX12_turn_106 σ x3 s0) (fun r => zr (8) (12) r.2) := by
  unfold fX12_turn_106
  exact zpc_bu zpc_tt (fun σ1 _ => zpc_if (fun _ => pb_fX12_turn_122 (zr_w (zr_c (x := 12) (lo := 12) (hi := 12) (by decide)) (by decide))) (fun _ => pb_fX12_turn_122 (zr_w (zr_c (x := 8) (lo := 8) (hi := 8) (by decide)) (by decide))))
theorem pb_fX12_turn_69 {σ : zSt} {x3 : Int32} {x4 : Int32} {s0 : Int32} {s1 : Int32} : zpc (fX12_turn_69 σ x3 x4 s0 s1) (fun r => zr (8) (12) r.2) := by
  unfold fX12_turn_69
  exact zpc_bu zpc_tt (fun σ2 _ => zpc_bu zpc_tt (fun σ3 _ => zpc_bu zpc_tt (fun σ4 _ => zpc_if (fun _ => zpc_ck (pb_fX12_turn_106)) (fun _ => pb_fX12_turn_106))))
theorem pb_fX12_turn_219 {σ : zSt} {s0 : Int32} (qs0 : zr 8 15 s0) : zpc (fX12_turn_219 σ s0) (fun r => zr (8) (15) r.2) := by
  unfold fX12_turn_219
  exact zpc_some qs0
theorem pb_fX12_turn_193 {σ : zSt} {x3 : Int32} {x4 : Int32} : zpc (fX12_turn_193 σ x3 x4) (fun r => zr (8) (15) r.2) := by
  unfold fX12_turn_193
  exact zpc_bu zpc_tt (fun σ5 _ => zpc_bv (fun σ6 _ => zpc_if (fun _ => pb_fX12_turn_219 (zr_w (zr_c (x := 15) (lo := 15) (hi := 15) (by decide)) (by decide))) (fun _ => pb_fX12_turn_219 (zr_w (zr_c (x := 8) (lo := 8) (hi := 8) (by decide)) (by decide)))))
theorem pb_fX12_turn_191 {σ : zSt} {x3 : Int32} {s0 : Int32} : zpc (fX12_turn_191 σ x3 s0) (fun r => zr (8) (15) r.2) := by
  unfold fX12_turn_191
  exact pb_fX12_turn_193
theorem pb_fX12_turn_23 {σ : zSt} {x1 : Int32} {x2 : Int32} {s0 : Int32} : zpc (fX12_turn_23 σ x1 x2 s0) (fun r => zr (8) (15) r.2) := by
  unfold fX12_turn_23
  exact zpc_bi zpc_tt (fun σ7 v8 _ => zpc_bv (fun v9 _ => zpc_if (fun _ => zpc_bv (fun v18 _ => zpc_bu zpc_tt (fun σ19 _ => zpc_if (fun _ => zpc_mono (pb_fX12_turn_69) (fun _ h => zr_w h (by decide))) (fun _ => zpc_mono (pb_fX12_turn_69) (fun _ h => zr_w h (by decide)))))) (fun _ => zpc_if (fun _ => zpc_bi zpc_tt (fun σ10 v11 _ => zpc_bu zpc_tt (fun σ12 _ => zpc_bi zpc_tt (fun σ13 v14 _ => zpc_bu zpc_tt (fun σ15 _ => zpc_bu zpc_tt (fun σ16 _ => zpc_bu zpc_tt (fun σ17 _ => pb_fX12_turn_193))))))) (fun _ => zpc_if (fun _ => pb_fX12_turn_191) (fun _ => pb_fX12_turn_191)))))
theorem pb_fX12_turn {σ : zSt} {x1 : Int32} : zpc (fX12_turn σ x1) (fun r => zr (8) (15) r.2) := by
  unfold fX12_turn
  exact zpc_bv (fun v20 _ => zpc_if (fun _ => pb_fX12_turn_23) (fun _ => pb_fX12_turn_23))
theorem pb_fX12_prefixed_154 {σ : zSt} {s0 : Int32} (qs0 : zr 16 23 s0) : zpc (fX12_prefixed_154 σ s0) (fun r => zr (16) (23) r.2) := by
  unfold fX12_prefixed_154
  exact zpc_some qs0
theorem pb_fX12_prefixed_135 {σ : zSt} {x4 : Int32} {x5 : Int32} (qx5 : zr 8 15 x5) : zpc (fX12_prefixed_135 σ x4 x5) (fun r => zr (16) (23) r.2) := by
  unfold fX12_prefixed_135
  exact zpc_if (fun _ => pb_fX12_prefixed_154 (zr_w (zr_c (x := 20) (lo := 20) (hi := 20) (by decide)) (by decide))) (fun _ => pb_fX12_prefixed_154 (zr_add (lo := 16) (hi := 23) qx5 (zr_c (x := 8) (lo := 8) (hi := 8) (by decide)) (by decide)))
theorem pb_fX12_plain_r1_64 {σ : zSt} {s0 : Int32} (qs0 : zr 4 16 s0) : zpc (fX12_plain_r1_64 σ s0) (fun r => zr (4) (16) r.2) := by
  unfold fX12_plain_r1_64
  exact zpc_some qs0
theorem pb_fX12_plain_r1_116 {σ : zSt} {s0 : Int32} (qs0 : zr 4 7 s0) : zpc (fX12_plain_r1_116 σ s0) (fun r => zr (4) (7) r.2) := by
  unfold fX12_plain_r1_116
  exact zpc_some qs0
theorem pb_fX12_plain_r1_115 {σ : zSt} : zpc (fX12_plain_r1_115 σ) (fun r => zr (4) (7) r.2) := by
  unfold fX12_plain_r1_115
  exact pb_fX12_plain_r1_116 (zr_w (zr_c (x := 4) (lo := 4) (hi := 4) (by decide)) (by decide))
theorem pb_fX12_plain_r1_110 {σ : zSt} : zpc (fX12_plain_r1_110 σ) (fun r => zr (4) (7) r.2) := by
  unfold fX12_plain_r1_110
  exact pb_fX12_plain_r1_116 (zr_w (zr_c (x := 7) (lo := 7) (hi := 7) (by decide)) (by decide))
theorem pb_fX12_plain_r1_92 {σ : zSt} {x1 : Int32} {x2 : Int32} {x3 : Int32} : zpc (fX12_plain_r1_92 σ x1 x2 x3) (fun r => zr (4) (7) r.2) := by
  unfold fX12_plain_r1_92
  exact zpc_if (fun _ => pb_fX12_plain_r1_115) (fun _ => zpc_if (fun _ => pb_fX12_plain_r1_110) (fun _ => zpc_if (fun _ => pb_fX12_plain_r1_110) (fun _ => pb_fX12_plain_r1_115)))
theorem pb_fX12_plain_r1_139 {σ : zSt} {s0 : Int32} (qs0 : zr 4 7 s0) : zpc (fX12_plain_r1_139 σ s0) (fun r => zr (4) (7) r.2) := by
  unfold fX12_plain_r1_139
  exact zpc_some qs0
theorem pb_fX12_more3_r1_119 {σ : zSt} {s0 : Int32} : zpc (fX12_more3_r1_119 σ s0) (fun r => zr (11) (11) r.2) := by
  unfold fX12_more3_r1_119
  exact zpc_bu zpc_tt (fun σ1 _ => zpc_some (zr_c (x := 11) (lo := 11) (hi := 11) (by decide)))
theorem pb_fX12_more3_r1_200 {σ : zSt} {s0 : Int32} (qs0 : zr 4 23 s0) : zpc (fX12_more3_r1_200 σ s0) (fun r => zr (4) (23) r.2) := by
  unfold fX12_more3_r1_200
  exact zpc_some qs0
theorem pb_fX12_prefixed_r1_33 {σ : zSt} : zpc (fX12_prefixed_r1_33 σ) (fun r => zr (4) (4) r.2) := by
  unfold fX12_prefixed_r1_33
  exact zpc_ck (zpc_bv (fun σ1 _ => zpc_some (zr_c (x := 4) (lo := 4) (hi := 4) (by decide))))
theorem pb_fX12_prefixed_r1_154 {σ : zSt} {s0 : Int32} (qs0 : zr 16 23 s0) : zpc (fX12_prefixed_r1_154 σ s0) (fun r => zr (16) (23) r.2) := by
  unfold fX12_prefixed_r1_154
  exact zpc_some qs0
theorem pb_fX12_prefixed_r1_135 {σ : zSt} {x4 : Int32} {x5 : Int32} (qx5 : zr 8 15 x5) : zpc (fX12_prefixed_r1_135 σ x4 x5) (fun r => zr (16) (23) r.2) := by
  unfold fX12_prefixed_r1_135
  exact zpc_if (fun _ => pb_fX12_prefixed_r1_154 (zr_w (zr_c (x := 20) (lo := 20) (hi := 20) (by decide)) (by decide))) (fun _ => pb_fX12_prefixed_r1_154 (zr_add (lo := 16) (hi := 23) qx5 (zr_c (x := 8) (lo := 8) (hi := 8) (by decide)) (by decide)))
theorem pb_fX12_prefixed_r1_244 {σ : zSt} {x1 : Int32} {x3 : Int32} {s0 : Int32} : zpc (fX12_prefixed_r1_244 σ x1 x3 s0) (fun r => zr (10) (10) r.2) := by
  unfold fX12_prefixed_r1_244
  exact zpc_if (fun _ => zpc_bv (fun σ8 _ => zpc_none)) (fun _ => zpc_ck (zpc_bi zpc_tt (fun σ2 v3 _ => zpc_bi zpc_tt (fun σ4 v5 _ => zpc_ck (zpc_bv (fun σ6 _ => zpc_ck (zpc_bv (fun σ7 _ => zpc_none))))))))
theorem pb_fX12_prefixed_r1_239 {σ : zSt} {x1 : Int32} {x3 : Int32} : zpc (fX12_prefixed_r1_239 σ x1 x3) (fun r => zr (10) (10) r.2) := by
  unfold fX12_prefixed_r1_239
  exact pb_fX12_prefixed_r1_244
theorem pb_fX12_prefixed_r1_243 {σ : zSt} {x1 : Int32} {x3 : Int32} : zpc (fX12_prefixed_r1_243 σ x1 x3) (fun r => zr (10) (10) r.2) := by
  unfold fX12_prefixed_r1_243
  exact pb_fX12_prefixed_r1_244
theorem pb_fX12_prefixed_r1_226 {σ : zSt} {x1 : Int32} {x3 : Int32} {x5 : Int32} {x6 : Int32} : zpc (fX12_prefixed_r1_226 σ x1 x3 x5 x6) (fun r => zr (10) (10) r.2) := by
  unfold fX12_prefixed_r1_226
  exact zpc_if (fun _ => zpc_if (fun _ => pb_fX12_prefixed_r1_239) (fun _ => pb_fX12_prefixed_r1_243)) (fun _ => pb_fX12_prefixed_r1_243)
theorem pb_fX12_prefixed_r1_220 {σ : zSt} {x1 : Int32} {x3 : Int32} {x5 : Int32} {x6 : Int32} : zpc (fX12_prefixed_r1_220 σ x1 x3 x5 x6) (fun r => zr (10) (10) r.2) := by
  unfold fX12_prefixed_r1_220
  exact zpc_if (fun _ => pb_fX12_prefixed_r1_226) (fun _ => pb_fX12_prefixed_r1_239)
theorem pb_fX12_prefixed_r1_200 {σ : zSt} {x1 : Int32} {x3 : Int32} {x4 : Int32} {x5 : Int32} {x6 : Int32} : zpc (fX12_prefixed_r1_200 σ x1 x3 x4 x5 x6) (fun r => zr (10) (10) r.2) := by
  unfold fX12_prefixed_r1_200
  exact zpc_if (fun _ => zpc_if (fun _ => pb_fX12_prefixed_r1_220) (fun _ => zpc_if (fun _ => pb_fX12_prefixed_r1_220) (fun _ => pb_fX12_prefixed_r1_226))) (fun _ => pb_fX12_prefixed_r1_226)
theorem pb_fX12_prefixed_r1 {σ : zSt} {x1 : Int32} : zpc (fX12_prefixed_r1 σ x1) (fun r => zr (4) (23) r.2) := by
  unfold fX12_prefixed_r1
  exact zpc_ck (zpc_bi zpc_tt (fun σ9 v10 _ => zpc_if (fun _ => zpc_mono (pb_fX12_prefixed_r1_33) (fun _ h => zr_w h (by decide))) (fun _ => zpc_if (fun _ => zpc_mono (pb_fX12_prefixed_r1_33) (fun _ h => zr_w h (by decide))) (fun _ => zpc_if (fun _ => zpc_mono (pb_fX12_prefixed_r1_33) (fun _ h => zr_w h (by decide))) (fun _ => zpc_bi zpc_tt (fun σ11 v12 _ => zpc_if (fun _ => zpc_ck (zpc_bi zpc_tt (fun σ16 v17 _ => zpc_bi zpc_tt (fun σ18 v19 _ => zpc_ck (zpc_bv (fun σ20 _ => zpc_ck (zpc_bv (fun σ21 _ => zpc_bi zpc_tt (fun σ22 v23 _ => zpc_bi (pb_fX12_turn) (fun σ24 v25 hv25 => zpc_if (fun _ => zpc_mono (pb_fX12_prefixed_r1_135 hv25) (fun _ h => zr_w h (by decide))) (fun _ => zpc_if (fun _ => zpc_mono (pb_fX12_prefixed_r1_135 hv25) (fun _ h => zr_w h (by decide))) (fun _ => zpc_ck (zpc_bv (fun σ26 _ => zpc_bu zpc_tt (fun σ27 _ => zpc_mono (pb_fX12_prefixed_r1_135 hv25) (fun _ h => zr_w h (by decide))))))))))))))))) (fun _ => zpc_bv (fun v13 _ => zpc_bv (fun v14 _ => zpc_bv (fun v15 _ => zpc_if (fun _ => zpc_if (fun _ => zpc_mono (pb_fX12_prefixed_r1_200) (fun _ h => zr_w h (by decide))) (fun _ => zpc_if (fun _ => zpc_mono (pb_fX12_prefixed_r1_200) (fun _ h => zr_w h (by decide))) (fun _ => zpc_if (fun _ => zpc_mono (pb_fX12_prefixed_r1_239) (fun _ h => zr_w h (by decide))) (fun _ => zpc_mono (pb_fX12_prefixed_r1_200) (fun _ h => zr_w h (by decide)))))) (fun _ => zpc_mono (pb_fX12_prefixed_r1_200) (fun _ h => zr_w h (by decide)))))))))))))
theorem pb_fX12_more3_r1_197 {σ : zSt} {s0 : Int32} : zpc (fX12_more3_r1_197 σ s0) (fun r => zr (4) (23) r.2) := by
  unfold fX12_more3_r1_197
  exact zpc_bi (pb_fX12_prefixed_r1) (fun σ2 v3 hv3 => pb_fX12_more3_r1_200 hv3)
theorem pb_fX12_more3_r1 {σ : zSt} {x1 : Int32} {x2 : Int32} : zpc (fX12_more3_r1 σ x1 x2) (fun r => zr (4) (23) r.2) := by
  unfold fX12_more3_r1
  exact zpc_bv (fun v4 _ => zpc_if (fun _ => zpc_bi zpc_tt (fun σ22 v23 _ => zpc_ck (zpc_bv (fun σ24 _ => zpc_bi zpc_tt (fun σ25 v26 _ => zpc_if (fun _ => zpc_some (zr_w (zr_c (x := 10) (lo := 10) (hi := 10) (by decide)) (by decide))) (fun _ => zpc_ck (zpc_bu zpc_tt (fun σ27 _ => zpc_ck (zpc_ck (zpc_bv (fun σ28 _ => zpc_some (zr_w (zr_c (x := 17) (lo := 17) (hi := 17) (by decide)) (by decide))))))))))))) (fun _ => zpc_if (fun _ => zpc_bi zpc_tt (fun σ19 v20 _ => zpc_bu zpc_tt (fun σ21 _ => zpc_some (zr_w (zr_c (x := 7) (lo := 7) (hi := 7) (by decide)) (by decide))))) (fun _ => zpc_if (fun _ => zpc_bu zpc_tt (fun σ18 _ => zpc_some (zr_w (zr_c (x := 11) (lo := 11) (hi := 11) (by decide)) (by decide)))) (fun _ => zpc_ck (zpc_if (fun _ => zpc_if (fun _ => zpc_bi zpc_tt (fun σ16 v17 _ => zpc_mono (pb_fX12_more3_r1_119) (fun _ h => zr_w h (by decide)))) (fun _ => zpc_bi zpc_tt (fun σ14 v15 _ => zpc_mono (pb_fX12_more3_r1_119) (fun _ h => zr_w h (by decide))))) (fun _ => zpc_if (fun _ => zpc_bi zpc_tt (fun σ9 v10 _ => zpc_ck (zpc_bv (fun σ11 _ => zpc_ck (zpc_bu zpc_tt (fun σ12 _ => zpc_ck (zpc_ck (zpc_bv (fun σ13 _ => zpc_some (zr_w (zr_c (x := 17) (lo := 17) (hi := 17) (by decide)) (by decide))))))))))) (fun _ => zpc_if (fun _ => zpc_bi zpc_tt (fun σ5 v6 _ => zpc_bi (pb_fX12_more) (fun σ7 v8 hv8 => pb_fX12_more3_r1_200 (zr_w hv8 (by decide))))) (fun _ => zpc_if (fun _ => pb_fX12_more3_r1_197) (fun _ => pb_fX12_more3_r1_197)))))))))
theorem pb_fX12_plain_r1_160 {σ : zSt} {s0 : Int32} (qs0 : zr 4 23 s0) : zpc (fX12_plain_r1_160 σ s0) (fun r => zr (4) (23) r.2) := by
  unfold fX12_plain_r1_160
  exact zpc_some qs0
theorem pb_fX12_three_85 {σ : zSt} : zpc (fX12_three_85 σ) (fun r => zr (10) (10) r.2) := by
  unfold fX12_three_85
  exact zpc_some (zr_c (x := 10) (lo := 10) (hi := 10) (by decide))
theorem pb_fX12_three_200 {σ : zSt} {s0 : Int32} (qs0 : zr 4 6 s0) : zpc (fX12_three_200 σ s0) (fun r => zr (4) (6) r.2) := by
  unfold fX12_three_200
  exact zpc_some qs0
theorem pb_fX12_three_189 {σ : zSt} {x3 : Int32} : zpc (fX12_three_189 σ x3) (fun r => zr (4) (6) r.2) := by
  unfold fX12_three_189
  exact zpc_if (fun _ => pb_fX12_three_200 (zr_w (zr_c (x := 6) (lo := 6) (hi := 6) (by decide)) (by decide))) (fun _ => pb_fX12_three_200 (zr_w (zr_c (x := 4) (lo := 4) (hi := 4) (by decide)) (by decide)))
theorem pb_fX12_three_173 {σ : zSt} {x3 : Int32} : zpc (fX12_three_173 σ x3) (fun r => zr (4) (6) r.2) := by
  unfold fX12_three_173
  exact zpc_if (fun _ => zpc_bi zpc_tt (fun σ1 v2 _ => zpc_ck (zpc_bv (fun σ3 _ => pb_fX12_three_189)))) (fun _ => pb_fX12_three_189)
theorem pb_fX12_three_157 {σ : zSt} {x3 : Int32} : zpc (fX12_three_157 σ x3) (fun r => zr (4) (6) r.2) := by
  unfold fX12_three_157
  exact zpc_if (fun _ => zpc_bi zpc_tt (fun σ4 v5 _ => zpc_ck (zpc_bv (fun σ6 _ => pb_fX12_three_173)))) (fun _ => pb_fX12_three_173)
theorem pb_fX12_three_128_body {k128 : zSt → Int32 → Int32 → Option (zSt × Int32)} (hk : ∀ (y0 : zSt) (y1 : Int32) (y2 : Int32), zpc (k128 y0 y1 y2) (fun r => zr (4) (6) r.2)) {σ : zSt} {x3 : Int32} {x4 : Int32} : zpc (fX12_three_128_body k128 σ x3 x4) (fun r => zr (4) (6) r.2) := by
  unfold fX12_three_128_body
  exact zpc_if (fun _ => zpc_if (fun _ => pb_fX12_three_157) (fun _ => zpc_bu zpc_tt (fun σ7 _ => zpc_bv (fun v8 _ => hk _ _ _)))) (fun _ => pb_fX12_three_157)
theorem pb_fX12_three_128 : ∀ (n : Nat) (y0 : zSt) (y1 : Int32) (y2 : Int32), zpc (fX12_three_128 n y0 y1 y2) (fun r => zr (4) (6) r.2) := by
  intro n
  induction n with
  | zero => intro y0 y1 y2; exact zpc_none
  | succ n ih => intro y0 y1 y2; exact pb_fX12_three_128_body ih
theorem pb_fX12_three_239 {σ : zSt} : zpc (fX12_three_239 σ) (fun r => zr (10) (10) r.2) := by
  unfold fX12_three_239
  exact zpc_some (zr_c (x := 10) (lo := 10) (hi := 10) (by decide))
theorem pb_fX12_turns {σ : zSt} : zpc (fX12_turns σ) (fun r => zr (8) (15) r.2) := by
  unfold fX12_turns
  exact zpc_bi zpc_tt (fun σ1 v2 _ => zpc_bi (pb_fX12_turn) (fun σ3 v4 hv4 => zpc_some hv4))
theorem pb_fX12_three_502 {σ : zSt} : zpc (fX12_three_502 σ) (fun r => zr (4) (4) r.2) := by
  unfold fX12_three_502
  exact zpc_some (zr_c (x := 4) (lo := 4) (hi := 4) (by decide))
theorem pb_fX12_three_88 {σ : zSt} {x1 : Int32} {x2 : Int32} {x3 : Int32} : zpc (fX12_three_88 σ x1 x2 x3) (fun r => zr (4) (19) r.2) := by
  unfold fX12_three_88
  exact zpc_if (fun _ => zpc_if (fun _ => zpc_bi zpc_tt (fun σ43 v44 _ => zpc_ck (zpc_bv (fun σ45 _ => zpc_ck (zpc_ck (zpc_bv (fun σ46 _ => zpc_some (zr_w (zr_c (x := 10) (lo := 10) (hi := 10) (by decide)) (by decide))))))))) (fun _ => zpc_mono (pb_fX12_three_128 _ _ _ _) (fun _ h => zr_w h (by decide)))) (fun _ => zpc_if (fun _ => zpc_bi zpc_tt (fun σ37 v38 _ => zpc_ck (zpc_bv (fun σ39 _ => zpc_bi zpc_tt (fun σ40 v41 _ => zpc_if (fun _ => zpc_mono (pb_fX12_three_239) (fun _ h => zr_w h (by decide))) (fun _ => zpc_ck (zpc_ck (zpc_bv (fun σ42 _ => zpc_mono (pb_fX12_three_239) (fun _ h => zr_w h (by decide))))))))))) (fun _ => zpc_if (fun _ => zpc_bi zpc_tt (fun σ9 v10 _ => zpc_ck (zpc_bv (fun σ11 _ => zpc_ck (zpc_ck (zpc_bv (fun σ12 _ => zpc_some (zr_w (zr_c (x := 10) (lo := 10) (hi := 10) (by decide)) (by decide))))))))) (fun _ => zpc_if (fun _ => zpc_bi (pb_fX12_turns) (fun σ13 v14 hv14 => zpc_some (zr_w hv14 (by decide)))) (fun _ => zpc_if (fun _ => zpc_bi zpc_tt (fun σ15 v16 _ => zpc_ck (zpc_bu zpc_tt (fun σ17 _ => zpc_ck (zpc_ck (zpc_bv (fun σ18 _ => zpc_some (zr_w (zr_c (x := 11) (lo := 11) (hi := 11) (by decide)) (by decide))))))))) (fun _ => zpc_if (fun _ => zpc_bi zpc_tt (fun σ19 v20 _ => zpc_ck (zpc_ck (zpc_bv (fun σ21 _ => zpc_bi zpc_tt (fun σ22 v23 _ => zpc_ck (zpc_bv (fun σ24 _ => zpc_some (zr_w (zr_c (x := 11) (lo := 11) (hi := 11) (by decide)) (by decide)))))))))) (fun _ => zpc_if (fun _ => zpc_ck (zpc_bi zpc_tt (fun σ25 v26 _ => zpc_ck (zpc_bi zpc_tt (fun σ27 v28 _ => zpc_bu zpc_tt (fun σ29 _ => zpc_bu zpc_tt (fun σ30 _ => zpc_ck (zpc_bv (fun σ31 _ => zpc_some (zr_w (zr_c (x := 19) (lo := 19) (hi := 19) (by decide)) (by decide))))))))))) (fun _ => zpc_if (fun _ => zpc_bu zpc_tt (fun σ32 _ => zpc_bu zpc_tt (fun σ33 _ => zpc_some (zr_w (zr_c (x := 4) (lo := 4) (hi := 4) (by decide)) (by decide))))) (fun _ => zpc_ck (zpc_bv (fun σ34 _ => zpc_ck (zpc_bv (fun σ35 _ => zpc_if (fun _ => zpc_ck (zpc_bv (fun σ36 _ => zpc_mono (pb_fX12_three_502) (fun _ h => zr_w h (by decide))))) (fun _ => zpc_mono (pb_fX12_three_502) (fun _ h => zr_w h (by decide)))))))))))))))
theorem pb_fX12_three {σ : zSt} {x1 : Int32} {x2 : Int32} : zpc (fX12_three σ x1 x2) (fun r => zr (4) (19) r.2) := by
  unfold fX12_three
  exact zpc_bv (fun v47 _ => zpc_if (fun _ => zpc_bi zpc_tt (fun σ52 v53 _ => zpc_if (fun _ => zpc_some (zr_w (zr_c (x := 5) (lo := 5) (hi := 5) (by decide)) (by decide))) (fun _ => zpc_bi zpc_tt (fun σ54 v55 _ => zpc_ck (zpc_bv (fun σ56 _ => zpc_ck (zpc_ck (zpc_bv (fun σ57 _ => zpc_some (zr_w (zr_c (x := 11) (lo := 11) (hi := 11) (by decide)) (by decide))))))))))) (fun _ => zpc_if (fun _ => zpc_ck (zpc_if (fun _ => zpc_bi zpc_tt (fun σ48 v49 _ => zpc_if (fun _ => zpc_bu zpc_tt (fun σ51 _ => zpc_mono (pb_fX12_three_85) (fun _ h => zr_w h (by decide)))) (fun _ => zpc_bu zpc_tt (fun σ50 _ => zpc_mono (pb_fX12_three_85) (fun _ h => zr_w h (by decide)))))) (fun _ => pb_fX12_three_88))) (fun _ => pb_fX12_three_88)))
theorem pb_fX12_plain_r1 {σ : zSt} {x1 : Int32} : zpc (fX12_plain_r1 σ x1) (fun r => zr (4) (23) r.2) := by
  unfold fX12_plain_r1
  exact zpc_bv (fun v1 _ => zpc_bv (fun v2 _ => zpc_if (fun _ => zpc_if (fun _ => zpc_bi (pb_fX12_singles) (fun σ3 v4 hv4 => zpc_mono (pb_fX12_plain_r1_64 (zr_w hv4 (by decide))) (fun _ h => zr_w h (by decide)))) (fun _ => zpc_bi (pb_fX12_zero) (fun σ5 v6 hv6 => zpc_mono (pb_fX12_plain_r1_64 hv6) (fun _ h => zr_w h (by decide))))) (fun _ => zpc_if (fun _ => zpc_if (fun _ => zpc_ck (zpc_bv (fun σ10 _ => zpc_mono (pb_fX12_plain_r1_92) (fun _ h => zr_w h (by decide))))) (fun _ => zpc_bi zpc_tt (fun σ7 v8 _ => zpc_bu zpc_tt (fun σ9 _ => zpc_mono (pb_fX12_plain_r1_92) (fun _ h => zr_w h (by decide)))))) (fun _ => zpc_if (fun _ => zpc_bi zpc_tt (fun σ11 v12 _ => zpc_bu zpc_tt (fun σ13 _ => zpc_if (fun _ => zpc_mono (pb_fX12_plain_r1_139 (zr_w (zr_c (x := 7) (lo := 7) (hi := 7) (by decide)) (by decide))) (fun _ h => zr_w h (by decide))) (fun _ => zpc_mono (pb_fX12_plain_r1_139 (zr_w (zr_c (x := 4) (lo := 4) (hi := 4) (by decide)) (by decide))) (fun _ h => zr_w h (by decide)))))) (fun _ => zpc_if (fun _ => zpc_bi (pb_fX12_more3_r1) (fun σ14 v15 hv15 => pb_fX12_plain_r1_160 hv15)) (fun _ => zpc_bi (pb_fX12_three) (fun σ16 v17 hv17 => pb_fX12_plain_r1_160 (zr_w hv17 (by decide)))))))))
theorem pb_fX12_prefixed_311 {σ : zSt} {s0 : Int32} {s1 : Int32} (qs0 : zr 9 12 s0) (qs1 : zr 4 23 s1) : zpc (fX12_prefixed_311 σ s0 s1) (fun r => zr (13) (35) r.2) := by
  unfold fX12_prefixed_311
  exact zpc_some (zr_add (lo := 13) (hi := 35) qs1 qs0 (by decide))
theorem pb_fX12_prefixed_244 {σ : zSt} {x1 : Int32} {x3 : Int32} {s0 : Int32} : zpc (fX12_prefixed_244 σ x1 x3 s0) (fun r => zr (8) (35) r.2) := by
  unfold fX12_prefixed_244
  exact zpc_if (fun _ => zpc_bv (fun σ10 _ => zpc_bi (pb_fX12_plain_r1) (fun σ11 v12 hv12 => zpc_some (zr_w (zr_add (lo := 8) (hi := 27) hv12 (zr_c (x := 4) (lo := 4) (hi := 4) (by decide)) (by decide)) (by decide))))) (fun _ => zpc_ck (zpc_bi zpc_tt (fun σ2 v3 _ => zpc_bi zpc_tt (fun σ4 v5 _ => zpc_ck (zpc_bv (fun σ6 _ => zpc_ck (zpc_bv (fun σ7 _ => zpc_bi (pb_fX12_plain_r1) (fun σ8 v9 hv9 => zpc_if (fun _ => zpc_mono (pb_fX12_prefixed_311 (zr_w (zr_c (x := 9) (lo := 9) (hi := 9) (by decide)) (by decide)) hv9) (fun _ h => zr_w h (by decide))) (fun _ => zpc_mono (pb_fX12_prefixed_311 (zr_w (zr_c (x := 12) (lo := 12) (hi := 12) (by decide)) (by decide)) hv9) (fun _ h => zr_w h (by decide))))))))))))
theorem pb_fX12_prefixed_239 {σ : zSt} {x1 : Int32} {x3 : Int32} : zpc (fX12_prefixed_239 σ x1 x3) (fun r => zr (8) (35) r.2) := by
  unfold fX12_prefixed_239
  exact pb_fX12_prefixed_244
theorem pb_fX12_prefixed_243 {σ : zSt} {x1 : Int32} {x3 : Int32} : zpc (fX12_prefixed_243 σ x1 x3) (fun r => zr (8) (35) r.2) := by
  unfold fX12_prefixed_243
  exact pb_fX12_prefixed_244
theorem pb_fX12_prefixed_226 {σ : zSt} {x1 : Int32} {x3 : Int32} {x5 : Int32} {x6 : Int32} : zpc (fX12_prefixed_226 σ x1 x3 x5 x6) (fun r => zr (8) (35) r.2) := by
  unfold fX12_prefixed_226
  exact zpc_if (fun _ => zpc_if (fun _ => pb_fX12_prefixed_239) (fun _ => pb_fX12_prefixed_243)) (fun _ => pb_fX12_prefixed_243)
theorem pb_fX12_prefixed_220 {σ : zSt} {x1 : Int32} {x3 : Int32} {x5 : Int32} {x6 : Int32} : zpc (fX12_prefixed_220 σ x1 x3 x5 x6) (fun r => zr (8) (35) r.2) := by
  unfold fX12_prefixed_220
  exact zpc_if (fun _ => pb_fX12_prefixed_226) (fun _ => pb_fX12_prefixed_239)
theorem pb_fX12_prefixed_200 {σ : zSt} {x1 : Int32} {x3 : Int32} {x4 : Int32} {x5 : Int32} {x6 : Int32} : zpc (fX12_prefixed_200 σ x1 x3 x4 x5 x6) (fun r => zr (8) (35) r.2) := by
  unfold fX12_prefixed_200
  exact zpc_if (fun _ => zpc_if (fun _ => pb_fX12_prefixed_220) (fun _ => zpc_if (fun _ => pb_fX12_prefixed_220) (fun _ => pb_fX12_prefixed_226))) (fun _ => pb_fX12_prefixed_226)
theorem pb_fX12_prefixed {σ : zSt} {x1 : Int32} : zpc (fX12_prefixed σ x1) (fun r => zr (4) (35) r.2) := by
  unfold fX12_prefixed
  exact zpc_ck (zpc_bi zpc_tt (fun σ13 v14 _ => zpc_if (fun _ => zpc_mono (pb_fX12_prefixed_33) (fun _ h => zr_w h (by decide))) (fun _ => zpc_if (fun _ => zpc_mono (pb_fX12_prefixed_33) (fun _ h => zr_w h (by decide))) (fun _ => zpc_if (fun _ => zpc_mono (pb_fX12_prefixed_33) (fun _ h => zr_w h (by decide))) (fun _ => zpc_bi zpc_tt (fun σ15 v16 _ => zpc_if (fun _ => zpc_ck (zpc_bi zpc_tt (fun σ20 v21 _ => zpc_bi zpc_tt (fun σ22 v23 _ => zpc_ck (zpc_bv (fun σ24 _ => zpc_ck (zpc_bv (fun σ25 _ => zpc_bi zpc_tt (fun σ26 v27 _ => zpc_bi (pb_fX12_turn) (fun σ28 v29 hv29 => zpc_if (fun _ => zpc_mono (pb_fX12_prefixed_135 hv29) (fun _ h => zr_w h (by decide))) (fun _ => zpc_if (fun _ => zpc_mono (pb_fX12_prefixed_135 hv29) (fun _ h => zr_w h (by decide))) (fun _ => zpc_ck (zpc_bv (fun σ30 _ => zpc_bu zpc_tt (fun σ31 _ => zpc_mono (pb_fX12_prefixed_135 hv29) (fun _ h => zr_w h (by decide))))))))))))))))) (fun _ => zpc_bv (fun v17 _ => zpc_bv (fun v18 _ => zpc_bv (fun v19 _ => zpc_if (fun _ => zpc_if (fun _ => zpc_mono (pb_fX12_prefixed_200) (fun _ h => zr_w h (by decide))) (fun _ => zpc_if (fun _ => zpc_mono (pb_fX12_prefixed_200) (fun _ h => zr_w h (by decide))) (fun _ => zpc_if (fun _ => zpc_mono (pb_fX12_prefixed_239) (fun _ h => zr_w h (by decide))) (fun _ => zpc_mono (pb_fX12_prefixed_200) (fun _ h => zr_w h (by decide)))))) (fun _ => zpc_mono (pb_fX12_prefixed_200) (fun _ h => zr_w h (by decide)))))))))))))
theorem pb_fX12_more3_197 {σ : zSt} {s0 : Int32} : zpc (fX12_more3_197 σ s0) (fun r => zr (4) (35) r.2) := by
  unfold fX12_more3_197
  exact zpc_bi (pb_fX12_prefixed) (fun σ2 v3 hv3 => pb_fX12_more3_200 hv3)
theorem pb_fX12_more3 {σ : zSt} {x1 : Int32} {x2 : Int32} : zpc (fX12_more3 σ x1 x2) (fun r => zr (4) (35) r.2) := by
  unfold fX12_more3
  exact zpc_bv (fun v4 _ => zpc_if (fun _ => zpc_bi zpc_tt (fun σ22 v23 _ => zpc_ck (zpc_bv (fun σ24 _ => zpc_bi zpc_tt (fun σ25 v26 _ => zpc_if (fun _ => zpc_some (zr_w (zr_c (x := 10) (lo := 10) (hi := 10) (by decide)) (by decide))) (fun _ => zpc_ck (zpc_bu zpc_tt (fun σ27 _ => zpc_ck (zpc_ck (zpc_bv (fun σ28 _ => zpc_some (zr_w (zr_c (x := 17) (lo := 17) (hi := 17) (by decide)) (by decide))))))))))))) (fun _ => zpc_if (fun _ => zpc_bi zpc_tt (fun σ19 v20 _ => zpc_bu zpc_tt (fun σ21 _ => zpc_some (zr_w (zr_c (x := 7) (lo := 7) (hi := 7) (by decide)) (by decide))))) (fun _ => zpc_if (fun _ => zpc_bu zpc_tt (fun σ18 _ => zpc_some (zr_w (zr_c (x := 11) (lo := 11) (hi := 11) (by decide)) (by decide)))) (fun _ => zpc_ck (zpc_if (fun _ => zpc_if (fun _ => zpc_bi zpc_tt (fun σ16 v17 _ => zpc_mono (pb_fX12_more3_119) (fun _ h => zr_w h (by decide)))) (fun _ => zpc_bi zpc_tt (fun σ14 v15 _ => zpc_mono (pb_fX12_more3_119) (fun _ h => zr_w h (by decide))))) (fun _ => zpc_if (fun _ => zpc_bi zpc_tt (fun σ9 v10 _ => zpc_ck (zpc_bv (fun σ11 _ => zpc_ck (zpc_bu zpc_tt (fun σ12 _ => zpc_ck (zpc_ck (zpc_bv (fun σ13 _ => zpc_some (zr_w (zr_c (x := 17) (lo := 17) (hi := 17) (by decide)) (by decide))))))))))) (fun _ => zpc_if (fun _ => zpc_bi zpc_tt (fun σ5 v6 _ => zpc_bi (pb_fX12_more) (fun σ7 v8 hv8 => pb_fX12_more3_200 (zr_w hv8 (by decide))))) (fun _ => zpc_if (fun _ => pb_fX12_more3_197) (fun _ => pb_fX12_more3_197)))))))))
theorem pb_fX12_plain_160 {σ : zSt} {s0 : Int32} (qs0 : zr 4 35 s0) : zpc (fX12_plain_160 σ s0) (fun r => zr (4) (35) r.2) := by
  unfold fX12_plain_160
  exact zpc_some qs0
theorem pb_fX12_plain {σ : zSt} {x1 : Int32} : zpc (fX12_plain σ x1) (fun r => zr (4) (35) r.2) := by
  unfold fX12_plain
  exact zpc_bv (fun v1 _ => zpc_bv (fun v2 _ => zpc_if (fun _ => zpc_if (fun _ => zpc_bi (pb_fX12_singles) (fun σ3 v4 hv4 => zpc_mono (pb_fX12_plain_64 (zr_w hv4 (by decide))) (fun _ h => zr_w h (by decide)))) (fun _ => zpc_bi (pb_fX12_zero) (fun σ5 v6 hv6 => zpc_mono (pb_fX12_plain_64 hv6) (fun _ h => zr_w h (by decide))))) (fun _ => zpc_if (fun _ => zpc_if (fun _ => zpc_ck (zpc_bv (fun σ10 _ => zpc_mono (pb_fX12_plain_92) (fun _ h => zr_w h (by decide))))) (fun _ => zpc_bi zpc_tt (fun σ7 v8 _ => zpc_bu zpc_tt (fun σ9 _ => zpc_mono (pb_fX12_plain_92) (fun _ h => zr_w h (by decide)))))) (fun _ => zpc_if (fun _ => zpc_bi zpc_tt (fun σ11 v12 _ => zpc_bu zpc_tt (fun σ13 _ => zpc_if (fun _ => zpc_mono (pb_fX12_plain_139 (zr_w (zr_c (x := 7) (lo := 7) (hi := 7) (by decide)) (by decide))) (fun _ h => zr_w h (by decide))) (fun _ => zpc_mono (pb_fX12_plain_139 (zr_w (zr_c (x := 4) (lo := 4) (hi := 4) (by decide)) (by decide))) (fun _ h => zr_w h (by decide)))))) (fun _ => zpc_if (fun _ => zpc_bi (pb_fX12_more3) (fun σ14 v15 hv15 => pb_fX12_plain_160 hv15)) (fun _ => zpc_bi (pb_fX12_three) (fun σ16 v17 hv17 => pb_fX12_plain_160 (zr_w hv17 (by decide)))))))))
theorem pb_fX12_instruction {σ : zSt} : zpc (fX12_instruction σ) (fun r => zr (4) (35) r.2) := by
  unfold fX12_instruction
  exact zpc_bv (fun σ1 _ => zpc_ck (zpc_bv (fun σ2 _ => zpc_bi zpc_tt (fun σ3 v4 _ => zpc_bi (pb_fX12_plain) (fun σ5 v6 hv6 => zpc_some hv6)))))
theorem p_beats {σ : zSt} : zpc (fX12_instruction σ ) (fun r => zr 1 64 r.2) := zpc_mono pb_fX12_instruction (fun _ h => zr_w h (by decide))
end ZJN29
section ZJN30
/-! ONE STEP -/
theorem z_ick {α : Type} {c : Bool} {o : Option (zSt × Int32)} {f : zSt → Int32 → Option α} : zbi (zck c o) f = zck c (zbi o f) := by
  cases c <;> rfl
theorem zp2_sub {α β : Type} {o o' : Option (zSt × Int32)} {K : zSt → Int32 → Option α} {p : Option β} {Q : α → β → Prop} (hs : zpc o (fun r => o' = some r)) (h : zp2 (zbi o' K) p Q) : zp2 (zbi o K) p Q := by
  intro a b ea eb
  cases e : o with
  | none => rw [e] at ea; cases ea
  | some r =>
    rw [e] at ea
    refine h a b ?_ eb
    rw [hs r e]
    exact ea
theorem z_iu {α : Type} {o : Option zSt} {g : zSt → Option (zSt × Int32)} {f : zSt → Int32 → Option α} : zbi (zbu o g) f = zbu o (fun s => zbi (g s) f) := by
  cases o <;> rfl
/-- the reference's chip asks: a, whatever the registers hold -/
noncomputable def zAsk (a : Int32) (μ : zSt) : Prop := ∀ t : zSt, (∀ j : Nat, 29 ≤ j → t.1 3 j = μ.1 3 j) → zpc (fX12_asks t) (fun r => r = (t, a))
section ZST
variable {I : zSt → zSt → Prop} {σ μ : zSt}
theorem zTT.pq (hI : zIoK I) (h : zTT I σ μ) {v : Int32} (hv : zr 0 1 v) : zTT I (zsi σ 36 27 v) (zsi μ 3 28 v) := by
  refine ⟨h.1.keep (zQ.wi zQ.rf rfl) (zQ.wi zQ.rf rfl), ⟨fun j hj hn hw => ?_, ?_, ?_, fun j hj => ?_⟩, h.2.2.1.imp (fun x => x) (fun x => x), hI _ _ _ _ h.2.2.2 (zQ.wi zQ.rf rfl) (zQ.wi zQ.rf rfl)⟩
  · rw [zsi_nj (by omega), zsi_nj (by omega)]; exact h.2.1.1 j hj hn hw
  · rw [zsi_ej, zsi_ej]
  · rw [zsi_nj (by decide), zsi_nj (by decide)]; exact h.2.1.2.2.1
  · by_cases q : j = 27
    · rw [q, zsi_ej]; exact zrg_1 (by decide) (by decide) hv
    · rw [zsi_nj q]; exact h.2.1.2.2.2 j hj
theorem t_204 (hI : zIoK I) (hPo : zPorts I) (h : zTT I σ μ) (hF : zF σ μ) (hW : zWzz σ μ) (h28 : σ.1 36 28 = 0) {α : Type} {Q : α → zSt → Prop} {F : zSt → Int32 → Option α} (k : ∀ s t b, zTT I s t → zF s t → zWzz s t → zr 1 64 b → zp2 (F s b) (fX12_once_229 t b) Q) : zp2 (zbi (fX5_carryOn σ ) F) (fX12_once_204 μ) Q := by
  unfold fX5_carryOn fX12_once_204
  rw [z_ick]
  refine zp2_ckl (zp2_ckr ?_)
  have e26 : zgi μ 3 (26 : Int32).toNatClampNeg = zgi σ 36 (26 : Int32).toNatClampNeg := h.eq (j := 26) (by decide)
  rw [e26]
  by_cases q : zgi σ 36 (26 : Int32).toNatClampNeg = 1
  · rw [if_pos q, if_pos q, z_iu]
    exact zp2_buu (t_halt hI h hF hW) (fun s t q => k s t 4 q.1 q.2.1 q.2.2 (zr_c (by decide)))
  · rw [if_neg q, if_neg q]
    refine zp2_bii (zp2_andr (t_instr hI hPo h hF hW h28) p_beats) (fun s v t w q => ?_)
    obtain ⟨⟨q1, q2, q3, q4⟩, q5⟩ := q
    have q4 : w = v := q4
    subst q4
    exact k s t w q1 q2 q3 q5
theorem t_once (hI : zIoK I) (hPo : zPorts I) (h : zTT I σ μ) (hF : zF σ μ) (hW : zWzz σ μ) {a : Int32} (ha : zAsk a μ) {α : Type} {Q : α → zSt → Prop} {F : zSt → Int32 → Option α} (k : ∀ s t b, zTT I s t → zF s t → zWzz s t → zr 1 64 b → zp2 (F s b) (fX12_once_229 t b) Q) : zp2 (zbi (fX5_answerCalls σ a) (fun σ9 v10 => if v10 = 0 then zbi (fX5_carryOn σ9 ) F else F σ9 v10)) (zck (zin 27 1048) (if (zgi μ 3 (27 : Int32).toNatClampNeg) = 0 then fX12_once_46 μ 1 else fX12_once_46 μ 0)) Q := by
  have e28 : zgi μ 3 (27 : Int32).toNatClampNeg = σ.1 36 28 := h.2.1.2.2.1
  have e27 : μ.1 3 28 = σ.1 36 27 := h.2.1.2.1
  have e23 : μ.1 3 23 = σ.1 36 23 := h.eq (by decide)
  have r23 : zr 0 1 (σ.1 36 23) := (h.g (j := 23) (by decide)).2.2.2.1 (by decide) (by decide)
  have r25 : zr 0 2 (σ.1 36 25) := (h.g (j := 25) (by decide)).2.2.2.2.1 rfl
  have e25 : μ.1 3 25 = σ.1 36 25 := h.eq (by decide)
  have h0 : zTT I (zsi σ 36 28 0) (zsi μ 3 27 0) := h.pz hI (zr_c (by decide))
  have F0 : zF (zsi σ 36 28 0) (zsi μ 3 27 0) := hF
  have W0 : zWzz (zsi σ 36 28 0) (zsi μ 3 27 0) := hW
  have c0 : (zsi σ 36 28 0).1 36 28 = 0 := rfl
  have car : ∀ o : Option (zSt × Int32), zpc o (fun r => r = (zsi σ 36 28 0, 0)) → zp2 (zbi o (fun σ9 v10 => if v10 = 0 then zbi (fX5_carryOn σ9 ) F else F σ9 v10)) (fX12_once_204 (zsi μ 3 27 0)) Q := fun o ho => by
    refine zp2_bil ho (fun s v e => ?_)
    cases e
    exact zp2_ifl (fun _ => t_204 hI hPo h0 F0 W0 c0 k) (fun q => absurd rfl q)
  refine zp2_ckr ?_
  rw [e28]
  unfold fX12_once_46
  by_cases p : σ.1 36 28 = 0
  · refine zp2_ifr (fun _ => zp2_ckr (zp2_bvr (fun t1 g1 => zp2_ckr ?_))) (fun q => absurd p q)
    have g1 : t1 = zsi μ 3 27 0 := g1
    subst g1
    rw [show zgi (zsi μ 3 27 0) 3 (28 : Int32).toNatClampNeg = σ.1 36 27 from e27]
    by_cases n27 : σ.1 36 27 = 1
    · -- the pause button's call
      refine zp2_ifr (fun _ => zp2_ifr (fun q => absurd q (by decide)) (fun _ => zp2_ckr (zp2_bvr (fun t2 g2 => zp2_ckr (zp2_bvr (fun t3 g3 => zp2_bur p_ans (fun t4 e4 => ?_))))))) (fun q => absurd n27 q)
      have h2 : zTT I (zsi (zsi (zsi σ 36 28 0) 36 27 0) 36 23 0) t3 := by
        rw [g3, g2]
        exact (h0.pq hI (zr_c (by decide))).upd hI [23] (zQ.wi zQ.rf rfl) (zQ.wi zQ.rf rfl) rfl (zAl1 ⟨rfl, zrg_1 (by decide) (by decide) (show zr 0 1 (0 : Int32) from zr_c (by decide))⟩)
      have F2 : zF (zsi (zsi (zsi σ 36 28 0) 36 27 0) 36 23 0) t3 := by rw [g3, g2]; exact hF
      refine zp2_sub (o' := zbu (fX5_breakOff (zsi (zsi (zsi σ 36 28 0) 36 27 0) 36 23 0) 102) (fun s => some (s, 11))) ?_ ?_
      · unfold fX5_answerCalls fX5_answerCalls_15
        refine zpc_ck (zpc_if (fun _ => zpc_ck (zpc_bv (fun s1 e1 => zpc_if (fun q => absurd q (by decide)) (fun _ => zpc_ck (zpc_if (fun _ => zpc_ck (zpc_bv (fun s2 e2 => zpc_ck (zpc_bv (fun s3 e3 => ?_))))) (fun q => absurd (show zgi s1 36 (27 : Int32).toNatClampNeg = 1 by rw [e1]; exact n27) q)))))) (fun q => absurd p q))
        have es : s3 = zsi (zsi (zsi σ 36 28 0) 36 27 0) 36 23 0 := by rw [e3, e2, e1]; rfl
        rw [es]
        exact fun r er => er
      · rw [z_iu]
        exact t_brk hI h2 F2 (zr_c (by decide)) e4 (fun s t q1 q2 q3 _ => show zp2 (if (11 : Int32) = 0 then zbi (fX5_carryOn s ) F else F s 11) (fX12_once_229 t 11) Q from zp2_ifl (fun q => absurd q (by decide)) (fun _ => k s t 11 q1 q2 q3 (zr_c (by decide))))
    · refine zp2_ifr (fun q => absurd q n27) (fun _ => ?_)
      have c82 : (a = 0 ∨ σ.1 36 23 = 0) → zpc (fX5_answerCalls σ a) (fun r => r = (zsi σ 36 28 0, 0)) := fun hh => by
        unfold fX5_answerCalls fX5_answerCalls_15 fX5_answerCalls_64 fX5_answerCalls_82
        refine zpc_ck (zpc_if (fun _ => zpc_ck (zpc_bv (fun s1 e1 => zpc_if (fun q => absurd q (by decide)) (fun _ => zpc_ck (zpc_if (fun q => absurd (show σ.1 36 27 = 1 by rw [e1] at q; exact q) n27) (fun _ => zpc_if (fun q => absurd q (by decide)) (fun _ => ?_))))))) (fun q => absurd p q))
        have e1 : s1 = zsi σ 36 28 0 := e1
        subst e1
        refine zpc_if (fun _ => zpc_some rfl) (fun a0 => zpc_ck (zpc_if (fun _ => zpc_some rfl) (fun q => ?_)))
        rcases hh with x | x
        · exact absurd x a0
        · exact absurd x q
      unfold fX12_once_102
      refine zp2_ckr ?_
      rw [show zgi (zsi μ 3 27 0) 3 (23 : Int32).toNatClampNeg = σ.1 36 23 from e23]
      by_cases n23 : σ.1 36 23 = 1
      · refine zp2_ifr (fun _ => zp2_ifr (fun q => absurd q (by decide)) (fun _ => ?_)) (fun q => absurd n23 q)
        refine zp2_bir (ha (zsi μ 3 27 0) (fun j hj => zsi_nj (by omega))) (fun t v e => ?_)
        cases e
        by_cases a0 : a = 0
        · exact zp2_ifr (fun _ => car _ (c82 (Or.inl a0))) (fun q => absurd a0 q)
        refine zp2_ifr (fun q => absurd q a0) (fun _ => zp2_ckr (zp2_bvr (fun t2 g2 => zp2_ckr (zp2_bvr (fun t3 g3 => zp2_bur p_ans (fun t4 e4 => zp2_ckr ?_))))))
        have h2 : zTT I (zsi (zsi (zsi σ 36 28 0) 36 23 0) 36 24 0) t3 := by
          rw [g3, g2]
          exact h0.upd hI [23, 24] (zQ.wi (zQ.wi zQ.rf rfl) rfl) (zQ.wi (zQ.wi zQ.rf rfl) rfl) rfl (zAl2 ⟨rfl, zrg_1 (by decide) (by decide) (show zr 0 1 (0 : Int32) from zr_c (by decide))⟩ ⟨rfl, zrg_1 (by decide) (by decide) (show zr 0 1 (0 : Int32) from zr_c (by decide))⟩)
        have F2 : zF (zsi (zsi (zsi σ 36 28 0) 36 23 0) 36 24 0) t3 := by rw [g3, g2]; exact hF
        have m25 : t3.1 3 25 = σ.1 36 25 := by rw [g3, g2]; exact e25
        have m25' : zgi t4 3 (25 : Int32).toNatClampNeg = σ.1 36 25 := by rw [e4]; exact m25
        rw [m25']
        refine zp2_sub (o' := if σ.1 36 25 = 2 then zbi (fX5_readWord (zsi (zsi (zsi σ 36 28 0) 36 23 0) 36 24 0) ((σ.1 36 21 <<< ((8 : Int32) &&& 31)) ||| 255)) (fun σ4 v5 => zbu (fX5_breakOff σ4 v5) (fun σ6 => some (σ6, 19))) else zbu (fX5_breakOff (zsi (zsi (zsi σ 36 28 0) 36 23 0) 36 24 0) 56) (fun s => some (s, 13))) ?_ ?_
        · unfold fX5_answerCalls fX5_answerCalls_15 fX5_answerCalls_64
          refine zpc_ck (zpc_if (fun _ => zpc_ck (zpc_bv (fun s1 e1 => zpc_if (fun q => absurd q (by decide)) (fun _ => zpc_ck (zpc_if (fun q => absurd (show σ.1 36 27 = 1 by rw [e1] at q; exact q) n27) (fun _ => zpc_if (fun q => absurd q (by decide)) (fun _ => zpc_if (fun q => absurd q a0) (fun _ => zpc_ck (zpc_if (fun q => ?_) (fun _ => zpc_ck (zpc_bv (fun s2 e2 => zpc_ck (zpc_bv (fun s3 e3 => zpc_ck ?_)))))))))))))) (fun q => absurd p q))
          · rw [e1] at q
            exact absurd (show σ.1 36 23 = 0 from q) (fun z => by rw [n23] at z; exact absurd z (by decide))
          · have es : s3 = zsi (zsi (zsi σ 36 28 0) 36 23 0) 36 24 0 := by rw [e3, e2, e1]; rfl
            subst es
            refine zpc_if (fun q => zpc_ck ?_) (fun q => ?_)
            · rw [if_pos (show σ.1 36 25 = 2 from q)]
              exact fun r er => er
            · rw [if_neg (show ¬ σ.1 36 25 = 2 from q)]
              exact fun r er => er
        · have fin : ∀ x b : Int32, zr 0 65535 x → ¬ b = 0 → (b = 19 ∧ 2 ≤ σ.1 36 25 ∨ b = 13 ∧ ¬ 2 ≤ σ.1 36 25) → zp2 (zbi (zbu (fX5_breakOff (zsi (zsi (zsi σ 36 28 0) 36 23 0) 36 24 0) x) (fun s => some (s, b))) (fun σ9 v10 => if v10 = 0 then zbi (fX5_carryOn σ9 ) F else F σ9 v10)) (fX12_once_179 t4 x) Q := fun x b rx b0 hb => by
            rw [z_iu]
            unfold fX12_once_179 fX12_once_200
            refine t_brk hI h2 F2 rx e4 (fun s t q1 q2 q3 q5 => zp2_ckr ?_)
            rw [show zgi t 3 (25 : Int32).toNatClampNeg = σ.1 36 25 from q5.trans m25]
            have rb : zr 1 64 b := by
              rcases hb with ⟨x1, _⟩ | ⟨x1, _⟩
              · rw [x1]; exact zr_c (by decide)
              · rw [x1]; exact zr_c (by decide)
            have kk : zp2 (if b = 0 then zbi (fX5_carryOn s ) F else F s b) (fX12_once_229 t b) Q := zp2_ifl (fun q => absurd q b0) (fun _ => k s t b q1 q2 q3 rb)
            rcases hb with ⟨x1, x2⟩ | ⟨x1, x2⟩
            · subst x1
              exact zp2_ifr (fun _ => kk) (fun q => absurd x2 q)
            · subst x1
              exact zp2_ifr (fun q => absurd q x2) (fun _ => kk)
          by_cases m2 : σ.1 36 25 = 2
          · have le : 2 ≤ σ.1 36 25 := by rw [m2]; decide
            rw [if_pos m2, if_pos le, z_ia]
            refine zp2_ckr ?_
            have hm : zM2 (zsi (zsi (zsi σ 36 28 0) 36 23 0) 36 24 0) t4 := by rw [e4]; exact h2.1.keep zQ.rf (zQ.wi (zQ.wi zQ.rf rfl) rfl)
            have e21 : zgi t4 3 (21 : Int32).toNatClampNeg = σ.1 36 21 := by
              rw [e4]
              exact h2.eq (j := 21) (by decide)
            rw [e21]
            exact zp2_sm (t_rword hm rfl) (fun x rx => fin x 19 rx (by decide) (Or.inl ⟨rfl, le⟩))
          · have nle : ¬ 2 ≤ σ.1 36 25 := fun q => m2 (Int32.toInt_inj.mp (by have := Int32.le_iff_toInt_le.mp q; have c : (2 : Int32).toInt = 2 := rfl; have := r25.2; omega))
            rw [if_neg m2, if_neg nle]
            exact fin 56 13 (zr_c (by decide)) (by decide) (Or.inr ⟨rfl, nle⟩)
      · have z23 : σ.1 36 23 = 0 := by
          rcases zr_hd (c := 0) r23 rfl with e | r
          · exact e
          rcases zr_hd (c := 1) r rfl with e | r
          · exact absurd e n23
          exact zr_no9 r (by decide)
        exact zp2_ifr (fun q => absurd q n23) (fun _ => car _ (c82 (Or.inr z23)))
  · refine zp2_ifr (fun q => absurd q p) (fun _ => zp2_ckr (zp2_bvr (fun t1 g1 => zp2_ckr ?_)))
    have g1 : t1 = zsi μ 3 27 0 := g1
    subst g1
    have e102 : zp2 (zbi (fX5_answerCalls σ a) (fun σ9 v10 => if v10 = 0 then zbi (fX5_carryOn σ9 ) F else F σ9 v10)) (fX12_once_102 (zsi μ 3 27 0) 0) Q := by
      have ca : zpc (fX5_answerCalls σ a) (fun r => r = (zsi σ 36 28 0, 0)) := by
        unfold fX5_answerCalls fX5_answerCalls_15 fX5_answerCalls_64 fX5_answerCalls_82
        exact zpc_ck (zpc_if (fun q => absurd q p) (fun _ => zpc_ck (zpc_bv (fun s es => zpc_if (fun _ => zpc_if (fun _ => zpc_some (by rw [es]; rfl)) (fun q => absurd rfl q)) (fun q => absurd rfl q)))))
      unfold fX12_once_102
      refine zp2_ckr (zp2_ifr (fun _ => zp2_ifr (fun _ => car _ ca) (fun q => absurd rfl q)) (fun _ => car _ ca))
    exact zp2_ifr (fun _ => zp2_ifr (fun _ => e102) (fun q => absurd rfl q)) (fun _ => e102)
end ZST
end ZJN30
section ZJN31
/-! CELLS THAT BELONG TOGETHER, AROUND THE PROCESSOR -/
/-- class's row, first cell, how many; reference's row, first cell; mask -/
noncomputable def zTb : List (Nat × Nat × Nat × Nat × Nat × Int32) := [(34, 0, 1, 3, 33, (-1)), (34, 1, 5, 3, 37, (-1)), (34, 6, 1, 3, 35, (-1)), (34, 7, 5, 3, 42, (-1)), (23, 0, 17, 3, 47, (-1)), (23, 18, 4, 3, 64, (-1)), (23, 26, 1, 3, 68, (-1)), (23, 32, 64, 8, 0, 255), (21, 0, 16384, 7, 0, 255), (30, 0, 3, 3, 69, (-1)), (30, 9, 5, 3, 78, (-1)), (30, 17, 1, 3, 86, (-1)), (30, 18, 1, 3, 34, (-1)), (32, 0, 64, 3, 98, (-1)), (32, 64, 1, 3, 163, (-1)), (32, 68, 1, 3, 162, (-1)), (40, 0, 8, 3, 90, (-1)), (40, 8, 1, 3, 89, (-1)), (25, 0, 61440, 9, 0, (-1))]
noncomputable def zE (σ μ : zSt) : Prop := ∀ t ∈ zTb, ∀ i : Nat, i < t.2.2.1 → μ.1 t.2.2.2.1 (t.2.2.2.2.1 + i) &&& t.2.2.2.2.2 = σ.1 t.1 (t.2.1 + i)
noncomputable def zDj (s t : Nat × Nat × Nat × Nat × Nat × Int32) : Bool := (Nat.beq s.1 t.1 && (Nat.beq s.2.1 t.2.1 && (Nat.beq s.2.2.1 t.2.2.1 && (Nat.beq s.2.2.2.1 t.2.2.2.1 && (Nat.beq s.2.2.2.2.1 t.2.2.2.2.1 && decide (s.2.2.2.2.2 = t.2.2.2.2.2)))))) || ((!(Nat.beq s.1 t.1) || (Nat.ble (s.2.1 + s.2.2.1) t.2.1 || Nat.ble (t.2.1 + t.2.2.1) s.2.1)) && (!(Nat.beq s.2.2.2.1 t.2.2.2.1) || (Nat.ble (s.2.2.2.2.1 + s.2.2.1) t.2.2.2.2.1 || Nat.ble (t.2.2.2.2.1 + t.2.2.1) s.2.2.2.2.1)))
theorem zTb_dj : (zTb.all (fun s => zTb.all (fun t => zDj s t))) = true := by decide +kernel
theorem zTb_d {s t : Nat × Nat × Nat × Nat × Nat × Int32} (hs : s ∈ zTb) (ht : t ∈ zTb) : s = t ∨ ((¬ s.1 = t.1 ∨ s.2.1 + s.2.2.1 ≤ t.2.1 ∨ t.2.1 + t.2.2.1 ≤ s.2.1) ∧ (¬ s.2.2.2.1 = t.2.2.2.1 ∨ s.2.2.2.2.1 + s.2.2.1 ≤ t.2.2.2.2.1 ∨ t.2.2.2.2.1 + t.2.2.1 ≤ s.2.2.2.2.1)) := by
  have d := zTb_dj
  rw [List.all_eq_true] at d
  have d1 := d s hs
  rw [List.all_eq_true] at d1
  have d2 := d1 t ht
  unfold zDj at d2
  rw [Bool.or_eq_true] at d2
  rcases d2 with q | q
  · left
    rw [Bool.and_eq_true, Bool.and_eq_true, Bool.and_eq_true, Bool.and_eq_true, Bool.and_eq_true] at q
    obtain ⟨q1, q2, q3, q4, q5, q6⟩ := q
    obtain ⟨s1, s2, s3, s4, s5, s6⟩ := s
    obtain ⟨t1, t2, t3, t4, t5, t6⟩ := t
    have e1 : s1 = t1 := Nat.eq_of_beq_eq_true q1
    have e2 : s2 = t2 := Nat.eq_of_beq_eq_true q2
    have e3 : s3 = t3 := Nat.eq_of_beq_eq_true q3
    have e4 : s4 = t4 := Nat.eq_of_beq_eq_true q4
    have e5 : s5 = t5 := Nat.eq_of_beq_eq_true q5
    have e6 : s6 = t6 := of_decide_eq_true q6
    rw [e1, e2, e3, e4, e5, e6]
  · right
    rw [Bool.and_eq_true, Bool.or_eq_true, Bool.or_eq_true, Bool.or_eq_true, Bool.or_eq_true] at q
    obtain ⟨q1, q2⟩ := q
    refine ⟨?_, ?_⟩
    · rcases q1 with x | x | x
      · left
        intro e
        rw [e, Nat.beq_refl] at x
        exact absurd x (by decide)
      · exact Or.inr (Or.inl (Nat.le_of_ble_eq_true x))
      · exact Or.inr (Or.inr (Nat.le_of_ble_eq_true x))
    · rcases q2 with x | x | x
      · left
        intro e
        rw [e, Nat.beq_refl] at x
        exact absurd x (by decide)
      · exact Or.inr (Or.inl (Nat.le_of_ble_eq_true x))
      · exact Or.inr (Or.inr (Nat.le_of_ble_eq_true x))
/-- partners -/
noncomputable def zPn (k j r i : Nat) (m : Int32) : Prop := ∃ t ∈ zTb, t.1 = k ∧ t.2.2.2.1 = r ∧ t.2.2.2.2.2 = m ∧ ∃ d : Nat, d < t.2.2.1 ∧ t.2.1 + d = j ∧ t.2.2.2.2.1 + d = i
theorem zE.at {σ μ : zSt} (h : zE σ μ) {k j r i : Nat} {m : Int32} (p : zPn k j r i m) : μ.1 r i &&& m = σ.1 k j := by
  obtain ⟨t, ht, e1, e2, e3, d, hd, e4, e5⟩ := p
  have q := h t ht d hd
  rw [e1, e2, e3, e4, e5] at q
  exact q
theorem zE.wr {σ μ : zSt} (h : zE σ μ) {k j r i : Nat} {m v w : Int32} (p : zPn k j r i m) (e : w &&& m = v) : zE (zsi σ k j v) (zsi μ r i w) := by
  obtain ⟨t, ht, e1, e2, e3, d, hd, e4, e5⟩ := p
  intro s hs x hx
  rw [zsi_at, zsi_at]
  rcases zTb_d hs ht with q | ⟨q1, q2⟩
  · subst q
    by_cases y : x = d
    · subst y
      rw [if_pos ⟨e2, e5⟩, if_pos ⟨e1, e4⟩, e3]
      exact e
    · rw [if_neg (fun z => y (by have := z.2; omega)), if_neg (fun z => y (by have := z.2; omega))]
      exact h s hs x hx
  · rw [if_neg (fun z => by
      rcases q2 with a | a | a
      · exact a (z.1.trans e2.symm)
      · have := z.2; omega
      · have := z.2; omega), if_neg (fun z => by
      rcases q1 with a | a | a
      · exact a (z.1.trans e1.symm)
      · have := z.2; omega
      · have := z.2; omega)]
    exact h s hs x hx
/-- cells without a partner -/
noncomputable def zNc (k j : Nat) : Bool := zTb.all (fun t => !(Nat.beq t.1 k) || (Nat.blt j t.2.1 || Nat.ble (t.2.1 + t.2.2.1) j))
noncomputable def zNmm (r i : Nat) : Bool := zTb.all (fun t => !(Nat.beq t.2.2.2.1 r) || (Nat.blt i t.2.2.2.2.1 || Nat.ble (t.2.2.2.2.1 + t.2.2.1) i))
theorem zE.wc {σ μ : zSt} (h : zE σ μ) {k j : Nat} {v : Int32} (c : zNc k j = true) : zE (zsi σ k j v) μ := by
  intro s hs x hx
  unfold zNc at c
  rw [List.all_eq_true] at c
  have d := c s hs
  rw [Bool.or_eq_true, Bool.or_eq_true] at d
  rw [zsi_at, if_neg (fun z => ?_)]
  · exact h s hs x hx
  · rcases d with a | a | a
    · rw [z.1, Nat.beq_refl] at a
      exact absurd a (by decide)
    · have := Nat.le_of_ble_eq_true a
      have := z.2
      omega
    · have := Nat.le_of_ble_eq_true a
      have := z.2
      omega
theorem zE.wm {σ μ : zSt} (h : zE σ μ) {r i : Nat} {v : Int32} (c : zNmm r i = true) : zE σ (zsi μ r i v) := by
  intro s hs x hx
  unfold zNmm at c
  rw [List.all_eq_true] at c
  have d := c s hs
  rw [Bool.or_eq_true, Bool.or_eq_true] at d
  rw [zsi_at, if_neg (fun z => ?_)]
  · exact h s hs x hx
  · rcases d with a | a | a
    · rw [z.1, Nat.beq_refl] at a
      exact absurd a (by decide)
    · have := Nat.le_of_ble_eq_true a
      have := z.2
      omega
    · have := Nat.le_of_ble_eq_true a
      have := z.2
      omega
theorem zE.keep {σ μ σ' μ' : zSt} (h : zE σ μ) (c : ∀ t ∈ zTb, ∀ i : Nat, i < t.2.2.1 → σ'.1 t.1 (t.2.1 + i) = σ.1 t.1 (t.2.1 + i)) (d : ∀ t ∈ zTb, ∀ i : Nat, i < t.2.2.1 → μ'.1 t.2.2.2.1 (t.2.2.2.2.1 + i) = μ.1 t.2.2.2.1 (t.2.2.2.2.1 + i)) : zE σ' μ' := fun t ht i hi => by
  rw [c t ht i hi, d t ht i hi]
  exact h t ht i hi
theorem z_pn34_0 {d : Nat} (h : d < 1) : zPn 34 (0 + d) 3 (33 + d) (-1) := ⟨(34, 0, 1, 3, 33, (-1)), by decide +kernel, rfl, rfl, rfl, d, h, rfl, rfl⟩
theorem z_pn34_1 {d : Nat} (h : d < 5) : zPn 34 (1 + d) 3 (37 + d) (-1) := ⟨(34, 1, 5, 3, 37, (-1)), by decide +kernel, rfl, rfl, rfl, d, h, rfl, rfl⟩
theorem z_pn34_6 {d : Nat} (h : d < 1) : zPn 34 (6 + d) 3 (35 + d) (-1) := ⟨(34, 6, 1, 3, 35, (-1)), by decide +kernel, rfl, rfl, rfl, d, h, rfl, rfl⟩
theorem z_pn34_7 {d : Nat} (h : d < 5) : zPn 34 (7 + d) 3 (42 + d) (-1) := ⟨(34, 7, 5, 3, 42, (-1)), by decide +kernel, rfl, rfl, rfl, d, h, rfl, rfl⟩
theorem z_pn23_0 {d : Nat} (h : d < 17) : zPn 23 (0 + d) 3 (47 + d) (-1) := ⟨(23, 0, 17, 3, 47, (-1)), by decide +kernel, rfl, rfl, rfl, d, h, rfl, rfl⟩
theorem z_pn23_18 {d : Nat} (h : d < 4) : zPn 23 (18 + d) 3 (64 + d) (-1) := ⟨(23, 18, 4, 3, 64, (-1)), by decide +kernel, rfl, rfl, rfl, d, h, rfl, rfl⟩
theorem z_pn23_26 {d : Nat} (h : d < 1) : zPn 23 (26 + d) 3 (68 + d) (-1) := ⟨(23, 26, 1, 3, 68, (-1)), by decide +kernel, rfl, rfl, rfl, d, h, rfl, rfl⟩
theorem z_pn23_32 {d : Nat} (h : d < 64) : zPn 23 (32 + d) 8 (0 + d) 255 := ⟨(23, 32, 64, 8, 0, 255), by decide +kernel, rfl, rfl, rfl, d, h, rfl, rfl⟩
theorem z_pn21_0 {d : Nat} (h : d < 16384) : zPn 21 (0 + d) 7 (0 + d) 255 := ⟨(21, 0, 16384, 7, 0, 255), by decide +kernel, rfl, rfl, rfl, d, h, rfl, rfl⟩
theorem z_pn30_0 {d : Nat} (h : d < 3) : zPn 30 (0 + d) 3 (69 + d) (-1) := ⟨(30, 0, 3, 3, 69, (-1)), by decide +kernel, rfl, rfl, rfl, d, h, rfl, rfl⟩
theorem z_pn30_9 {d : Nat} (h : d < 5) : zPn 30 (9 + d) 3 (78 + d) (-1) := ⟨(30, 9, 5, 3, 78, (-1)), by decide +kernel, rfl, rfl, rfl, d, h, rfl, rfl⟩
theorem z_pn30_17 {d : Nat} (h : d < 1) : zPn 30 (17 + d) 3 (86 + d) (-1) := ⟨(30, 17, 1, 3, 86, (-1)), by decide +kernel, rfl, rfl, rfl, d, h, rfl, rfl⟩
theorem z_pn30_18 {d : Nat} (h : d < 1) : zPn 30 (18 + d) 3 (34 + d) (-1) := ⟨(30, 18, 1, 3, 34, (-1)), by decide +kernel, rfl, rfl, rfl, d, h, rfl, rfl⟩
theorem z_pn32_0 {d : Nat} (h : d < 64) : zPn 32 (0 + d) 3 (98 + d) (-1) := ⟨(32, 0, 64, 3, 98, (-1)), by decide +kernel, rfl, rfl, rfl, d, h, rfl, rfl⟩
theorem z_pn32_64 {d : Nat} (h : d < 1) : zPn 32 (64 + d) 3 (163 + d) (-1) := ⟨(32, 64, 1, 3, 163, (-1)), by decide +kernel, rfl, rfl, rfl, d, h, rfl, rfl⟩
theorem z_pn32_68 {d : Nat} (h : d < 1) : zPn 32 (68 + d) 3 (162 + d) (-1) := ⟨(32, 68, 1, 3, 162, (-1)), by decide +kernel, rfl, rfl, rfl, d, h, rfl, rfl⟩
theorem z_pn40_0 {d : Nat} (h : d < 8) : zPn 40 (0 + d) 3 (90 + d) (-1) := ⟨(40, 0, 8, 3, 90, (-1)), by decide +kernel, rfl, rfl, rfl, d, h, rfl, rfl⟩
theorem z_pn40_8 {d : Nat} (h : d < 1) : zPn 40 (8 + d) 3 (89 + d) (-1) := ⟨(40, 8, 1, 3, 89, (-1)), by decide +kernel, rfl, rfl, rfl, d, h, rfl, rfl⟩
theorem z_pn25_0 {d : Nat} (h : d < 61440) : zPn 25 (0 + d) 9 (0 + d) (-1) := ⟨(25, 0, 61440, 9, 0, (-1)), by decide +kernel, rfl, rfl, rfl, d, h, rfl, rfl⟩
end ZJN31
section ZJN32
/-! RANGES OF THE CLASS'S CELLS, BY A TABLE -/
theorem z_an1 (x : Int32) : x &&& (-1) = x := by
  refine Int32.toBitVec_inj.1 ?_
  rw [Int32.toBitVec_and]
  exact BitVec.and_allOnes
noncomputable def zGt : List (Nat × Nat × Nat × Int × Int) := [(23, 0, 11, 0, 255), (23, 11, 1, 0, 16383), (23, 12, 1, 0, 3), (23, 13, 1, 0, 255), (23, 14, 1, 0, 1), (23, 15, 1, 0, 255), (23, 16, 1, 0, 1), (23, 18, 1, -1, 255), (23, 19, 1, 0, 255), (23, 20, 1, 0, 312), (23, 21, 1, 0, 227), (23, 26, 1, 0, 255), (34, 0, 7, 0, 255), (34, 7, 2, 0, 63), (34, 9, 3, 0, 1), (30, 0, 3, 0, 1023), (30, 9, 4, 0, 15), (30, 13, 1, 0, 7), (30, 17, 1, 0, 7), (30, 18, 1, 0, 255), (32, 0, 64, 0, 255), (32, 64, 1, 0, 3), (32, 68, 1, 0, 63), (40, 8, 1, 0, 8)]
noncomputable def zGf (k j : Nat) : List (Nat × Nat × Nat × Int × Int) → Option (Int × Int)
  | [] => none
  | t :: l => bif (Nat.beq t.1 k && (Nat.ble t.2.1 j && Nat.blt j (t.2.1 + t.2.2.1))) then some t.2.2.2 else zGf k j l
noncomputable def zGo (k j : Nat) (v : Int32) : Prop := ∀ a b : Int, zGf k j zGt = some (a, b) → zr a b v
noncomputable def zG (σ : zSt) : Prop := ∀ k j : Nat, zGo k j (σ.1 k j)
theorem zGo.n {k j : Nat} {v : Int32} (e : zGf k j zGt = none) : zGo k j v := fun a b q => by
  rw [e] at q
  cases q
theorem zGo.r {k j : Nat} {a b : Int} {v : Int32} (e : zGf k j zGt = some (a, b)) (h : zr a b v) : zGo k j v := fun c d q => by
  rw [e] at q
  cases q
  exact h
theorem zG.at {σ : zSt} (h : zG σ) {k j : Nat} {a b : Int} (e : zGf k j zGt = some (a, b)) : zr a b (σ.1 k j) := h k j a b e
theorem zG.w {σ : zSt} (h : zG σ) {k j : Nat} {v : Int32} (g : zGo k j v) : zG (zsi σ k j v) := fun x y => by
  rw [zsi_at]
  by_cases q : x = k ∧ y = j
  · rw [if_pos q, q.1, q.2]
    exact g
  · rw [if_neg q]
    exact h x y
theorem zg_23r : ∀ j : Fin 11, zGf 23 j.val zGt = some (0, 255) := by decide +kernel
theorem zg_23c : ∀ j : Fin 64, zGf 23 (32 + j.val) zGt = none := by decide +kernel
theorem zg_34 : ∀ j : Fin 7, zGf 34 j.val zGt = some (0, 255) := by decide +kernel
theorem zg_32 : ∀ j : Fin 64, zGf 32 j.val zGt = some (0, 255) := by decide +kernel
theorem zg_30a : ∀ j : Fin 3, zGf 30 j.val zGt = some (0, 1023) := by decide +kernel
theorem zg_30b : ∀ j : Fin 4, zGf 30 (9 + j.val) zGt = some (0, 15) := by decide +kernel
/-! THE RELATION AROUND THE PROCESSOR -/
noncomputable def zFr (k j : Nat) : Bool := !(Nat.beq k 0 || (Nat.beq k 2 || (Nat.beq k 3 || Nat.beq k 6))) && !(Nat.beq k 23 && Nat.beq j 20)
noncomputable def zLn (σ : zSt) : Prop := (σ.1 23 20).toInt < (σ.1 2 1).toInt
noncomputable def zVe (σ μ : zSt) : Prop := zE σ μ ∧ zG σ ∧ zRk σ μ ∧ zLn σ
theorem zTb_r : (zTb.all (fun t => !(Nat.beq t.2.2.2.1 0))) = true := by decide +kernel
theorem zPn.r0 {k j r i : Nat} {m : Int32} (p : zPn k j r i m) : ¬ r = 0 := fun q => by
  obtain ⟨t, ht, e1, e2, e3, d, hd, e4, e5⟩ := p
  have a := zTb_r
  rw [List.all_eq_true] at a
  have b := a t ht
  rw [e2, q] at b
  exact absurd b (by decide)
theorem zTb_n : (zTb.all (fun t => !(Nat.beq t.1 30 && (Nat.ble t.2.1 16 && Nat.blt 16 (t.2.1 + t.2.2.1))) && !(Nat.beq t.2.2.2.1 3 && (Nat.ble t.2.2.2.2.1 85 && Nat.blt 85 (t.2.2.2.2.1 + t.2.2.1))))) = true := by decide +kernel
theorem zPn.nz {k j r i : Nat} {m : Int32} (p : zPn k j r i m) : ¬ (30 = k ∧ 16 = j) ∧ ¬ (3 = r ∧ 85 = i) := by
  obtain ⟨t, ht, e1, e2, e3, d, hd, e4, e5⟩ := p
  have a := zTb_n
  rw [List.all_eq_true] at a
  have b := a t ht
  rw [Bool.and_eq_true, Bool.not_eq_true', Bool.not_eq_true'] at b
  obtain ⟨b1, b2⟩ := b
  refine ⟨fun q => ?_, fun q => ?_⟩
  · have c : (Nat.beq t.1 30 && (Nat.ble t.2.1 16 && Nat.blt 16 (t.2.1 + t.2.2.1))) = true := by
      rw [Bool.and_eq_true, Bool.and_eq_true]
      exact ⟨by rw [e1, ← q.1]; rfl, Nat.ble_eq.mpr (by have := q.2; omega), Nat.ble_eq.mpr (by have := q.2; omega)⟩
    rw [c] at b1
    cases b1
  · have c : (Nat.beq t.2.2.2.1 3 && (Nat.ble t.2.2.2.2.1 85 && Nat.blt 85 (t.2.2.2.2.1 + t.2.2.1))) = true := by
      rw [Bool.and_eq_true, Bool.and_eq_true]
      exact ⟨by rw [e2, ← q.1]; rfl, Nat.ble_eq.mpr (by have := q.2; omega), Nat.ble_eq.mpr (by have := q.2; omega)⟩
    rw [c] at b2
    cases b2
section ZVP
variable {σ μ s t : zSt}
theorem zsi_no {ν : zSt} {k j k1 j1 : Nat} {v : Int32} (h : ¬ k1 = k) : (zsi ν k j v).1 k1 j1 = ν.1 k1 j1 := by rw [zsi_ne h]
theorem zE.e (h : zE σ μ) {k j r i : Nat} (p : zPn k j r i (-1)) : μ.1 r i = σ.1 k j := by
  have q := h.at p
  rw [z_an1] at q
  exact q
theorem zVe.of (h : zVe σ μ) (a : zE s t) (b : zG s) (c : s.1 0 0 = σ.1 0 0 ∧ s.1 2 0 = σ.1 2 0 ∧ s.1 3 1 = σ.1 3 1 ∧ s.1 6 0 = σ.1 6 0 ∧ s.1 2 1 = σ.1 2 1) (d : t.1 0 3 = μ.1 0 3) (e : s.1 23 20 = σ.1 23 20) : zVe s t := by
  obtain ⟨c1, c2, c3, c4, c5⟩ := c
  refine ⟨a, b, ?_, ?_⟩
  · unfold zRk
    rw [c1, c2, c3, c4, c5, d]
    exact h.2.2.1
  · unfold zLn
    rw [e, c5]
    exact h.2.2.2
theorem zVe.w (h : zVe σ μ) {k j r i : Nat} {m v w : Int32} (p : zPn k j r i m) (f : zFr k j = true) (g : zGo k j v) (e : w &&& m = v) : zVe (zsi σ k j v) (zsi μ r i w) := by
  unfold zFr at f
  rw [Bool.and_eq_true, Bool.not_eq_true', Bool.not_eq_true', Bool.or_eq_false_iff, Bool.or_eq_false_iff, Bool.or_eq_false_iff] at f
  obtain ⟨⟨f0, f2, f3, f6⟩, f4⟩ := f
  have n0 : ¬ 0 = k := fun q => by rw [← q] at f0; exact absurd f0 (by decide)
  have n2 : ¬ 2 = k := fun q => by rw [← q] at f2; exact absurd f2 (by decide)
  have n3 : ¬ 3 = k := fun q => by rw [← q] at f3; exact absurd f3 (by decide)
  have n6 : ¬ 6 = k := fun q => by rw [← q] at f6; exact absurd f6 (by decide)
  refine h.of (h.1.wr p e) (h.2.1.w g) ⟨?_, ?_, ?_, ?_, ?_⟩ ?_ ?_
  · rw [zsi_ne n0]
  · rw [zsi_ne n2]
  · rw [zsi_ne n3]
  · rw [zsi_ne n6]
  · rw [zsi_ne n2]
  · rw [zsi_ne (fun q => p.r0 q.symm)]
  · rw [zsi_at, if_neg]
    intro q
    rw [← q.1, ← q.2] at f4
    exact absurd f4 (by decide)
/-- what the ports may touch -/
noncomputable def zFC (σ s : zSt) : Prop := zQ [21, 23, 34] [(30, 0, 2), (30, 9, 13), (30, 16, 18), (32, 0, 64), (32, 68, 68)] [] [] σ s
noncomputable def zFM (μ t : zSt) : Prop := zQ [7, 8] [(3, 33, 65), (3, 68, 71), (3, 78, 82), (3, 85, 86), (3, 98, 163)] [] [] μ t
/-- the noise's row: left alone or set anew on both sides -/
noncomputable def zNz (σ μ s t : zSt) : Prop := (s.1 30 16 = σ.1 30 16 ∧ t.1 3 85 = μ.1 3 85) ∨ (s.1 30 16 = 32768 ∧ t.1 3 85 = 32768)
noncomputable def zPo (σ μ s t : zSt) : Prop := zVe s t ∧ zFC σ s ∧ zFM μ t ∧ zNz σ μ s t
theorem zPo.rf (h : zVe σ μ) : zPo σ μ σ μ := ⟨h, zQ.rf, zQ.rf, Or.inl ⟨rfl, rfl⟩⟩
theorem zPo.tr {s' t' : zSt} (h : zPo σ μ s t) (k : zPo s t s' t') : zPo σ μ s' t' := by
  refine ⟨k.1, zQ.tr h.2.1 k.2.1, zQ.tr h.2.2.1 k.2.2.1, ?_⟩
  rcases k.2.2.2 with ⟨a, b⟩ | q
  · rcases h.2.2.2 with ⟨c, d⟩ | ⟨c, d⟩
    · exact Or.inl ⟨a.trans c, b.trans d⟩
    · exact Or.inr ⟨a.trans c, b.trans d⟩
  · exact Or.inr q
theorem zPo.w (h : zPo σ μ s t) {k j r i : Nat} {m v w : Int32} (p : zPn k j r i m) (f : zFr k j = true) (g : zGo k j v) (e : w &&& m = v) (c : zcv [21, 23, 34] [(30, 0, 2), (30, 9, 13), (30, 16, 18), (32, 0, 64), (32, 68, 68)] k j = true) (d : zcv [7, 8] [(3, 33, 65), (3, 68, 71), (3, 78, 82), (3, 85, 86), (3, 98, 163)] r i = true) : zPo σ μ (zsi s k j v) (zsi t r i w) := by
  refine ⟨h.1.w p f g e, zQ.wi h.2.1 c, zQ.wi h.2.2.1 d, ?_⟩
  unfold zNz
  rw [zsi_at, zsi_at, if_neg p.nz.1, if_neg p.nz.2]
  exact h.2.2.2
theorem zPo.w1 (h : zPo σ μ s t) {k j r i : Nat} {v w : Int32} (p : zPn k j r i (-1)) (f : zFr k j = true) (g : zGo k j v) (e : w = v) (c : zcv [21, 23, 34] [(30, 0, 2), (30, 9, 13), (30, 16, 18), (32, 0, 64), (32, 68, 68)] k j = true) (d : zcv [7, 8] [(3, 33, 65), (3, 68, 71), (3, 78, 82), (3, 85, 86), (3, 98, 163)] r i = true) : zPo σ μ (zsi s k j v) (zsi t r i w) := h.w p f g (by rw [z_an1]; exact e) c d
theorem zPo.nz (h : zPo σ μ s t) : zPo σ μ (zsi s 30 16 32768) (zsi t 3 85 32768) := by
  refine ⟨h.1.of ((h.1.1.wc (by decide +kernel)).wm (by decide +kernel)) (h.1.2.1.w (zGo.n rfl)) ⟨zsi_no (by decide), zsi_no (by decide), zsi_no (by decide), zsi_no (by decide), zsi_no (by decide)⟩ (zsi_no (by decide)) (zsi_no (by decide)), zQ.wi h.2.1 rfl, zQ.wi h.2.2.1 rfl, Or.inr ⟨zsi_ej, zsi_ej⟩⟩
theorem zcv_m {R : List Nat} {A : List (Nat × Nat × Nat)} {k j a b : Nat} (m : (k, a, b) ∈ A) (h1 : a ≤ j) (h2 : j ≤ b) : zcv R A k j = true := by
  unfold zcv
  rw [Bool.or_eq_true]
  right
  rw [List.any_eq_true]
  exact ⟨(k, a, b), m, by rw [Bool.and_eq_true, Bool.and_eq_true]; exact ⟨Nat.beq_refl k, Nat.ble_eq.mpr h1, Nat.ble_eq.mpr h2⟩⟩
theorem zPo.v11 (h : zPo σ μ s t) {v w : Int32} (r : zr 0 16383 v) (e : w = v) : zPo σ μ (zsi s 23 11 v) (zsi t 3 58 w) := h.w1 (z_pn23_0 (d := 11) (by decide)) rfl (zGo.r rfl r) e rfl rfl
theorem zPo.v12 (h : zPo σ μ s t) {v w : Int32} (r : zr 0 3 v) (e : w = v) : zPo σ μ (zsi s 23 12 v) (zsi t 3 59 w) := h.w1 (z_pn23_0 (d := 12) (by decide)) rfl (zGo.r rfl r) e rfl rfl
theorem zPo.v13 (h : zPo σ μ s t) {v w : Int32} (r : zr 0 255 v) (e : w = v) : zPo σ μ (zsi s 23 13 v) (zsi t 3 60 w) := h.w1 (z_pn23_0 (d := 13) (by decide)) rfl (zGo.r rfl r) e rfl rfl
theorem zPo.v14 (h : zPo σ μ s t) {v w : Int32} (r : zr 0 1 v) (e : w = v) : zPo σ μ (zsi s 23 14 v) (zsi t 3 61 w) := h.w1 (z_pn23_0 (d := 14) (by decide)) rfl (zGo.r rfl r) e rfl rfl
theorem zPo.v15 (h : zPo σ μ s t) {v w : Int32} (r : zr 0 255 v) (e : w = v) : zPo σ μ (zsi s 23 15 v) (zsi t 3 62 w) := h.w1 (z_pn23_0 (d := 15) (by decide)) rfl (zGo.r rfl r) e rfl rfl
theorem zPo.v16 (h : zPo σ μ s t) {v w : Int32} (r : zr 0 1 v) (e : w = v) : zPo σ μ (zsi s 23 16 v) (zsi t 3 63 w) := h.w1 (z_pn23_0 (d := 16) (by decide)) rfl (zGo.r rfl r) e rfl rfl
theorem zVe.e11 (h : zVe σ μ) : μ.1 3 58 = σ.1 23 11 := h.1.e (z_pn23_0 (d := 11) (by decide))
theorem zVe.e12 (h : zVe σ μ) : μ.1 3 59 = σ.1 23 12 := h.1.e (z_pn23_0 (d := 12) (by decide))
theorem zVe.e13 (h : zVe σ μ) : μ.1 3 60 = σ.1 23 13 := h.1.e (z_pn23_0 (d := 13) (by decide))
theorem zVe.e14 (h : zVe σ μ) : μ.1 3 61 = σ.1 23 14 := h.1.e (z_pn23_0 (d := 14) (by decide))
theorem zVe.e15 (h : zVe σ μ) : μ.1 3 62 = σ.1 23 15 := h.1.e (z_pn23_0 (d := 15) (by decide))
theorem zVe.e16 (h : zVe σ μ) : μ.1 3 63 = σ.1 23 16 := h.1.e (z_pn23_0 (d := 16) (by decide))
theorem t_status (h : zVe σ μ) : zp2 (fX9_readStatus σ ) (fX12_status μ ) (fun r r' => zPo σ μ r.1 r'.1 ∧ r'.2 = r.2 ∧ zr 0 255 r.2) := by
  unfold fX9_readStatus fX12_status
  refine zp2_ckl (zp2_bvl (fun v ev => zp2_ckl (zp2_bvl (fun s1 f1 => zp2_ckl (zp2_bvl (fun s2 f2 => zp2_ckl (zp2_bvl (fun s3 f3 => ?_))))))))
  refine zp2_ckr (zp2_bvr (fun v' ev' => zp2_ckr (zp2_bvr (fun t1 g1 => zp2_ckr (zp2_bvr (fun t2 g2 => zp2_ckr (zp2_bvr (fun t3 g3 => zp2_some ?_))))))))
  have ev : v = σ.1 23 15 := ev
  have ev' : v' = μ.1 3 62 := ev'
  have z0 : zr 0 1 (0 : Int32) := zr_c (by decide)
  have z1 : zr 0 255 (0 : Int32) := zr_c (by decide)
  subst f3
  subst f2
  subst f1
  subst g3
  subst g2
  subst g1
  refine ⟨(((zPo.rf h).v14 z0 rfl).v15 z1 rfl).v16 z0 rfl, ?_, ?_⟩
  · show v' = v
    rw [ev, ev', h.e15]
  · show zr 0 255 v
    rw [ev]
    exact h.2.1.at (k := 23) (j := 15) rfl
theorem z_vr (h : zE σ μ) {j : Nat} (hj : j < 16384) : μ.1 7 j &&& 255 = σ.1 21 j := by
  have q := h.at (z_pn21_0 (d := j) hj)
  rw [Nat.zero_add] at q
  exact q
theorem z_r14 (x : Int32) : zr 0 16383 (x &&& 16383) := zr_andr (lo := 0) (hi := 16383) (zr_c (lo := 16383) (hi := 16383) (by decide)) (by decide)
theorem z_m14 {v : Int32} (h : zr 0 16383 v) : v &&& 16383 = v := Int32.toInt_inj.mp (by rw [z_mask (k := 14) h.1 rfl (by decide)]; have := h.1; have := h.2; show v.toInt % 16384 = _; omega)
/-- one byte ahead -/
theorem t_ahead (h : zVe σ μ) {α β : Type} {Q : α → β → Prop} {f : zSt → Option α} {g : zSt → Option β} (k : ∀ s t, zPo σ μ s t → zp2 (f s) (g t) Q) : zp2 (zbu (fX9_readAhead σ ) f) (zck (zin 58 1048) (zbi (fX12_video8 μ (zgi μ 3 (58 : Int32).toNatClampNeg)) (fun σ3 v4 => zck (zin 60 1048) (zbv (zsi σ3 3 ((60 : Int32).toNatClampNeg) v4) (fun σ5 => zbu (fX12_further σ5 ) g))))) Q := by
  have e11 : μ.1 3 58 = σ.1 23 11 := h.e11
  have r14 := z_r14 (σ.1 23 11)
  have hj : (σ.1 23 11 &&& 16383).toNatClampNeg < 16384 := by
    have := z_clamp r14.1
    have := r14.2
    omega
  have cC : zpc (fX9_readAhead σ ) (fun r => r = zsi (zsi σ 23 13 (σ.1 21 (σ.1 23 11 &&& 16383).toNatClampNeg)) 23 11 ((σ.1 23 11 + 1) &&& 16383)) := by
    unfold fX9_readAhead
    exact zpc_ck (zpc_ck (zpc_ck (zpc_bv (fun s1 f1 => zpc_ck (zpc_ck (zpc_bv (fun s2 f2 => zpc_some (by rw [f2, f1]; rfl))))))))
  refine zp2_bul cC (fun s es => zp2_ckr ?_)
  rw [show zgi μ 3 (58 : Int32).toNatClampNeg = σ.1 23 11 from e11]
  unfold fX12_video8 fX12_further
  refine zp2_bir (P := fun r => r = (μ, σ.1 21 (σ.1 23 11 &&& 16383).toNatClampNeg)) (zpc_ck (zpc_some (by rw [← z_vr h.1 hj]; rfl))) (fun t0 v0 e0 => ?_)
  cases e0
  refine zp2_ckr (zp2_bvr (fun t1 g1 => zp2_bur (P := fun r => r = zsi t1 3 58 ((σ.1 23 11 + 1) &&& 16383)) (zpc_ck (zpc_ck (zpc_bv (fun t2 g2 => zpc_some ?_)))) (fun t2 e2 => ?_)))
  · rw [g2]
    have e : zgi t1 3 (58 : Int32).toNatClampNeg = σ.1 23 11 := by rw [g1]; exact e11
    rw [e]
    rfl
  · have g1 : t1 = zsi μ 3 60 (σ.1 21 (σ.1 23 11 &&& 16383).toNatClampNeg) := g1
    subst e2
    subst g1
    subst es
    refine k _ _ (((zPo.rf h).v13 ?_ rfl).v11 (z_r14 _) rfl)
    rw [← z_vr h.1 hj]
    exact z_r8 _
theorem t_data (h : zVe σ μ) : zp2 (fX9_readData σ ) (fX12_data μ ) (fun r r' => zPo σ μ r.1 r'.1 ∧ r'.2 = r.2 ∧ zr 0 255 r.2) := by
  unfold fX9_readData fX12_data
  refine zp2_ckl (zp2_bvl (fun v ev => zp2_ckl (zp2_bvl (fun s1 f1 => zp2_ckr (zp2_bvr (fun v' ev' => zp2_ckr (zp2_bvr (fun t1 g1 => ?_))))))))
  have ev : v = σ.1 23 13 := ev
  have ev' : v' = σ.1 23 13 := ev'.trans h.e13
  have f1 : s1 = zsi σ 23 14 0 := f1
  have g1 : t1 = zsi μ 3 61 0 := g1
  subst f1
  subst g1
  have h1 : zPo σ μ (zsi σ 23 14 0) (zsi μ 3 61 0) := (zPo.rf h).v14 (zr_c (by decide)) rfl
  refine t_ahead h1.1 (fun s t q => zp2_some ⟨h1.tr q, ?_, ?_⟩)
  · show v' = v
    rw [ev, ev']
  · show zr 0 255 v
    rw [ev]
    exact h.2.1.at (k := 23) (j := 13) rfl
end ZVP
end ZJN32
section ZJN33
/-! THE CONTROL PORT -/
section ZVC
variable {σ μ s t : zSt}
theorem z_nbeq {a b : Nat} (h : ¬ a = b) : Nat.beq a b = false := by
  cases q : Nat.beq a b with
  | true => exact absurd (Nat.eq_of_beq_eq_true q) h
  | false => rfl
theorem v_x16 : ∀ i : Fin 256, zrem (Int32.ofNat i.val) 16 = Int32.ofNat i.val &&& 15 := by decide +kernel
theorem zPo.vj (h : zPo σ μ s t) {d : Nat} {v w : Int32} (hd : d ≤ 10) (r : zr 0 255 v) (e : w = v) : zPo σ μ (zsi s 23 d v) (zsi t 3 (47 + d) w) := by
  have p := z_pn23_0 (d := d) (by omega)
  rw [Nat.zero_add] at p
  refine h.w1 p ?_ (zGo.r (zg_23r ⟨d, by omega⟩) r) e rfl (zcv_m (a := 33) (b := 65) (by decide) (by omega) (by omega))
  show (true && !(true && Nat.beq d 20)) = true
  rw [show Nat.beq d 20 = false from z_nbeq (by omega)]
  rfl
theorem t_ctl (h : zVe σ μ) {x : Int32} (hx : zr 0 255 x) : zp2 (fX9_writeControl σ x) (fX12_control μ x) (zPo σ μ) := by
  have e14 : zgi μ 3 (61 : Int32).toNatClampNeg = zgi σ 23 (14 : Int32).toNatClampNeg := h.e14
  have e11 : ∀ s t : zSt, zVe s t → zgi t 3 (58 : Int32).toNatClampNeg = zgi s 23 (11 : Int32).toNatClampNeg := fun s t q => q.e11
  have e12 : ∀ s t : zSt, zVe s t → zgi t 3 (59 : Int32).toNatClampNeg = zgi s 23 (12 : Int32).toNatClampNeg := fun s t q => q.e12
  unfold fX9_writeControl fX12_control
  refine zp2_ckl (zp2_ckr ?_)
  rw [e14]
  refine zp2_if (fun _ => ?_) (fun _ => ?_)
  · refine zp2_ckl (zp2_ckl (zp2_bvl (fun s1 f1 => zp2_ckl (zp2_bvl (fun s2 f2 => zp2_ckr (zp2_ckr (zp2_bvr (fun t1 g1 => zp2_ckr (zp2_bvr (fun t2 g2 => zp2_some ?_))))))))))
    rw [e11 _ _ h] at g1
    rw [f2, g2, f1, g1]
    exact ((zPo.rf h).v11 (zr_or (lo := 0) (hi := 16383) 14 (zr_andr (lo := 0) (hi := 16128) (zr_c (lo := 16128) (hi := 16128) (by decide)) (by decide)) hx (by decide)) rfl).v14 (zr_c (by decide)) rfl
  · refine zp2_ckl (zp2_bvl (fun s1 f1 => zp2_ckl (zp2_ckl (zp2_bvl (fun s2 f2 => zp2_ckl (zp2_bvl (fun s3 f3 => zp2_ckl ?_)))))))
    refine zp2_ckr (zp2_bvr (fun t1 g1 => zp2_ckr (zp2_ckr (zp2_bvr (fun t2 g2 => zp2_ckr (zp2_bvr (fun t3 g3 => zp2_ckr ?_)))))))
    have h1 : zPo σ μ s1 t1 := by
      rw [f1, g1]
      exact (zPo.rf h).v14 (zr_c (by decide)) rfl
    rw [e11 _ _ h1.1] at g2
    have h2 : zPo σ μ s2 t2 := by
      rw [f2, g2]
      exact h1.v11 (zr_or (lo := 0) (hi := 16383) 14 (zr_shl (lo := 0) (hi := 16128) 8 (by decide) (zr_andr (lo := 0) (hi := 63) (zr_c (lo := 63) (hi := 63) (by decide)) (by decide)) (by decide)) (zr_andr (lo := 0) (hi := 255) (zr_c (lo := 255) (hi := 255) (by decide)) (by decide)) (by decide)) rfl
    have h3 : zPo σ μ s3 t3 := by
      rw [f3, g3]
      exact h2.v12 (z_dec hx).1 rfl
    unfold fX9_writeControl_141 fX12_control_162
    rw [e12 _ _ h3.1]
    refine zp2_if (fun _ => ?_) (fun _ => zp2_ckl (zp2_ckr (zp2_if (fun _ => zp2_ckr ?_) (fun _ => zp2_some h3))))
    · exact t_ahead h3.1 (fun s t q => zp2_some (h3.tr q))
    · have ex : zrem x 16 = x &&& 15 := by
        obtain ⟨i, e⟩ := z_byteF hx
        subst e
        exact v_x16 i
      rw [ex]
      have r15 : zr 0 15 (x &&& 15) := zr_andr (lo := 0) (hi := 15) (zr_c (lo := 15) (hi := 15) (by decide)) (by decide)
      by_cases q : 10 < x &&& 15
      · have q2 : 11 ≤ x &&& 15 := Int32.le_iff_toInt_le.mpr (by have := Int32.lt_iff_toInt_lt.mp q; have c : (10 : Int32).toInt = 10 := rfl; have d : (11 : Int32).toInt = 11 := rfl; omega)
        exact zp2_ifl (fun _ => zp2_ifr (fun _ => zp2_some h3) (fun r => absurd q2 r)) (fun r => absurd q r)
      · have q1 := Int32.le_iff_toInt_le.mp (z_nlt q)
        have c10 : (10 : Int32).toInt = 10 := rfl
        have c11 : (11 : Int32).toInt = 11 := rfl
        have q2 : ¬ 11 ≤ x &&& 15 := fun r => by have := Int32.le_iff_toInt_le.mp r; omega
        refine zp2_ifl (fun r => absurd r q) (fun _ => zp2_ifr (fun r => absurd r q2) (fun _ => ?_))
        refine zp2_ckl (zp2_ckl (zp2_bvl (fun s4 f4 => zp2_ckr (zp2_ckr (zp2_ckr (zp2_bvr (fun t4 g4 => zp2_some ?_)))))))
        have kj := z_clamp r15.1
        have hj : (x &&& 15).toNatClampNeg ≤ 10 := by omega
        rw [e11 _ _ h3.1, z_off r15 (k := 47) rfl (by decide)] at g4
        rw [f4, g4]
        exact h3.vj hj (z_r8 _) rfl
end ZVC
end ZJN33
section ZJN34
/-! THE DATA PORT, WRITING -/
section ZVW
variable {σ μ s t : zSt}
theorem z_nby {x : Int32} (h : zr 0 255 x) : (vp_nar .byte (x.toInt8.toInt32)) &&& 255 = x := by
  rw [z_nar, z_i8]
  exact z_m255 h
theorem z_remm (k : Nat) {v c m : Int32} {b : Int} (h : zr 0 b v) (hc : c.toInt = ((2 ^ k : Nat) : Int)) (hm : m.toBitVec.toNat = 2 ^ k - 1) (hk : k < 31) (h0 : (0 : Int) < ((2 ^ k : Nat) : Int)) : zrem v c = v &&& m := Int32.toInt_inj.mp (by
  rw [z_trem _ hc h ⟨by decide, h0⟩, z_mask h.1 hm hk])
theorem zPo.vr (h : zPo σ μ s t) {j : Nat} {x w : Int32} (hj : j < 16384) (e : w &&& 255 = x) : zPo σ μ (zsi s 21 j x) (zsi t 7 j w) := by
  have p := z_pn21_0 (d := j) hj
  rw [Nat.zero_add] at p
  exact h.w p rfl (zGo.n rfl) e rfl rfl
theorem zPo.vc (h : zPo σ μ s t) {j : Nat} {x w : Int32} (hj : j < 64) (e : w &&& 255 = x) : zPo σ μ (zsi s 23 (32 + j) x) (zsi t 8 j w) := by
  have p := z_pn23_32 (d := j) hj
  rw [Nat.zero_add] at p
  refine h.w p ?_ (zGo.n (zg_23c ⟨j, hj⟩)) e rfl rfl
  show (true && !(true && Nat.beq (32 + j) 20)) = true
  rw [show Nat.beq (32 + j) 20 = false from z_nbeq (by omega)]
  rfl
theorem zPo.v26 (h : zPo σ μ s t) {v w : Int32} (r : zr 0 255 v) (e : w = v) : zPo σ μ (zsi s 23 26 v) (zsi t 3 68 w) := h.w1 (z_pn23_26 (d := 0) (by decide)) rfl (zGo.r rfl r) e rfl rfl
theorem zVe.e26 (h : zVe σ μ) : μ.1 3 68 = σ.1 23 26 := h.1.e (z_pn23_26 (d := 0) (by decide))
theorem zRk.two (h : zRk σ μ) : (σ.1 2 0 = 0 ∧ σ.1 6 0 = 0 ∧ ¬ μ.1 0 3 = 2) ∨ (¬ σ.1 2 0 = 0 ∧ ¬ σ.1 6 0 = 0 ∧ μ.1 0 3 = 2) := by
  obtain ⟨k0, k1, k2, k3, k4, k5⟩ := h
  by_cases q : μ.1 0 3 = 2
  · rw [if_pos q] at k2 k4
    right
    rw [k2, k4]
    exact ⟨by decide, by decide, q⟩
  · rw [if_neg q] at k2 k4
    left
    exact ⟨k2, k4, q⟩
/-- colours of two bytes: where they lie -/
theorem z_od {v : Int32} (h : zr 0 16383 v) (od : ¬ v &&& 1 = 0) : ∃ j : Nat, j < 63 ∧ (32 + (v &&& 62)).toNatClampNeg = 32 + j ∧ (32 + (v &&& 63)).toNatClampNeg = 32 + (j + 1) ∧ (zrem v 64).toNatClampNeg = j + 1 ∧ (zrem v 64 - 1).toNatClampNeg = j := by
  have er : zrem v 64 = v &&& 63 := z_remm 6 h rfl rfl (by decide) (by decide)
  have r63 : zr 0 63 (v &&& 63) := zr_andr (lo := 0) (hi := 63) (zr_c (lo := 63) (hi := 63) (by decide)) (by decide)
  have key : ∀ i : Fin 64, ¬ Int32.ofNat i.val &&& 1 = 0 → (Int32.ofNat i.val &&& 62).toNatClampNeg + 1 = i.val ∧ (32 + (Int32.ofNat i.val &&& 62)).toNatClampNeg = 32 + (i.val - 1) ∧ (32 + Int32.ofNat i.val).toNatClampNeg = 32 + i.val ∧ (Int32.ofNat i.val).toNatClampNeg = i.val ∧ (Int32.ofNat i.val - 1).toNatClampNeg = i.val - 1 ∧ 1 ≤ i.val := by decide +kernel
  obtain ⟨i, hi⟩ : ∃ i : Nat, (v &&& 63).toInt = i := ⟨(v &&& 63).toInt.toNat, by have := r63.1; omega⟩
  have hi64 : i < 64 := by have := r63.2; omega
  have ei : v &&& 63 = Int32.ofNat i := z_ofN hi
  have a1 : (v &&& 63) &&& 1 = v &&& 1 := by rw [Int32.and_assoc]; rfl
  have a62 : (v &&& 63) &&& 62 = v &&& 62 := by rw [Int32.and_assoc]; rfl
  have k := key ⟨i, hi64⟩
  rw [← ei, a1, a62] at k
  obtain ⟨k1, k2, k3, k4, k5, k6⟩ := k od
  have k6 : 1 ≤ i := k6
  refine ⟨i - 1, ?_, k2, ?_, ?_, ?_⟩
  · show i - 1 < 63; omega
  · rw [k3]; show 32 + i = _; omega
  · rw [er, k4]; show i = _; omega
  · rw [er]; exact k5
theorem t_wdat (h : zVe σ μ) {x : Int32} (hx : zr 0 255 x) : zp2 (fX9_writeData σ x) (fX12_dataTo μ x) (zPo σ μ) := by
  have hk := h.2.2.1.two
  have g11 : zr 0 16383 (σ.1 23 11) := h.2.1.at (k := 23) (j := 11) rfl
  have e11 : μ.1 3 58 = σ.1 23 11 := h.e11
  have e12 : μ.1 3 59 = σ.1 23 12 := h.e12
  unfold fX9_writeData fX12_dataTo
  refine zp2_ckl (zp2_bvl (fun v1 ev1 => zp2_ckl (zp2_bvl (fun s2 f2 => zp2_ckl (zp2_bvl (fun s3 f3 => zp2_ckl (zp2_bvl (fun s4 f4 => zp2_ckl ?_))))))))
  have ev1 : v1 = σ.1 23 11 := ev1.trans (z_m14 g11)
  subst ev1
  refine zp2_ckr (zp2_bvr (fun t2 k2 => zp2_ckr (zp2_bvr (fun t3 k3 => zp2_ckr (zp2_bvr (fun v4 ev4 => zp2_ckr ?_))))))
  have k2 : t2 = zsi μ 3 61 0 := k2
  have k3 : t3 = zsi t2 3 60 x := k3
  have f2 : s2 = zsi σ 23 14 0 := f2
  have f3 : s3 = zsi s2 23 13 x := f3
  have f4 : s4 = zsi s3 23 11 ((σ.1 23 11 + 1) &&& 16383) := f4
  have ev4 : v4 = σ.1 23 11 := by rw [ev4, k3, k2]; exact e11
  subst ev4
  have h3 : zPo σ μ s3 t3 := by
    rw [f3, k3, f2, k2]
    exact ((zPo.rf h).v14 (zr_c (by decide)) rfl).v13 hx rfl
  have a12 : zgi t3 3 (59 : Int32).toNatClampNeg = zgi s4 23 (12 : Int32).toNatClampNeg := by rw [f4, f3, f2, k3, k2]; exact e12
  have a03 : zgi t3 0 3 = μ.1 0 3 := by rw [k3, k2]; rfl
  have a20 : zgi s4 2 0 = σ.1 2 0 := by rw [f4, f3, f2]; rfl
  have a26 : zgi t3 3 (68 : Int32).toNatClampNeg = σ.1 23 26 := by rw [k3, k2]; exact h.e26
  have b26 : zgi s4 23 (26 : Int32).toNatClampNeg = σ.1 23 26 := by rw [f4, f3, f2]; rfl
  have r26 : zr 0 255 (σ.1 23 26) := h.2.1.at (k := 23) (j := 26) rfl
  rw [a12]
  have fin : ∀ s t : zSt, zPo σ μ s t → t.1 3 58 = σ.1 23 11 → ∀ s' : zSt, s' = zsi s 23 11 ((σ.1 23 11 + 1) &&& 16383) → zp2 (some s') (fX12_dataTo_115 t) (zPo σ μ) := fun s t q1 q2 s' es => by
    unfold fX12_dataTo_115 fX12_further
    refine zp2_bur (P := fun r => r = zsi t 3 58 ((σ.1 23 11 + 1) &&& 16383)) (zpc_ck (zpc_ck (zpc_bv (fun t5 e5 => zpc_some ?_)))) (fun t5 e5 => zp2_some ?_)
    · rw [e5, show zgi t 3 (58 : Int32).toNatClampNeg = σ.1 23 11 from q2]
      rfl
    · rw [es, e5]
      exact q1.v11 (z_r14 _) rfl
  have t58 : t3.1 3 58 = σ.1 23 11 := by rw [k3, k2]; exact e11
  have ka := z_clamp g11.1
  have g2 := g11.2
  have ja : (σ.1 23 11).toNatClampNeg < 16384 := by omega
  unfold fX9_writeData_69
  refine zp2_if (fun _ => ?_) (fun _ => ?_)
  · unfold fX9_writeColour fX9_writeColour_72
    rw [a03]
    rcases hk with ⟨c0, _, m2⟩ | ⟨c0, _, m2⟩
    · -- thirty-two colours
      refine zp2_ifr (fun q => absurd q m2) (fun _ => ?_)
      rw [a20]
      refine zp2_bulp (P := zPo σ μ) ?_ (fun s b q => zp2_some q)
      refine zp2_ifl (fun _ => ?_) (fun q => absurd c0 q)
      have er : zrem (σ.1 23 11) 32 = σ.1 23 11 &&& 31 := z_remm 5 g11 rfl rfl (by decide) (by decide)
      rw [er]
      have r31 : zr 0 31 (σ.1 23 11 &&& 31) := z_r31 _
      have k31 := z_clamp r31.1
      have b31 := r31.2
      have eo : (32 + (σ.1 23 11 &&& 31)).toNatClampNeg = 32 + (σ.1 23 11 &&& 31).toNatClampNeg := z_off r31 (k := 32) rfl (by decide)
      refine zp2_ckl (zp2_bvl (fun s5 f5 => zp2_ckr (zp2_ckr (zp2_bvr (fun t5 k5 => ?_)))))
      refine fin (zsi s3 23 (32 + (σ.1 23 11 &&& 31).toNatClampNeg) x) t5 ?_ ?_ s5 ?_
      · rw [k5]; exact h3.vc (by omega) (z_nby hx)
      · rw [k5]; exact t58
      · rw [f5, f4, eo]
        exact zsi_comm (by omega)
    · refine zp2_ifr (fun _ => ?_) (fun q => absurd m2 q)
      rw [a20]
      refine zp2_bulp (P := zPo σ μ) ?_ (fun s b q => zp2_some q)
      refine zp2_ifl (fun q => absurd q c0) (fun _ => zp2_ckr ?_)
      have er2 : zrem (σ.1 23 11) 2 = σ.1 23 11 &&& 1 := z_remm 1 g11 rfl rfl (by decide) (by decide)
      rw [er2]
      refine zp2_if (fun _ => ?_) (fun od => ?_)
      · refine zp2_ckl (zp2_bvl (fun s5 f5 => zp2_ckr (zp2_bvr (fun t5 k5 => ?_))))
        refine fin (zsi s3 23 26 x) t5 ?_ ?_ s5 ?_
        · rw [k5]; exact h3.v26 hx rfl
        · rw [k5]; exact t58
        · rw [f5, f4]
          exact zsi_comm (by decide)
      · obtain ⟨j, hj, o1, o2, o3, o4⟩ := z_od g11 od
        rw [a26, b26, o1, o2, o3, o4]
        refine zp2_ckl (zp2_ckl (zp2_bvl (fun s5 f5 => zp2_ckl (zp2_bvl (fun s6 f6 => zp2_ckr (zp2_ckr (zp2_ckr (zp2_bvr (fun t5 k5 => zp2_ckr (zp2_ckr (zp2_bvr (fun t6 k6 => ?_)))))))))))) 
        refine fin (zsi (zsi s3 23 (32 + j) (σ.1 23 26)) 23 (32 + (j + 1)) x) t6 ?_ ?_ s6 ?_
        · rw [k6, k5]; exact (h3.vc (by omega) (z_nby r26)).vc (by omega) (z_nby hx)
        · rw [k6, k5]; exact t58
        · rw [f6, f5, f4, zsi_comm (k := 23) (i := 11) (j := 32 + j) (by omega)]
          exact zsi_comm (by omega)
  · refine zp2_ckl (zp2_bvl (fun s5 f5 => zp2_ckr (zp2_bvr (fun t5 k5 => ?_))))
    refine fin (zsi s3 21 (σ.1 23 11).toNatClampNeg x) t5 ?_ ?_ s5 ?_
    · rw [k5]; exact h3.vr ja (z_nby hx)
    · rw [k5]; exact t58
    · rw [f5, f4]
      exact zsi_cr (by decide)
end ZVW
end ZJN34
section ZJN35
/-! READING THE PORTS -/
theorem zp2_iff {α β : Type} {c c' : Prop} {d : Decidable c} {d' : Decidable c'} {x y : Option α} {x' y' : Option β} {Q : α → β → Prop} (e : c ↔ c') (h1 : c → c' → zp2 x x' Q) (h2 : ¬ c → ¬ c' → zp2 y y' Q) : zp2 (@ite _ c d x y) (@ite _ c' d' x' y') Q := by
  by_cases q : c
  · rw [if_pos q, if_pos (e.mp q)]; exact h1 q (e.mp q)
  · rw [if_neg q, if_neg (fun r => q (e.mpr r))]; exact h2 q (fun r => q (e.mpr r))
theorem zp2_ifn {α β : Type} {c c' : Prop} {d : Decidable c} {d' : Decidable c'} {x y : Option α} {x' y' : Option β} {Q : α → β → Prop} (e : c ↔ ¬ c') (h1 : c → ¬ c' → zp2 x y' Q) (h2 : ¬ c → c' → zp2 y x' Q) : zp2 (@ite _ c d x y) (@ite _ c' d' x' y') Q := by
  by_cases q : c
  · rw [if_pos q, if_neg (e.mp q)]; exact h1 q (e.mp q)
  · have r : c' := Decidable.byContradiction (fun r => q (e.mpr r))
    rw [if_neg q, if_pos r]; exact h2 q r
theorem zx_01 {x : Int32} (h : zr 0 1 x) : x = 0 ∨ x = 1 := by
  have h0 := h.1
  have h1 := h.2
  by_cases q : x.toInt = 0
  · left; exact Int32.toInt_inj.mp q
  · right; exact Int32.toInt_inj.mp (by rw [show (1 : Int32).toInt = 1 from rfl]; omega)
/-- the two lines -/
noncomputable def zLij (w a m s : Int32) : Int32 := if w &&& m = 0 then (w >>> (s &&& 31)) &&& 1 else a
noncomputable def zL0 (σ : zSt) : Int32 := zLij (σ.1 34 0) (σ.1 34 10) 2 5
noncomputable def zL1 (σ : zSt) : Int32 := zLij (σ.1 34 0) (σ.1 34 11) 8 7
theorem zLij_r {w a m s : Int32} (h : zr 0 1 a) : zr 0 1 (zLij w a m s) := by
  unfold zLij
  by_cases q : w &&& m = 0
  · rw [if_pos q]; exact zr_andr (lo := 0) (hi := 1) (zr_c (lo := 1) (hi := 1) (by decide)) (by decide)
  · rw [if_neg q]; exact h
section ZPR
variable {σ μ s t : zSt}
theorem zVe.p0 (h : zVe σ μ) : μ.1 3 33 = σ.1 34 0 := h.1.e (z_pn34_0 (d := 0) (by decide))
theorem zVe.p6 (h : zVe σ μ) : μ.1 3 35 = σ.1 34 6 := h.1.e (z_pn34_6 (d := 0) (by decide))
theorem zVe.p7 (h : zVe σ μ) : μ.1 3 42 = σ.1 34 7 := h.1.e (z_pn34_7 (d := 0) (by decide))
theorem zVe.p8 (h : zVe σ μ) : μ.1 3 43 = σ.1 34 8 := h.1.e (z_pn34_7 (d := 1) (by decide))
theorem zVe.p9 (h : zVe σ μ) : μ.1 3 44 = σ.1 34 9 := h.1.e (z_pn34_7 (d := 2) (by decide))
theorem zVe.p10 (h : zVe σ μ) : μ.1 3 45 = σ.1 34 10 := h.1.e (z_pn34_7 (d := 3) (by decide))
theorem zVe.p11 (h : zVe σ μ) : μ.1 3 46 = σ.1 34 11 := h.1.e (z_pn34_7 (d := 4) (by decide))
theorem zVe.e0 (h : zVe σ μ) : μ.1 3 47 = σ.1 23 0 := h.1.e (z_pn23_0 (d := 0) (by decide))
theorem zVe.r0 (h : zVe σ μ) : zr 0 255 (σ.1 23 0) := h.2.1.at (k := 23) (j := 0) rfl
theorem zVe.e1 (h : zVe σ μ) : μ.1 3 48 = σ.1 23 1 := h.1.e (z_pn23_0 (d := 1) (by decide))
theorem zVe.r1 (h : zVe σ μ) : zr 0 255 (σ.1 23 1) := h.2.1.at (k := 23) (j := 1) rfl
theorem zVe.e9 (h : zVe σ μ) : μ.1 3 56 = σ.1 23 9 := h.1.e (z_pn23_0 (d := 9) (by decide))
theorem zVe.r9 (h : zVe σ μ) : zr 0 255 (σ.1 23 9) := h.2.1.at (k := 23) (j := 9) rfl
theorem zVe.e10 (h : zVe σ μ) : μ.1 3 57 = σ.1 23 10 := h.1.e (z_pn23_0 (d := 10) (by decide))
theorem zVe.r10 (h : zVe σ μ) : zr 0 255 (σ.1 23 10) := h.2.1.at (k := 23) (j := 10) rfl
theorem zVe.e20 (h : zVe σ μ) : μ.1 3 66 = σ.1 23 20 := h.1.e (z_pn23_18 (d := 2) (by decide))
theorem zVe.e21 (h : zVe σ μ) : μ.1 3 67 = σ.1 23 21 := h.1.e (z_pn23_18 (d := 3) (by decide))
theorem zVe.rp0 (h : zVe σ μ) : zr 0 255 (σ.1 34 0) := h.2.1.at (k := 34) (j := 0) rfl
theorem zVe.l0 (h : zVe σ μ) : zr 0 1 (zL0 σ) := zLij_r (h.2.1.at (k := 34) (j := 10) rfl)
theorem zVe.l1 (h : zVe σ μ) : zr 0 1 (zL1 σ) := zLij_r (h.2.1.at (k := 34) (j := 11) rfl)
theorem p_linesC : zpc (fX4_lines σ ) (fun r => r = (σ, zL0 σ ||| (zL1 σ <<< ((1 : Int32) &&& 31)))) := by
  unfold fX4_lines fX4_lines_28 fX4_lines_52 zL0 zL1 zLij
  refine zpc_ck (zpc_bv (fun w ew => ?_))
  have ew : w = σ.1 34 0 := ew
  subst ew
  refine zpc_if (fun q => ?_) (fun q => zpc_ck ?_)
  · rw [if_pos q]
    refine zpc_if (fun q2 => zpc_some ?_) (fun q2 => zpc_ck (zpc_some ?_))
    · rw [if_pos q2]
    · rw [if_neg q2]; rfl
  · rw [if_neg q]
    refine zpc_if (fun q2 => zpc_some ?_) (fun q2 => zpc_ck (zpc_some ?_))
    · rw [if_pos q2]; rfl
    · rw [if_neg q2]; rfl
theorem p_line0 (h : zVe σ μ) : zpc (fX12_lineAt μ 0) (fun r => r = (μ, zL0 σ)) := by
  unfold fX12_lineAt fX12_lineAt_45 zL0 zLij
  have e0 : zgi μ 3 (33 : Int32).toNatClampNeg = σ.1 34 0 := h.p0
  have e10 : zgi μ 3 ((45 : Int32) + 0).toNatClampNeg = σ.1 34 10 := h.p10
  rw [e0, e10]
  have b : (σ.1 34 0 >>> ((1 + (2 * (0 : Int32))) &&& 31)) &&& 1 = if σ.1 34 0 &&& 2 = 0 then 0 else 1 := z_b1 h.rp0
  rw [b]
  by_cases q : σ.1 34 0 &&& 2 = 0
  · rw [if_pos q, if_pos rfl, if_pos q]
    exact zpc_ck (zpc_ck (zpc_some rfl))
  · rw [if_neg q, if_neg (by decide), if_neg q]
    exact zpc_ck (zpc_ck (zpc_some rfl))
theorem p_line1 (h : zVe σ μ) : zpc (fX12_lineAt μ 1) (fun r => r = (μ, zL1 σ)) := by
  unfold fX12_lineAt fX12_lineAt_45 zL1 zLij
  have e0 : zgi μ 3 (33 : Int32).toNatClampNeg = σ.1 34 0 := h.p0
  have e10 : zgi μ 3 ((45 : Int32) + 1).toNatClampNeg = σ.1 34 11 := h.p11
  rw [e0, e10]
  have b : (σ.1 34 0 >>> ((1 + (2 * (1 : Int32))) &&& 31)) &&& 1 = if σ.1 34 0 &&& 8 = 0 then 0 else 1 := z_b3 h.rp0
  rw [b]
  by_cases q : σ.1 34 0 &&& 8 = 0
  · rw [if_pos q, if_pos rfl, if_pos q]
    exact zpc_ck (zpc_ck (zpc_some rfl))
  · rw [if_neg q, if_neg (by decide), if_neg q]
    exact zpc_ck (zpc_ck (zpc_some rfl))
/-- a bit put into a byte -/
noncomputable def gwo (x n b : Int32) : Int32 := if b = 1 then x ||| (1 <<< (n &&& 31)) else x &&& ((1 <<< (n &&& 31)) ^^^ (-1))
theorem p_wo {x n b : Int32} : zpc (fX12_without μ x n b) (fun r => r = (μ, gwo x n b)) := by
  unfold fX12_without fX12_without_20 gwo
  exact zpc_if (fun q => zpc_some (by rw [if_pos q])) (fun q => zpc_some (by rw [if_neg q]))
theorem v_wo5 : ∀ i : Fin 256, (Int32.ofNat i.val &&& (-33)) ||| 32 = gwo (Int32.ofNat i.val) 5 1 ∧ (Int32.ofNat i.val &&& (-33)) ||| 0 = gwo (Int32.ofNat i.val) 5 0 := by decide +kernel
theorem v_wo3 : ∀ i : Fin 256, (Int32.ofNat i.val &&& (-9)) ||| 8 = gwo (Int32.ofNat i.val) 3 1 ∧ (Int32.ofNat i.val &&& (-9)) ||| 0 = gwo (Int32.ofNat i.val) 3 0 := by decide +kernel
theorem v_w16 : ∀ i : Fin 256, (Int32.ofNat i.val &&& 16) <<< ((1 : Int32) &&& 31) = if Int32.ofNat i.val &&& 16 = 0 then 0 else 32 := by decide +kernel
theorem v_w64 : ∀ i : Fin 256, (Int32.ofNat i.val &&& 64) >>> ((3 : Int32) &&& 31) = if Int32.ofNat i.val &&& 64 = 0 then 0 else 8 := by decide +kernel
theorem v_odd : ∀ i : Fin 64, ∀ a b : Fin 2, ((((Int32.ofNat i.val >>> ((2 : Int32) &&& 31)) ^^^ (-1)) &&& 15) ||| 48) ||| ((Int32.ofNat a.val ||| (Int32.ofNat b.val <<< ((1 : Int32) &&& 31))) <<< ((6 : Int32) &&& 31)) = gwo (gwo ((255 &&& ((Int32.ofNat i.val >>> ((2 : Int32) &&& 31)) ^^^ (-1))) ||| 48) 6 (Int32.ofNat a.val)) 7 (Int32.ofNat b.val) := by decide +kernel
theorem v_oddr : ∀ i : Fin 64, ∀ a b : Fin 2, 0 ≤ (((((Int32.ofNat i.val >>> ((2 : Int32) &&& 31)) ^^^ (-1)) &&& 15) ||| 48) ||| ((Int32.ofNat a.val ||| (Int32.ofNat b.val <<< ((1 : Int32) &&& 31))) <<< ((6 : Int32) &&& 31))).toInt ∧ (((((Int32.ofNat i.val >>> ((2 : Int32) &&& 31)) ^^^ (-1)) &&& 15) ||| 48) ||| ((Int32.ofNat a.val ||| (Int32.ofNat b.val <<< ((1 : Int32) &&& 31))) <<< ((6 : Int32) &&& 31))).toInt ≤ 255 := by decide +kernel
theorem v_wo5r : ∀ i : Fin 256, 0 ≤ ((Int32.ofNat i.val &&& (-33)) ||| 32).toInt ∧ ((Int32.ofNat i.val &&& (-33)) ||| 32).toInt ≤ 255 ∧ 0 ≤ ((Int32.ofNat i.val &&& (-33)) ||| 0).toInt ∧ ((Int32.ofNat i.val &&& (-33)) ||| 0).toInt ≤ 255 := by decide +kernel
theorem v_wo3r : ∀ i : Fin 256, 0 ≤ ((Int32.ofNat i.val &&& (-9)) ||| 8).toInt ∧ ((Int32.ofNat i.val &&& (-9)) ||| 8).toInt ≤ 255 ∧ 0 ≤ ((Int32.ofNat i.val &&& (-9)) ||| 0).toInt ∧ ((Int32.ofNat i.val &&& (-9)) ||| 0).toInt ≤ 255 := by decide +kernel
theorem z_wo5 {v w : Int32} (hv : zr 0 255 v) (hw : zr 0 255 w) : (v &&& (-33)) ||| ((w &&& 16) <<< ((1 : Int32) &&& 31)) = gwo v 5 ((w >>> ((4 : Int32) &&& 31)) &&& 1) ∧ zr 0 255 ((v &&& (-33)) ||| ((w &&& 16) <<< ((1 : Int32) &&& 31))) := by
  have e : (w &&& 16) <<< ((1 : Int32) &&& 31) = if w &&& 16 = 0 then 0 else 32 := by
    obtain ⟨i, e⟩ := z_byteF hw
    subst e
    exact v_w16 i
  rw [z_b4 hw, e]
  obtain ⟨i, e⟩ := z_byteF hv
  subst e
  by_cases q : w &&& 16 = 0
  · rw [if_pos q, if_pos q]
    exact ⟨(v_wo5 i).2, (v_wo5r i).2.2.1, (v_wo5r i).2.2.2⟩
  · rw [if_neg q, if_neg q]
    exact ⟨(v_wo5 i).1, (v_wo5r i).1, (v_wo5r i).2.1⟩
theorem z_wo3 {v w : Int32} (hv : zr 0 255 v) (hw : zr 0 255 w) : (v &&& (-9)) ||| ((w &&& 64) >>> ((3 : Int32) &&& 31)) = gwo v 3 ((w >>> ((6 : Int32) &&& 31)) &&& 1) ∧ zr 0 255 ((v &&& (-9)) ||| ((w &&& 64) >>> ((3 : Int32) &&& 31))) := by
  have e : (w &&& 64) >>> ((3 : Int32) &&& 31) = if w &&& 64 = 0 then 0 else 8 := by
    obtain ⟨i, e⟩ := z_byteF hw
    subst e
    exact v_w64 i
  rw [z_b6 hw, e]
  obtain ⟨i, e⟩ := z_byteF hv
  subst e
  by_cases q : w &&& 64 = 0
  · rw [if_pos q, if_pos q]
    exact ⟨(v_wo3 i).2, (v_wo3r i).2.2.1, (v_wo3r i).2.2.2⟩
  · rw [if_neg q, if_neg q]
    exact ⟨(v_wo3 i).1, (v_wo3r i).1, (v_wo3r i).2.1⟩
theorem z_F {x : Int32} {b : Int} {m : Nat} (h : zr 0 b x) (c : b < (m : Int)) : ∃ i : Fin m, x = Int32.ofNat i.val := by
  obtain ⟨h0, h1⟩ := h
  obtain ⟨i, hi⟩ : ∃ i : Nat, x.toInt = i := ⟨x.toInt.toNat, by omega⟩
  exact ⟨⟨i, by omega⟩, z_ofN hi⟩
/-- both pads' ports: the same answer, nothing changed -/
theorem t_pads (h : zVe σ μ) {a b : Int32} (e : (a = 0 ↔ ¬ b = 0)) : zp2 (fX4_read_131 σ a) (fX12_port_147 μ b) (fun r r' => zPo σ μ r.1 r'.1 ∧ r'.2 = r.2 ∧ zr 0 255 r.2) := by
  have g0 : zgi μ 3 (33 : Int32).toNatClampNeg = σ.1 34 0 := h.p0
  have g7 : zgi μ 3 (42 : Int32).toNatClampNeg = σ.1 34 7 := h.p7
  have g8 : zgi μ 3 (43 : Int32).toNatClampNeg = σ.1 34 8 := h.p8
  have r0 := h.rp0
  unfold fX4_read_131 fX4_read_146 fX12_port_147 fX12_port_289 fX12_port_230
  refine zp2_ifn e (fun _ _ => ?_) (fun _ _ => ?_)
  · -- the odd one
    have r8 : zr 0 63 (σ.1 34 8) := h.2.1.at (k := 34) (j := 8) rfl
    obtain ⟨i, ei⟩ := z_F (m := 64) r8 (by decide)
    obtain ⟨x, ex⟩ := z_F (m := 2) h.l0 (by decide)
    obtain ⟨y, ey⟩ := z_F (m := 2) h.l1 (by decide)
    obtain ⟨V, eV⟩ : ∃ V, V = ((((σ.1 34 8 >>> ((2 : Int32) &&& 31)) ^^^ (-1)) &&& 15) ||| 48) ||| ((zL0 σ ||| (zL1 σ <<< ((1 : Int32) &&& 31))) <<< ((6 : Int32) &&& 31)) := ⟨_, rfl⟩
    have rV : zr 0 255 V := by
      rw [eV, ei, ex, ey]
      exact v_oddr i x y
    have kV : gwo (gwo ((255 &&& ((σ.1 34 8 >>> ((2 : Int32) &&& 31)) ^^^ (-1))) ||| 48) 6 (zL0 σ)) 7 (zL1 σ) = V := by
      rw [eV, ei, ex, ey]
      exact (v_odd i x y).symm
    have w3 := z_wo3 rV r0
    refine zp2_bilp (P := fun r r' => zPo σ μ r.1 r'.1 ∧ r'.2 = r.2 ∧ zr 0 255 r.2) ?_ (fun s v b q => zp2_some q)
    unfold fX4_readOddPads fX4_readOddPads_57
    refine zp2_ckl (zp2_bil p_linesC (fun s v es => ?_))
    cases es
    refine zp2_bvl (fun v3 e3 => zp2_ckl ?_)
    have e3 : v3 = V := e3.trans eV.symm
    subst e3
    refine zp2_ckr (zp2_bvr (fun v4 e4 => ?_))
    rw [g8] at e4
    refine zp2_bir (p_line0 h) (fun t v et => ?_)
    cases et
    refine zp2_bir p_wo (fun t v et => ?_)
    cases et
    refine zp2_bir (p_line1 h) (fun t v et => ?_)
    cases et
    refine zp2_bir p_wo (fun t v et => ?_)
    cases et
    rw [e4, kV]
    refine zp2_ckr ?_
    rw [g0]
    refine zp2_if (fun _ => ?_) (fun _ => zp2_some ⟨zPo.rf h, rfl, rV⟩)
    refine zp2_ckl (zp2_ckr (zp2_bir p_wo (fun t v et => ?_)))
    cases et
    exact zp2_some ⟨zPo.rf h, w3.1.symm, w3.2⟩
  · -- the even one
    obtain ⟨V, eV⟩ : ∃ V, V = ((σ.1 34 7 ||| (σ.1 34 8 <<< ((6 : Int32) &&& 31))) ^^^ (-1)) &&& 255 := ⟨_, rfl⟩
    have rV : zr 0 255 V := by
      rw [eV]
      exact z_r8 _
    have w5 := z_wo5 rV r0
    refine zp2_bilp (P := fun r r' => zPo σ μ r.1 r'.1 ∧ r'.2 = r.2 ∧ zr 0 255 r.2) ?_ (fun s v b q => zp2_some q)
    unfold fX4_readEvenPads fX4_readEvenPads_56
    refine zp2_ckl (zp2_ckl (zp2_bvl (fun v3 e3 => zp2_ckl ?_)))
    have e3 : v3 = V := e3.trans eV.symm
    subst e3
    refine zp2_ckr (zp2_ckr (zp2_bvr (fun v4 e4 => zp2_ckr ?_)))
    rw [g7, g8, Int32.and_comm, ← eV] at e4
    subst e4
    rw [g0]
    refine zp2_if (fun _ => ?_) (fun _ => zp2_some ⟨zPo.rf h, rfl, rV⟩)
    refine zp2_ckl (zp2_ckr (zp2_bir p_wo (fun t v et => ?_)))
    cases et
    exact zp2_some ⟨zPo.rf h, w5.1.symm, w5.2⟩
theorem v_p6 : ∀ i : Fin 256, ((Int32.ofNat i.val) >>> ((6 : Int32) &&& 31) = 0 ↔ ¬ 64 ≤ Int32.ofNat i.val) ∧ (¬ (Int32.ofNat i.val) >>> ((6 : Int32) &&& 31) = 0 → ((Int32.ofNat i.val) >>> ((6 : Int32) &&& 31) = 1 ↔ ¬ 128 ≤ Int32.ofNat i.val)) ∧ (¬ (Int32.ofNat i.val) >>> ((6 : Int32) &&& 31) = 0 → ¬ (Int32.ofNat i.val) >>> ((6 : Int32) &&& 31) = 1 → ((Int32.ofNat i.val) >>> ((6 : Int32) &&& 31) = 2 ↔ ¬ 192 ≤ Int32.ofNat i.val)) ∧ (Int32.ofNat i.val &&& 1 = 0 ↔ ¬ zrem (Int32.ofNat i.val) 2 = 1) := by decide +kernel
theorem zPo.vcount (h : zVe σ μ) : ∃ v, zr 0 255 v ∧ zpc (fX9_vCount σ ) (fun r => r = (σ, v)) ∧ zpc (fX12_vCount μ ) (fun r => r = (μ, v)) := by
  have hk := h.2.2.1
  obtain ⟨k0, k1, k2, k3, k4, k5⟩ := hk
  refine ⟨zvc (σ.1 23 20) (zht (σ.1 23 0) (σ.1 23 1)) (μ.1 0 3), ?_, p_vCountC h.r0 h.r1 k5, ?_⟩
  · unfold zvc
    exact z_r8 _
  · have q := p_vCountM (μ := μ) (by rw [h.e0]; exact h.r0) (by rw [h.e1]; exact h.r1) (by rw [h.e20]; exact h.2.1.at (k := 23) (j := 20) rfl) (fun n => by
      have l := h.2.2.2
      unfold zLn at l
      rw [k5, if_neg n] at l
      have c : (262 : Int32).toInt = 262 := rfl
      have r := h.2.1.at (k := 23) (j := 20) rfl
      rw [h.e20]
      exact ⟨r.1, by omega⟩)
    rw [h.e20, h.e0, h.e1] at q
    exact q
theorem t_in11 (h : zVe σ μ) {p a b : Int32} (hp : zr 0 255 p) (e : (a = 0 ↔ ¬ b = 0)) : zp2 (fX4_read_11 σ p a) (fX12_port_12 μ p b) (fun r r' => zPo σ μ r.1 r'.1 ∧ r'.2 = r.2 ∧ zr 0 255 r.2) := by
  obtain ⟨i, ei⟩ := z_byteF hp
  obtain ⟨d0, d1, d2, d3⟩ := v_p6 i
  rw [← ei] at d0 d1 d2 d3
  have two := h.2.2.1.two
  have e' : (a = 0 ↔ ¬ b = 0) := e
  have e2 : (¬ a = 0 ↔ b = 0) := ⟨fun q => Decidable.byContradiction (fun r => q (e.mpr r)), fun q r => e.mp r q⟩
  unfold fX4_read_11 fX12_port_12
  refine zp2_ifn d0 (fun c0 m0 => ?_) (fun c0 m0 => zp2_ifn (d1 c0) (fun c1 m1 => ?_) (fun c1 m1 => zp2_ifn (d2 c0 c1) (fun c2 m2 => ?_) (fun c2 m2 => ?_)))
  · -- 0 to 63
    unfold fX4_read_62 fX12_port_32
    rcases two with ⟨_, k6, k2⟩ | ⟨_, k6, k2⟩
    · refine zp2_ifl (fun _ => zp2_ifr (fun q => absurd q k2) (fun _ => zp2_some ⟨zPo.rf h, rfl, (show zr 0 255 (255 : Int32) from zr_c (by decide))⟩)) (fun q => absurd k6 q)
    · refine zp2_ifl (fun q => absurd q k6) (fun _ => zp2_ifr (fun _ => ?_) (fun q => absurd k2 q))
      refine zp2_bilp (P := fun r r' => zPo σ μ r.1 r'.1 ∧ r'.2 = r.2 ∧ zr 0 255 r.2) ?_ (fun s v b q => zp2_some q)
      unfold fX4_readHandy fX4_readHandy_23 fX4_readHandy_43 fX4_readHandy_46 fX12_port_60 fX12_port_73
      by_cases z : p = 0
      · refine zp2_ifl (fun _ => zp2_ckl ?_) (fun q => absurd z q)
        refine zp2_ifr (fun _ => zp2_ifr (fun _ => zp2_ckr ?_) (fun q => absurd z q)) (fun q => absurd (by rw [z]; decide) q)
        rw [show zgi μ 3 (44 : Int32).toNatClampNeg = zgi σ 34 (9 : Int32).toNatClampNeg from h.p9]
        exact zp2_if (fun _ => zp2_some ⟨zPo.rf h, rfl, (show zr 0 255 (64 : Int32) from zr_c (by decide))⟩) (fun _ => zp2_some ⟨zPo.rf h, rfl, (show zr 0 255 (192 : Int32) from zr_c (by decide))⟩)
      · have z1 : ¬ p < 1 := fun q => by
          have a1 := Int32.lt_iff_toInt_lt.mp q
          have a0 := hp.1
          have c1 : (1 : Int32).toInt = 1 := rfl
          exact z (Int32.toInt_inj.mp (by rw [show (0 : Int32).toInt = 0 from rfl]; omega))
        refine zp2_ifl (fun q => absurd q z) (fun _ => zp2_ifl (fun q => absurd q z1) (fun _ => ?_))
        have e5 : 5 < p ↔ ¬ p ≤ 5 := ⟨fun q r => by have := Int32.lt_iff_toInt_lt.mp q; have := Int32.le_iff_toInt_le.mp r; omega, fun q => z_nle q⟩
        refine zp2_ifn e5 (fun _ _ => zp2_some ⟨zPo.rf h, rfl, (show zr 0 255 (255 : Int32) from zr_c (by decide))⟩) (fun _ m5 => ?_)
        refine zp2_ifr (fun q => absurd q z) (fun _ => zp2_ckl (zp2_ckr (zp2_some ?_)))
        have b1 := Int32.le_iff_toInt_le.mp (z_nlt z1)
        have b5 := Int32.le_iff_toInt_le.mp m5
        have c1 : (1 : Int32).toInt = 1 := rfl
        have c5 : (5 : Int32).toInt = 5 := rfl
        have kp := z_clamp hp.1
        obtain ⟨d, ed⟩ : ∃ d : Nat, p.toNatClampNeg = 1 + d := ⟨p.toNatClampNeg - 1, by omega⟩
        have hd : d < 5 := by omega
        have em : ((36 : Int32) + p).toNatClampNeg = 37 + d := by rw [z_off hp (k := 36) rfl (by decide), ed]; omega
        refine ⟨zPo.rf h, ?_, ?_⟩
        · show zgi μ 3 ((36 : Int32) + p).toNatClampNeg = zgi σ 34 p.toNatClampNeg
          rw [em, ed]
          exact h.1.e (z_pn34_1 (d := d) hd)
        · show zr 0 255 (zgi σ 34 p.toNatClampNeg)
          rw [ed]
          exact h.2.1.at (zg_34 ⟨1 + d, by omega⟩)
  · -- 64 to 127
    unfold fX4_read_84 fX12_port_99
    refine zp2_ifn e' (fun _ _ => zp2_ckl (zp2_ckr (zp2_some ⟨zPo.rf h, h.p6, h.2.1.at (k := 34) (j := 6) rfl⟩))) (fun _ _ => ?_)
    obtain ⟨v, rv, vC, vM⟩ := zPo.vcount h
    refine zp2_bil vC (fun s v es => zp2_bir vM (fun t w et => ?_))
    cases es
    cases et
    exact zp2_some ⟨zPo.rf h, rfl, rv⟩
  · -- 128 to 191
    unfold fX4_read_106 fX12_port_122
    refine zp2_ifn e' (fun _ _ => ?_) (fun _ _ => ?_)
    · exact zp2_bii (t_status h) (fun s v t w q => zp2_some q)
    · exact zp2_bii (t_data h) (fun s v t w q => zp2_some q)
  · -- from 192 on
    refine zp2_if (fun _ => ?_) (fun _ => t_pads h e)
    rcases two with ⟨_, k6, k2⟩ | ⟨_, k6, k2⟩
    · refine zp2_ifl (fun _ => zp2_ifr (fun q => absurd q k2) (fun _ => zp2_ckr ?_)) (fun q => absurd k6 q)
      unfold fX10_value fX10_value_38
      refine zp2_bil (P := fun r => r = (σ, σ.1 32 64)) ?_ (fun s v es => ?_)
      · exact zpc_if (fun q => absurd q (by decide)) (fun _ => zpc_if (fun _ => zpc_if (fun q => absurd q (by decide)) (fun _ => zpc_ck (zpc_some rfl))) (fun q => absurd (by decide) q))
      · cases es
        refine zp2_some ⟨zPo.rf h, h.1.e (z_pn32_64 (d := 0) (by decide)), ?_⟩
        have r := h.2.1.at (k := 32) (j := 64) rfl
        exact ⟨r.1, by have := r.2; show (σ.1 32 64).toInt ≤ 255; omega⟩
    · exact zp2_ifl (fun q => absurd q k6) (fun _ => zp2_ifr (fun _ => t_pads h e) (fun q => absurd k2 q))
theorem t_in (h : zVe σ μ) {p : Int32} (hp : zr 0 255 p) : zp2 (fX4_read σ p) (fX12_port μ p) (fun r r' => zPo σ μ r.1 r'.1 ∧ r'.2 = r.2 ∧ zr 0 255 r.2) := by
  obtain ⟨i, ei⟩ := z_byteF hp
  obtain ⟨d0, d1, d2, d3⟩ := v_p6 i
  rw [← ei] at d3
  unfold fX4_read fX12_port
  exact zp2_ckr (zp2_ifn d3 (fun _ _ => t_in11 h hp (by decide)) (fun _ _ => t_in11 h hp (by decide)))
end ZPR
end ZJN35
section ZJN36
/-! WRITING THE PORTS -/
section ZPW
variable {σ μ s t : zSt}
theorem v_l8 : ∀ i : Fin 8, (Int32.ofNat i.val) / 2 = (Int32.ofNat i.val) >>> ((1 : Int32) &&& 31) ∧ zrem (Int32.ofNat i.val) 2 = (Int32.ofNat i.val) &&& 1 ∧ 0 ≤ ((Int32.ofNat i.val) >>> ((1 : Int32) &&& 31)).toInt ∧ ((Int32.ofNat i.val) >>> ((1 : Int32) &&& 31)).toInt ≤ 3 := by decide +kernel
theorem z_r15m (x : Int32) : zr 0 15 (x &&& 15) := zr_andr (lo := 0) (hi := 15) (zr_c (lo := 15) (hi := 15) (by decide)) (by decide)
theorem t_take30 (k : zPo σ μ s t) {x a : Int32} (e : a = 0 ↔ x ≤ 127) : zp2 (fX7_take_30 s x a) (fX12_noise_19 t x) (zPo σ μ) := by
  have h := k.1
  have e17 : zgi t 3 (86 : Int32).toNatClampNeg = s.1 30 17 := h.1.e (z_pn30_17 (d := 0) (by decide))
  have r17 : zr 0 7 (s.1 30 17) := h.2.1.at (k := 30) (j := 17) rfl
  obtain ⟨i, ei⟩ := z_F (m := 8) r17 (by decide)
  obtain ⟨a1, a2, a3, a4⟩ := v_l8 i
  rw [← ei] at a1 a2 a3 a4
  unfold fX7_take_30 fX7_take_155 fX12_noise_19 fX12_noise_140 fX12_noise_141
  rw [e17, a1, a2]
  refine zp2_ckl (zp2_bvl (fun v ev => zp2_ckl ?_))
  have ev : v = s.1 30 17 >>> ((1 : Int32) &&& 31) := ev
  refine zp2_ckr (zp2_ckr (zp2_bvr (fun v2 ev2 => zp2_ckr (zp2_ckr ?_))))
  rw [← ev] at ev2 a3 a4
  subst ev2
  have rv : zr 0 3 v2 := ⟨a3, a4⟩
  have kv := z_clamp rv.1
  have b3 := rv.2
  obtain ⟨j, ej⟩ : ∃ j : Nat, v2.toNatClampNeg = j := ⟨_, rfl⟩
  have hj : j < 4 := by omega
  refine zp2_if (fun _ => ?_) (fun _ => ?_)
  · rw [z_off rv (k := 9) rfl (by decide), z_off rv (k := 78) rfl (by decide), ej]
    refine zp2_ckl (zp2_bvl (fun s1 f1 => zp2_ckr (zp2_bvr (fun t1 g1 => zp2_some ?_))))
    rw [f1, g1]
    exact k.w1 (z_pn30_9 (d := j) (by omega)) rfl (zGo.r (zg_30b ⟨j, hj⟩) (z_r15m _)) rfl (zcv_m (a := 9) (b := 13) (by decide) (by omega) (by omega)) (zcv_m (a := 78) (b := 82) (by decide) (by omega) (by omega))
  · refine zp2_if (fun _ => ?_) (fun n3 => ?_)
    · refine zp2_ckl (zp2_bvl (fun s1 f1 => zp2_ckl (zp2_bvl (fun s2 f2 => zp2_ckr (zp2_bvr (fun t1 g1 => zp2_ckr (zp2_bvr (fun t2 g2 => zp2_some ?_))))))))
      rw [f2, f1, g2, g1]
      exact (k.w1 (z_pn30_9 (d := 4) (by decide)) rfl (zGo.r rfl (zr_andr (lo := 0) (hi := 7) (zr_c (lo := 7) (hi := 7) (by decide)) (by decide))) rfl rfl rfl).nz
    · have hj3 : j < 3 := by
        have : ¬ v2.toInt = 3 := fun q => n3 (Int32.toInt_inj.mp q)
        omega
      have o0 : ((0 : Int32) + v2).toNatClampNeg = j := by rw [z_off rv (k := 0) rfl (by decide), ej]; omega
      have o69 : ((69 : Int32) + v2).toNatClampNeg = 69 + j := by rw [z_off rv (k := 69) rfl (by decide), ej]
      rw [o0, o69]
      have q := z_pn30_0 (d := j) (by omega)
      rw [Nat.zero_add] at q
      have eq : zgi t 3 (69 + j) = zgi s 30 j := h.1.e q
      rw [eq]
      have r0 : zr 0 1023 (((zgi s 30 j) &&& 15) ||| ((x &&& 63) <<< ((4 : Int32) &&& 31))) := zr_or (lo := 0) (hi := 1023) 10 (z_r15m _) (zr_shl (lo := 0) (hi := 1008) 4 rfl (zr_andr (lo := 0) (hi := 63) (zr_c (lo := 63) (hi := 63) (by decide)) (by decide)) (by decide)) (by decide)
      have r1 : zr 0 1023 (((zgi s 30 j) &&& 1008) ||| (x &&& 15)) := zr_or (lo := 0) (hi := 1023) 10 (zr_andr (lo := 0) (hi := 1008) (zr_c (lo := 1008) (hi := 1008) (by decide)) (by decide)) (z_r15m _) (by decide)
      refine zp2_iff e (fun _ _ => ?_) (fun _ _ => ?_)
      · refine zp2_ckl (zp2_ckl (zp2_bvl (fun s1 f1 => zp2_ckr (zp2_ckr (zp2_bvr (fun t1 g1 => zp2_some ?_))))))
        rw [f1, g1]
        exact k.w1 q rfl (zGo.r (zg_30a ⟨j, hj3⟩) r0) rfl (zcv_m (a := 0) (b := 2) (by decide) (by omega) (by omega)) (zcv_m (a := 68) (b := 71) (by decide) (by omega) (by omega))
      · refine zp2_ckl (zp2_ckl (zp2_bvl (fun s1 f1 => zp2_ckr (zp2_ckr (zp2_bvr (fun t1 g1 => zp2_some ?_))))))
        rw [f1, g1]
        exact k.w1 q rfl (zGo.r (zg_30a ⟨j, hj3⟩) r1) rfl (zcv_m (a := 0) (b := 2) (by decide) (by omega) (by omega)) (zcv_m (a := 68) (b := 71) (by decide) (by omega) (by omega))
theorem v_128 {x : Int32} : x < 128 ↔ x ≤ 127 := by
  have c1 : (127 : Int32).toInt = 127 := rfl
  have c2 : (128 : Int32).toInt = 128 := rfl
  exact ⟨fun q => Int32.le_iff_toInt_le.mpr (by have := Int32.lt_iff_toInt_lt.mp q; omega), fun q => Int32.lt_iff_toInt_lt.mpr (by have := Int32.le_iff_toInt_le.mp q; omega)⟩
theorem t_noise (h : zVe σ μ) {x : Int32} : zp2 (fX7_take σ x) (fX12_noise μ x) (zPo σ μ) := by
  unfold fX7_take fX7_take_12 fX12_noise
  refine zp2_iff v_128 (fun _ m => ?_) (fun _ m => ?_)
  · exact zp2_ifl (fun _ => t_take30 (zPo.rf h) ⟨fun _ => m, fun _ => rfl⟩) (fun q => absurd rfl q)
  · refine zp2_ifl (fun q => absurd q (by decide)) (fun _ => zp2_ckl (zp2_bvl (fun s1 f1 => zp2_ckr (zp2_bvr (fun t1 g1 => ?_)))))
    refine t_take30 (s := s1) (t := t1) ?_ ⟨fun q => absurd q (by decide), fun q => absurd q m⟩
    rw [f1, g1]
    exact (zPo.rf h).w1 (z_pn30_17 (d := 0) (by decide)) rfl (zGo.r rfl (zr_andr (lo := 0) (hi := 7) (zr_c (lo := 7) (hi := 7) (by decide)) (by decide))) rfl rfl rfl
/-- the latch of the line's place -/
theorem v_hc : ∀ i : Fin 228, 0 ≤ (zhc (Int32.ofNat i.val)).toInt ∧ (zhc (Int32.ofNat i.val)).toInt ≤ 255 := by decide +kernel
theorem t_latch (k : zPo σ μ s t) : zp2 (zbi (fX9_hCount s ) (fun σ6 v7 => zck (zin 6 12) (zbv (zsi σ6 34 ((6 : Int32).toNatClampNeg) v7) (fun σ8 => fX4_changeLines_37 σ8)))) (fX12_portTo_129 t) (zPo σ μ) := by
  unfold fX12_portTo_129 fX12_portTo_140 fX12_portTo_267 fX4_changeLines_37
  have h := k.1
  refine zp2_bil p_hCountC (fun s1 v es => zp2_bir p_hCountM (fun t1 w et => ?_))
  cases es
  cases et
  refine zp2_ckl (zp2_bvl (fun s2 f2 => zp2_ckr (zp2_bvr (fun t2 g2 => zp2_some ?_))))
  rw [f2, g2, h.e21]
  have r : zr 0 227 (s.1 23 21) := h.2.1.at (k := 23) (j := 21) rfl
  obtain ⟨i, ei⟩ := z_F (m := 228) r (by decide)
  refine k.w1 (z_pn34_6 (d := 0) (by decide)) rfl (zGo.r rfl ?_) rfl rfl rfl
  rw [ei]
  exact v_hc i
theorem v_ch : ∀ a b c d : Fin 2, ((Int32.ofNat c.val ||| (Int32.ofNat d.val <<< ((1 : Int32) &&& 31))) &&& ((Int32.ofNat a.val ||| (Int32.ofNat b.val <<< ((1 : Int32) &&& 31))) ^^^ (-1)) = 0) ↔ ¬ ((Int32.ofNat a.val = 0 ∧ Int32.ofNat c.val = 1) ∨ (Int32.ofNat b.val = 0 ∧ Int32.ofNat d.val = 1)) := by decide +kernel
/-- lines that rise: what follows a change, l and m the old lines -/
theorem t_rise (k : zPo σ μ s t) {l m : Int32} (hl : zr 0 1 l) (hm : zr 0 1 m) : zp2 (zbi (fX4_lines s ) (fun σ4 v5 => if (v5 &&& ((l ||| (m <<< ((1 : Int32) &&& 31))) ^^^ (-1))) = 0 then fX4_changeLines_37 σ4 else zbi (fX9_hCount σ4 ) (fun σ6 v7 => zck (zin 6 12) (zbv (zsi σ6 34 ((6 : Int32).toNatClampNeg) v7) (fun σ8 => fX4_changeLines_37 σ8))))) (if l = 0 then zbi (fX12_lineAt t 0) (fun σ11 v12 => if v12 = 1 then fX12_portTo_129 σ11 else fX12_portTo_115 σ11 m) else fX12_portTo_115 t m) (zPo σ μ) := by
  have h := k.1
  obtain ⟨a, ea⟩ := z_F (m := 2) hl (by decide)
  obtain ⟨b, eb⟩ := z_F (m := 2) hm (by decide)
  obtain ⟨c, ec⟩ := z_F (m := 2) h.l0 (by decide)
  obtain ⟨d, ed⟩ := z_F (m := 2) h.l1 (by decide)
  have key := v_ch a b c d
  rw [← ea, ← eb, ← ec, ← ed] at key
  refine zp2_bil p_linesC (fun s1 v es => ?_)
  cases es
  have no : ¬ (l = 0 ∧ zL0 s = 1) → zp2 (if ((zL0 s ||| (zL1 s <<< ((1 : Int32) &&& 31))) &&& ((l ||| (m <<< ((1 : Int32) &&& 31))) ^^^ (-1))) = 0 then fX4_changeLines_37 s else zbi (fX9_hCount s ) (fun σ6 v7 => zck (zin 6 12) (zbv (zsi σ6 34 ((6 : Int32).toNatClampNeg) v7) (fun σ8 => fX4_changeLines_37 σ8)))) (fX12_portTo_115 t m) (zPo σ μ) := fun n => by
    unfold fX12_portTo_115
    refine zp2_ifr (fun m0 => zp2_bir (p_line1 h) (fun t1 w et => ?_)) (fun m0 => ?_)
    · cases et
      refine zp2_ifr (fun d1 => ?_) (fun d1 => ?_)
      · exact zp2_ifl (fun q => absurd (Or.inr ⟨m0, d1⟩) (key.mp q)) (fun _ => t_latch k)
      · exact zp2_ifl (fun q => zp2_some k) (fun q => absurd (key.mpr (fun r => r.elim n (fun r => d1 r.2))) q)
    · exact zp2_ifl (fun q => zp2_some k) (fun q => absurd (key.mpr (fun r => r.elim n (fun r => m0 r.1))) q)
  refine zp2_ifr (fun l0 => zp2_bir (p_line0 h) (fun t1 w et => ?_)) (fun l0 => no (fun r => l0 r.1))
  cases et
  refine zp2_ifr (fun c1 => ?_) (fun c1 => no (fun r => c1 r.2))
  exact zp2_ifl (fun q => absurd (Or.inl ⟨l0, c1⟩) (key.mp q)) (fun _ => t_latch k)
theorem zPo.p0 (h : zPo σ μ s t) {v w : Int32} (r : zr 0 255 v) (e : w = v) : zPo σ μ (zsi s 34 0 v) (zsi t 3 33 w) := h.w1 (z_pn34_0 (d := 0) (by decide)) rfl (zGo.r rfl r) e rfl rfl
theorem t_pads75 (h : zVe σ μ) {x a b : Int32} (hx : zr 0 255 x) (e : a = 0 ↔ ¬ b = 0) : zp2 (fX4_write_71 σ x a) (fX12_portTo_75 μ x b) (zPo σ μ) := by
  unfold fX4_write_71 fX4_write_151 fX12_portTo_75 fX12_portTo_267 fX4_changeLines
  refine zp2_ifn e (fun _ _ => ?_) (fun _ _ => zp2_some (zPo.rf h))
  refine zp2_bulp (P := zPo σ μ) ?_ (fun s b q => zp2_some q)
  refine zp2_bil p_linesC (fun s1 v es => zp2_ckl (zp2_bvl (fun s3 f3 => ?_)))
  cases es
  refine zp2_bir (p_line0 h) (fun t1 w et => ?_)
  cases et
  refine zp2_bir (p_line1 h) (fun t1 w et => zp2_ckr (zp2_bvr (fun t3 g3 => ?_)))
  cases et
  have k : zPo σ μ s3 t3 := by
    rw [f3, g3]
    exact (zPo.rf h).p0 hx rfl
  exact t_rise k h.l0 h.l1
theorem v_u64 : ∀ i : Fin 256, zrem (Int32.ofNat i.val) 64 = Int32.ofNat i.val &&& 63 ∧ zrem (Int32.ofNat i.val) 4 = Int32.ofNat i.val &&& 3 := by decide +kernel
theorem t_fm (h : zVe σ μ) {p x : Int32} {c1 c2 : Bool} (hx : zr 0 255 x) : zp2 (zbu (fX10_take σ p x) (fun σ6 => fX4_write_151 σ6)) (if p = 240 then zck c1 (zck (zin 162 1048) (zbv (zsi μ 3 ((162 : Int32).toNatClampNeg) (zrem x 64)) (fun σ16 => fX12_portTo_267 σ16))) else if p = 241 then zck (zin 162 1048) (zck (zin (98 + (zgi μ 3 (162 : Int32).toNatClampNeg)) 1048) (zbv (zsi μ 3 ((98 + (zgi μ 3 (162 : Int32).toNatClampNeg)).toNatClampNeg) x) (fun σ15 => fX12_portTo_267 σ15))) else zck c2 (zck (zin 163 1048) (zbv (zsi μ 3 ((163 : Int32).toNatClampNeg) (zrem x 4)) (fun σ14 => fX12_portTo_267 σ14)))) (zPo σ μ) := by
  have ex : zrem x 64 = x &&& 63 ∧ zrem x 4 = x &&& 3 := by
    obtain ⟨i, e⟩ := z_byteF hx
    subst e
    exact v_u64 i
  rw [ex.1, ex.2]
  unfold fX4_write_151 fX12_portTo_267
  refine zp2_bulp (P := zPo σ μ) ?_ (fun s b q => zp2_some q)
  unfold fX10_take fX10_take_57
  refine zp2_if (fun _ => ?_) (fun _ => zp2_if (fun _ => ?_) (fun _ => ?_))
  · refine zp2_ckl (zp2_bvl (fun s1 f1 => zp2_ckr (zp2_ckr (zp2_bvr (fun t1 g1 => zp2_some ?_)))))
    rw [f1, g1]
    exact (zPo.rf h).w1 (z_pn32_68 (d := 0) (by decide)) rfl (zGo.r rfl (zr_andr (lo := 0) (hi := 63) (zr_c (lo := 63) (hi := 63) (by decide)) (by decide))) rfl rfl rfl
  · have e68 : zgi μ 3 (162 : Int32).toNatClampNeg = σ.1 32 68 := h.1.e (z_pn32_68 (d := 0) (by decide))
    have r68 : zr 0 63 (σ.1 32 68) := h.2.1.at (k := 32) (j := 68) rfl
    have m68 : zgi σ 32 (68 : Int32).toNatClampNeg &&& 63 = σ.1 32 68 := Int32.toInt_inj.mp (by
      show (σ.1 32 68 &&& 63).toInt = _
      rw [z_mask (k := 6) r68.1 rfl (by decide)]
      have := r68.1
      have := r68.2
      show (σ.1 32 68).toInt % 64 = _
      omega)
    rw [e68, m68]
    refine zp2_ckl (zp2_ckl (zp2_bvl (fun s1 f1 => zp2_ckr (zp2_ckr (zp2_bvr (fun t1 g1 => zp2_some ?_))))))
    have kk := z_clamp r68.1
    have b68 := r68.2
    rw [f1, g1, z_off r68 (k := 98) rfl (by decide)]
    have p := z_pn32_0 (d := (σ.1 32 68).toNatClampNeg) (by omega)
    rw [Nat.zero_add] at p
    exact (zPo.rf h).w1 p rfl (zGo.r (zg_32 ⟨(σ.1 32 68).toNatClampNeg, by omega⟩) hx) rfl (zcv_m (a := 0) (b := 64) (by decide) (by omega) (by omega)) (zcv_m (a := 98) (b := 163) (by decide) (by omega) (by omega))
  · refine zp2_ckl (zp2_bvl (fun s1 f1 => zp2_ckr (zp2_ckr (zp2_bvr (fun t1 g1 => zp2_some ?_)))))
    rw [f1, g1]
    exact (zPo.rf h).w1 (z_pn32_64 (d := 0) (by decide)) rfl (zGo.r rfl (zr_andr (lo := 0) (hi := 3) (zr_c (lo := 3) (hi := 3) (by decide)) (by decide))) rfl rfl rfl
theorem v_hd : ∀ i : Fin 256, (Int32.ofNat i.val < 1 ↔ Int32.ofNat i.val ≤ 0) ∧ (¬ Int32.ofNat i.val < 1 → ¬ Int32.ofNat i.val = 6 → (6 < Int32.ofNat i.val ↔ 6 ≤ Int32.ofNat i.val)) ∧ (Int32.ofNat i.val < 1 → ¬ Int32.ofNat i.val = 6) := by decide +kernel
theorem t_out11 (h : zVe σ μ) {p x a b : Int32} (hp : zr 0 255 p) (hx : zr 0 255 x) (e : a = 0 ↔ ¬ b = 0) : zp2 (fX4_write_11 σ p x a) (fX12_portTo_12 μ p x b) (zPo σ μ) := by
  obtain ⟨i, ei⟩ := z_byteF hp
  obtain ⟨d0, d1, d2, d3⟩ := v_p6 i
  obtain ⟨w0, w1, w2⟩ := v_hd i
  rw [← ei] at d0 d1 d2 d3 w0 w1 w2
  have two := h.2.2.1.two
  unfold fX4_write_11 fX12_portTo_12 fX12_portTo_50
  refine zp2_ifn d0 (fun c0 m0 => ?_) (fun c0 m0 => zp2_ifn (d1 c0) (fun c1 m1 => ?_) (fun c1 m1 => zp2_ifn (d2 c0 c1) (fun c2 m2 => ?_) (fun c2 m2 => ?_)))
  · -- 0 to 63
    rcases two with ⟨_, k6, k2⟩ | ⟨_, k6, k2⟩
    · exact zp2_ifl (fun _ => zp2_ifr (fun q => absurd q k2) (fun _ => zp2_ifr (fun q => absurd q k2) (fun _ => t_pads75 h hx e))) (fun q => absurd k6 q)
    · refine zp2_ifl (fun q => absurd q k6) (fun _ => zp2_ifr (fun _ => ?_) (fun q => absurd k2 q))
      refine zp2_iff w0 (fun c _ => ?_) (fun c _ => ?_)
      · exact zp2_ifr (fun _ => zp2_ifr (fun q => absurd q (w2 c)) (fun _ => t_pads75 h hx e)) (fun q => absurd k2 q)
      · by_cases s6 : p = 6
        · subst s6
          refine zp2_ifl (fun q => absurd q (by decide)) (fun _ => zp2_ifr (fun _ => zp2_ifr (fun _ => zp2_ifr (fun _ => ?_) (fun q => absurd rfl q)) (fun q => absurd k2 q)) (fun q => absurd (by decide) q))
          unfold fX4_write_151 fX12_portTo_267 fX4_writeHandy fX4_writeHandy_34 fX7_takeStereo
          refine zp2_bulp (P := zPo σ μ) ?_ (fun s b q => zp2_some q)
          refine zp2_ifl (fun _ => ?_) (fun q => absurd rfl q)
          refine zp2_bulp (P := zPo σ μ) ?_ (fun s b q => zp2_some q)
          refine zp2_ckl (zp2_bvl (fun s1 f1 => zp2_ckr (zp2_bvr (fun t1 g1 => zp2_some ?_))))
          rw [f1, g1]
          exact (zPo.rf h).w1 (z_pn30_18 (d := 0) (by decide)) rfl (zGo.r rfl hx) rfl rfl rfl
        · refine zp2_iff (w1 c s6) (fun _ _ => ?_) (fun c6 _ => ?_)
          · exact zp2_ifr (fun _ => zp2_ifr (fun q => absurd q s6) (fun _ => t_pads75 h hx e)) (fun q => absurd k2 q)
          · unfold fX4_write_151 fX12_portTo_267 fX4_writeHandy fX4_writeHandy_34
            refine zp2_bulp (P := zPo σ μ) ?_ (fun s b q => zp2_some q)
            have b1 := Int32.le_iff_toInt_le.mp (z_nlt c)
            have b6 := Int32.le_iff_toInt_le.mp (z_nlt c6)
            have c1 : (1 : Int32).toInt = 1 := rfl
            have c5 : (5 : Int32).toInt = 5 := rfl
            have c66 : (6 : Int32).toInt = 6 := rfl
            have n6 : ¬ p.toInt = 6 := fun q => s6 (Int32.toInt_inj.mp q)
            have n5 : ¬ 5 < p := fun q => by have := Int32.lt_iff_toInt_lt.mp q; omega
            refine zp2_ifl (fun q => absurd q s6) (fun _ => zp2_ifl (fun q => absurd q c) (fun _ => zp2_ifl (fun q => absurd q n5) (fun _ => ?_)))
            have kp := z_clamp hp.1
            obtain ⟨d, ed⟩ : ∃ d : Nat, p.toNatClampNeg = 1 + d := ⟨p.toNatClampNeg - 1, by omega⟩
            have hd : d < 5 := by omega
            have em : ((36 : Int32) + p).toNatClampNeg = 37 + d := by rw [z_off hp (k := 36) rfl (by decide), ed]; omega
            rw [ed, em]
            refine zp2_ckl (zp2_bvl (fun s1 f1 => zp2_ckr (zp2_bvr (fun t1 g1 => zp2_some ?_))))
            rw [f1, g1]
            exact (zPo.rf h).w1 (z_pn34_1 (d := d) hd) rfl (zGo.r (zg_34 ⟨1 + d, by omega⟩) hx) rfl rfl (zcv_m (a := 33) (b := 65) (by decide) (by omega) (by omega))
  · unfold fX4_write_151 fX12_portTo_267
    exact zp2_buu (t_noise h) (fun s t q => zp2_some q)
  · unfold fX4_write_151 fX12_portTo_267
    exact zp2_ifn e (fun _ _ => zp2_buu (t_ctl h hx) (fun s t q => zp2_some q)) (fun _ _ => zp2_buu (t_wdat h hx) (fun s t q => zp2_some q))
  · rcases two with ⟨_, k6, k2⟩ | ⟨_, k6, k2⟩
    · refine zp2_ifl (fun _ => zp2_ifr (fun q => absurd q k2) (fun _ => ?_)) (fun q => absurd k6 q)
      exact zp2_if (fun _ => zp2_some (zPo.rf h)) (fun _ => zp2_if (fun _ => zp2_some (zPo.rf h)) (fun _ => t_fm h hx))
    · exact zp2_ifl (fun q => absurd q k6) (fun _ => zp2_ifr (fun _ => zp2_some (zPo.rf h)) (fun q => absurd k2 q))
theorem t_out (h : zVe σ μ) {p x : Int32} (hp : zr 0 255 p) (hx : zr 0 255 x) : zp2 (fX4_write σ p x) (fX12_portTo μ p x) (zPo σ μ) := by
  obtain ⟨i, ei⟩ := z_byteF hp
  obtain ⟨d0, d1, d2, d3⟩ := v_p6 i
  rw [← ei] at d3
  unfold fX4_write fX12_portTo
  exact zp2_ckr (zp2_ifn d3 (fun _ _ => t_out11 h hp hx (by decide)) (fun _ _ => t_out11 h hp hx (by decide)))
end ZPW
end ZJN36
section ZJN37
/-! WHAT IS LEFT ALONE -/
noncomputable def zof (R : List Nat) (A : List (Nat × Nat × Nat)) (k a b : Nat) : Bool := !(R.any (Nat.beq k)) && A.all (fun e => !(Nat.beq e.1 k) || (Nat.blt e.2.2 a || Nat.blt b e.2.1))
noncomputable def zrw (R : List Nat) (A : List (Nat × Nat × Nat)) (k : Nat) : Bool := !(R.any (Nat.beq k)) && A.all (fun e => !(Nat.beq e.1 k))
theorem zof_cv {R : List Nat} {A : List (Nat × Nat × Nat)} {k a b j : Nat} (c : zof R A k a b = true) (h1 : a ≤ j) (h2 : j ≤ b) : zcv R A k j = false := by
  unfold zof at c
  rw [Bool.and_eq_true, Bool.not_eq_true', List.all_eq_true] at c
  unfold zcv
  rw [Bool.or_eq_false_iff]
  refine ⟨c.1, ?_⟩
  rw [List.any_eq_false]
  intro e he q
  rw [Bool.and_eq_true, Bool.and_eq_true] at q
  obtain ⟨q1, q2, q3⟩ := q
  have a2 := Nat.le_of_ble_eq_true q2
  have a3 := Nat.le_of_ble_eq_true q3
  have d := c.2 e he
  rw [q1, Bool.not_true, Bool.false_or, Bool.or_eq_true] at d
  rcases d with d | d
  · have := Nat.le_of_ble_eq_true d
    omega
  · have := Nat.le_of_ble_eq_true d
    omega
theorem zrw_cv {R : List Nat} {A : List (Nat × Nat × Nat)} {k j : Nat} (c : zrw R A k = true) : zcv R A k j = false := by
  unfold zrw at c
  rw [Bool.and_eq_true, Bool.not_eq_true', List.all_eq_true] at c
  unfold zcv
  rw [Bool.or_eq_false_iff]
  refine ⟨c.1, ?_⟩
  rw [List.any_eq_false]
  intro e he q
  rw [Bool.and_eq_true] at q
  have d := c.2 e he
  rw [q.1] at d
  cases d
section ZKP
variable {R R' S S' : List Nat} {A A' B B' : List (Nat × Nat × Nat)} {σ μ σ' μ' : zSt}
theorem zQ.o (h : zQ R A S B σ σ') {k a b j : Nat} (c : zof R A k a b = true) (h1 : a ≤ j) (h2 : j ≤ b) : σ'.1 k j = σ.1 k j := h.1 k j (zof_cv c h1 h2)
theorem zQ.ro (h : zQ R A S B σ σ') {k : Nat} (c : zrw R A k = true) : σ'.1 k = σ.1 k := funext fun j => h.1 k j (zrw_cv c)
theorem zQ.lo (h : zQ R A S B σ σ') {k a b j : Nat} (c : zof S B k a b = true) (h1 : a ≤ j) (h2 : j ≤ b) : σ'.2 k j = σ.2 k j := h.2 k j (zof_cv c h1 h2)
theorem zQ.rlo (h : zQ R A S B σ σ') {k : Nat} (c : zrw S B k = true) : σ'.2 k = σ.2 k := funext fun j => h.2 k j (zrw_cv c)
noncomputable def zmC (R : List Nat) (A : List (Nat × Nat × Nat)) : Bool := zrw R A 1 && (zrw R A 13 && (zrw R A 14 && (zrw R A 15 && (zrw R A 17 && zrw R A 19))))
noncomputable def zmM (R : List Nat) (A : List (Nat × Nat × Nat)) : Bool := zrw R A 2 && (zrw R A 5 && (zrw R A 6 && (zof R A 0 5 9 && zof R A 3 29 32)))
theorem zM2.kp (h : zM2 σ μ) (a : zQ R A S B σ σ') (b : zQ R' A' S' B' μ μ') (c : zmC R A = true) (d : zmM R' A' = true) : zM2 σ' μ' := by
  obtain ⟨⟨h1, h2, h3, h4, h5, h6⟩, ⟨r1, r2, r3, r4, r5, r6⟩⟩ := h
  unfold zmC at c
  rw [Bool.and_eq_true, Bool.and_eq_true, Bool.and_eq_true, Bool.and_eq_true, Bool.and_eq_true] at c
  obtain ⟨k1, k13, k14, k15, k17, k19⟩ := c
  unfold zmM at d
  rw [Bool.and_eq_true, Bool.and_eq_true, Bool.and_eq_true, Bool.and_eq_true] at d
  obtain ⟨m2, m5, m6, m0, m3⟩ := d
  have c1 := a.ro k1
  have g2 := b.ro m2
  have g0 : ∀ j, 5 ≤ j → j ≤ 9 → μ'.1 0 j = μ.1 0 j := fun j p q => b.o m0 p q
  have g3 : ∀ j, 29 ≤ j → j ≤ 32 → μ'.1 3 j = μ.1 3 j := fun j p q => b.o m3 p q
  refine ⟨⟨fun j hj => ?_, fun j hj => ?_, fun j hj => ?_, ?_, ?_, ?_⟩, ⟨?_, ?_, ?_, ?_, ?_, fun j j1 j2 => ?_⟩⟩
  · rw [a.ro k15, b.ro m5]; exact h1 j hj
  · rw [a.ro k17, b.ro m6]; exact h2 j hj
  · rw [a.ro k19, g3 (29 + j) (by omega) (by omega)]; exact h3 j hj
  · rw [a.ro k19, g3 32 (by decide) (by decide)]; exact h4
  · refine h5.keep (fun j _ => by rw [c1]) ?_ (fun j hj => g0 j ?_ ?_) g2
    · rcases z_tp13 (σ.1 1 1) with e | e
      · rw [e]; exact a.ro k13
      · rw [e]; exact a.ro k14
    · revert hj
      simp only [List.mem_cons, List.not_mem_nil, or_false]
      omega
    · revert hj
      simp only [List.mem_cons, List.not_mem_nil, or_false]
      omega
  · unfold zFil
    rw [g0 5 (by decide) (by decide), g0 6 (by decide) (by decide), g2]
    exact h6
  · rw [c1]; exact r1
  · rw [c1]; exact r2
  · rw [g0 6 (by decide) (by decide)]; exact r3
  · rw [g0 7 (by decide) (by decide)]; exact r4
  · rw [g0 7 (by decide) (by decide), g0 6 (by decide) (by decide)]; exact r5
  · rw [g3 j j1 j2]; exact r6 j j1 j2
noncomputable def zeC (R : List Nat) (A : List (Nat × Nat × Nat)) : Bool := zTb.all (fun t => zof R A t.1 t.2.1 (t.2.1 + t.2.2.1 - 1)) && (zGt.all (fun t => zof R A t.1 t.2.1 (t.2.1 + t.2.2.1 - 1)) && (zof R A 0 0 0 && (zof R A 2 0 1 && (zof R A 3 1 1 && zof R A 6 0 0))))
noncomputable def zeM (R : List Nat) (A : List (Nat × Nat × Nat)) : Bool := zTb.all (fun t => zof R A t.2.2.2.1 t.2.2.2.2.1 (t.2.2.2.2.1 + t.2.2.1 - 1)) && zof R A 0 3 3
theorem zGf_mem {k j : Nat} {a b : Int} : ∀ {l : List (Nat × Nat × Nat × Int × Int)}, zGf k j l = some (a, b) → ∃ t ∈ l, t.1 = k ∧ t.2.1 ≤ j ∧ j < t.2.1 + t.2.2.1
  | [], h => by cases h
  | t :: l, h => by
    unfold zGf at h
    cases q : (Nat.beq t.1 k && (Nat.ble t.2.1 j && Nat.blt j (t.2.1 + t.2.2.1))) with
    | true =>
      rw [Bool.and_eq_true, Bool.and_eq_true] at q
      exact ⟨t, List.mem_cons_self, Nat.eq_of_beq_eq_true q.1, Nat.le_of_ble_eq_true q.2.1, Nat.le_of_ble_eq_true q.2.2⟩
    | false =>
      rw [q, cond_false] at h
      obtain ⟨x, x1, x2⟩ := zGf_mem h
      exact ⟨x, List.mem_cons_of_mem _ x1, x2⟩
theorem zVe.kp (h : zVe σ μ) (a : zQ R A S B σ σ') (b : zQ R' A' S' B' μ μ') (c : zeC R A = true) (d : zeM R' A' = true) : zVe σ' μ' := by
  unfold zeC at c
  rw [Bool.and_eq_true, Bool.and_eq_true, Bool.and_eq_true, Bool.and_eq_true, Bool.and_eq_true, List.all_eq_true, List.all_eq_true] at c
  obtain ⟨ct, cg, c0, c2, c3, c6⟩ := c
  unfold zeM at d
  rw [Bool.and_eq_true, List.all_eq_true] at d
  obtain ⟨dt, d0⟩ := d
  refine h.of (h.1.keep (fun t ht i hi => a.o (ct t ht) (by omega) (by omega)) (fun t ht i hi => b.o (dt t ht) (by omega) (by omega))) (fun k j x y e => ?_) ⟨a.o c0 (by decide) (by decide), a.o c2 (by decide) (by decide), a.o c3 (by decide) (by decide), a.o c6 (by decide) (by decide), a.o c2 (by decide) (by decide)⟩ (b.o d0 (by decide) (by decide)) ?_
  · obtain ⟨t, ht, e1, e2, e3⟩ := zGf_mem e
    have z := cg t ht
    rw [e1] at z
    rw [a.o z e2 (by omega)]
    exact h.2.1 k j x y e
  · exact a.o (ct (23, 18, 4, 3, 64, (-1)) (by decide +kernel)) (by decide) (by decide)
/-! THE WHOLE RELATION -/
/-- plans: a ring on the class's side, a row on the reference's -/
noncomputable def zPlr (σ μ : zSt) : Prop := σ.1 42 769 = μ.1 3 171 ∧ zr 0 256 (μ.1 3 171) ∧ zr 0 255 (σ.1 42 768) ∧ (∀ k r : Nat, (k : Int) < (μ.1 3 171).toInt → r < 3 → σ.1 42 (3 * (((σ.1 42 768).toNatClampNeg + k) % 256) + r) = μ.1 3 (280 + 3 * k + r)) ∧ (∀ k : Nat, (k : Int) < (μ.1 3 171).toInt → zr 0 1 (μ.1 3 (280 + 3 * k + 1)) ∧ zr 0 63 (μ.1 3 (280 + 3 * k + 2)) ∧ 0 ≤ (μ.1 3 (280 + 3 * k + 0)).toInt)
/-- the last steps -/
noncomputable def zSpt (B : Int) (σ μ : zSt) : Prop := 0 ≤ (μ.2 0 30).toInt ∧ (μ.2 0 30).toInt ≤ B ∧ zr 0 31 (σ.1 9 5) ∧ (σ.1 9 5).toInt = (μ.2 0 30).toInt % 32 ∧ (∀ j : Nat, j < 32 → ((j : Int) < (μ.2 0 30).toInt → σ.1 44 j = μ.1 21 j) ∧ ((μ.2 0 30).toInt ≤ (j : Int) → σ.1 44 j = -1))
noncomputable def zCt (P : Int) (σ μ : zSt) : Prop := σ.2 38 0 = μ.2 4 0 ∧ σ.2 38 1 = μ.2 4 1 ∧ σ.2 38 2 = μ.2 4 2 ∧ 0 ≤ (μ.2 4 2).toInt ∧ (μ.2 4 2).toInt ≤ P
/-- how far the beam has come, at least -/
noncomputable def zMt (μ : zSt) : Int := ((μ.2 4 2).toInt * (if μ.1 0 3 = 1 then 313 else 262) + (μ.1 3 66).toInt) * 228 + (μ.1 3 67).toInt
noncomputable def zMs (C : Int) (μ : zSt) : Prop := C ≤ zMt μ
noncomputable def zJj (B : Int × Int × Int) (σ μ : zSt) : Prop := zPlr σ μ ∧ zSpt B.1 σ μ ∧ zCt B.2.1 σ μ ∧ zMs B.2.2 μ
noncomputable def zIa (B : Int × Int × Int) (σ μ : zSt) : Prop := zVe σ μ ∧ zJj B σ μ
noncomputable def zjC (R : List Nat) (A : List (Nat × Nat × Nat)) (S : List Nat) (B : List (Nat × Nat × Nat)) : Bool := zrw R A 42 && (zrw R A 44 && (zof R A 9 5 5 && zof S B 38 0 2))
noncomputable def zjM (R : List Nat) (A : List (Nat × Nat × Nat)) (S : List Nat) (B : List (Nat × Nat × Nat)) : Bool := zof R A 3 171 171 && (zof R A 3 280 1047 && (zrw R A 21 && (zof S B 0 30 30 && (zof S B 4 0 2 && (zof R A 3 66 67 && zof R A 0 3 3)))))
noncomputable def zjlC (R : List Nat) (A : List (Nat × Nat × Nat)) : Bool := zrw R A 42
noncomputable def zjlM (R : List Nat) (A : List (Nat × Nat × Nat)) : Bool := zof R A 3 171 171 && zof R A 3 280 1047
theorem zPlr.kp (h : zPlr σ μ) (a : zQ R A S B σ σ') (b : zQ R' A' S' B' μ μ') (c : zjlC R A = true) (d : zjlM R' A' = true) : zPlr σ' μ' := by
  unfold zjlC at c
  unfold zjlM at d
  rw [Bool.and_eq_true] at d
  obtain ⟨d171, d280⟩ := d
  have e42 := a.ro c
  have f171 : μ'.1 3 171 = μ.1 3 171 := b.o d171 (by decide) (by decide)
  have f280 : ∀ k r : Nat, (k : Int) < (μ.1 3 171).toInt → (μ.1 3 171).toInt ≤ 256 → r < 3 → μ'.1 3 (280 + 3 * k + r) = μ.1 3 (280 + 3 * k + r) := fun k r p q z => b.o d280 (by omega) (by omega)
  obtain ⟨p1, p2, p3, p4, p5⟩ := h
  refine ⟨?_, ?_, ?_, fun k r hk hr => ?_, fun k hk => ?_⟩
  · rw [e42, f171]; exact p1
  · rw [f171]; exact p2
  · rw [e42]; exact p3
  · rw [f171] at hk
    rw [e42, f280 k r hk p2.2 hr]
    exact p4 k r hk hr
  · rw [f171] at hk
    rw [f280 k 1 hk p2.2 (by decide), f280 k 2 hk p2.2 (by decide), f280 k 0 hk p2.2 (by decide)]
    exact p5 k hk
theorem zSpt.kp {K : Int} (h : zSpt K σ μ) (a : zQ R A S B σ σ') (b : zQ R' A' S' B' μ μ') (c44 : zrw R A 44 = true) (c9 : zof R A 9 5 5 = true) (d21 : zrw R' A' 21 = true) (d0 : zof S' B' 0 30 30 = true) : zSpt K σ' μ' := by
  have e44 := a.ro c44
  have e9 : σ'.1 9 5 = σ.1 9 5 := a.o c9 (by decide) (by decide)
  have f21 := b.ro d21
  have f30 : μ'.2 0 30 = μ.2 0 30 := b.lo d0 (by decide) (by decide)
  obtain ⟨s1, s2, s3, s4, s5⟩ := h
  refine ⟨?_, ?_, ?_, ?_, fun j hj => ?_⟩
  · rw [f30]; exact s1
  · rw [f30]; exact s2
  · rw [e9]; exact s3
  · rw [e9, f30]; exact s4
  · rw [f30, e44, f21]; exact s5 j hj
theorem zMs.kp {C : Int} (h : zMs C μ) (b : zQ R' A' S' B' μ μ') (d4 : zof S' B' 4 0 2 = true) (d66 : zof R' A' 3 66 67 = true) (d3 : zof R' A' 0 3 3 = true) : zMs C μ' := by
  unfold zMs zMt
  rw [b.lo d4 (j := 2) (by decide) (by decide), b.o d66 (j := 66) (by decide) (by decide), b.o d66 (j := 67) (by decide) (by decide), b.o d3 (j := 3) (by decide) (by decide)]
  exact h
theorem zJj.kp {K : Int × Int × Int} (h : zJj K σ μ) (a : zQ R A S B σ σ') (b : zQ R' A' S' B' μ μ') (c : zjC R A S B = true) (d : zjM R' A' S' B' = true) : zJj K σ' μ' := by
  unfold zjC at c
  rw [Bool.and_eq_true, Bool.and_eq_true, Bool.and_eq_true] at c
  obtain ⟨c42, c44, c9, c38⟩ := c
  unfold zjM at d
  rw [Bool.and_eq_true, Bool.and_eq_true, Bool.and_eq_true, Bool.and_eq_true, Bool.and_eq_true, Bool.and_eq_true] at d
  obtain ⟨d171, d280, d21, d0, d4, d66, d3⟩ := d
  obtain ⟨p, s, ⟨t1, t2, t3, t4, t5⟩, ms⟩ := h
  refine ⟨p.kp a b c42 (by unfold zjlM; rw [d171, d280]; rfl), s.kp a b c44 c9 d21 d0, ⟨?_, ?_, ?_, ?_, ?_⟩, ms.kp b d4 d66 d3⟩
  · rw [a.lo c38 (j := 0) (by decide) (by decide), b.lo d4 (j := 0) (by decide) (by decide)]; exact t1
  · rw [a.lo c38 (j := 1) (by decide) (by decide), b.lo d4 (j := 1) (by decide) (by decide)]; exact t2
  · rw [a.lo c38 (j := 2) (by decide) (by decide), b.lo d4 (j := 2) (by decide) (by decide)]; exact t3
  · rw [b.lo d4 (j := 2) (by decide) (by decide)]; exact t4
  · rw [b.lo d4 (j := 2) (by decide) (by decide)]; exact t5
theorem zIoK_a {K : Int × Int × Int} : zIoK (zIa K) := fun σ μ σ' μ' h a b => ⟨h.1.kp a b (by decide +kernel) (by decide +kernel), h.2.kp a b rfl rfl⟩
theorem zTT.kp {I J : zSt → zSt → Prop} (h : zTT I σ μ) (hI : J σ' μ') (a : zQ R A S B σ σ') (b : zQ R' A' S' B' μ μ') (c : (zmC R A && (zrw R A 36 && zof R A 7 4 5)) = true) (d : (zmM R' A' && (zof R' A' 3 0 28 && zof R' A' 0 31 32)) = true) : zTT J σ' μ' ∧ zPkk σ σ' μ μ' := by
  rw [Bool.and_eq_true, Bool.and_eq_true] at c d
  obtain ⟨c1, c2, c3⟩ := c
  obtain ⟨d1, d2, d3⟩ := d
  have e36 := a.ro c2
  have e3 : ∀ j, j ≤ 28 → μ'.1 3 j = μ.1 3 j := fun j hj => b.o d2 (by omega) hj
  have e74 : σ'.1 7 4 = σ.1 7 4 := a.o c3 (by decide) (by decide)
  have e31 : μ'.1 0 31 = μ.1 0 31 := b.o d3 (by decide) (by decide)
  obtain ⟨h1, ⟨q1, q2, q3, q4⟩, h3, h4⟩ := h
  refine ⟨⟨h1.kp a b c1 d1, ⟨fun j hj n1 n2 => ?_, ?_, ?_, fun j hj => ?_⟩, ?_, hI⟩, ⟨fun j => by rw [e36], e3, a.o c3 (by decide) (by decide), b.o d3 (by decide) (by decide)⟩⟩
  · rw [e36, e3 j (by omega)]; exact q1 j hj n1 n2
  · rw [e36, e3 28 (by decide)]; exact q2
  · rw [e36, e3 27 (by decide)]; exact q3
  · rw [e36]; exact q4 j hj
  · unfold zJp
    rw [e74, e31]
    exact h3
theorem zPorts_a {K : Int × Int × Int} : zPorts (zIa K) := by
  refine ⟨fun σ μ p v h hp hv => ?_, fun σ μ p h hp => ?_⟩
  · refine zp2_mono (t_out h.2.2.2.1 hp hv) (fun s t q => ?_)
    obtain ⟨q1, q2, q3, q4⟩ := q
    exact h.kp (J := zIa K) ⟨q1, h.2.2.2.2.kp q2 q3 rfl rfl⟩ q2 q3 rfl rfl
  · refine zp2_mono (t_in h.2.2.2.1 hp) (fun s t q => ?_)
    obtain ⟨⟨q1, q2, q3, q4⟩, q5, q6⟩ := q
    obtain ⟨k1, k2⟩ := h.kp (J := zIa K) ⟨q1, h.2.2.2.2.kp q2 q3 rfl rfl⟩ q2 q3 rfl rfl
    exact ⟨k1, q5, q6, k2⟩
/-- both chips ask the same -/
theorem t_asks (h : zVe σ μ) : ∃ a, zpc (fX9_asks σ ) (fun r => r = (σ, a)) ∧ zAsk a μ := by
  refine ⟨_, p_asksC, fun t ht => ?_⟩
  have q := p_asksM (μ := t) (by rw [ht 47 (by decide), h.e0]; exact h.r0) (by rw [ht 48 (by decide), h.e1]; exact h.r1) (by rw [ht 62 (by decide), h.e15]; exact h.2.1.at (k := 23) (j := 15) rfl)
  rw [ht 47 (by decide), ht 48 (by decide), ht 62 (by decide), ht 63 (by decide), h.e0, h.e1, h.e15, h.e16] at q
  exact q
end ZKP
end ZJN37
section ZJN38
theorem fq_fX7_moveTone_57 {σ0 : zSt} {σ : zSt} {x1 : Int32} {x2 : Int32} (h : (zQ [5, 11, 12] [(30, 3, 8), (30, 14, 16), (32, 65, 67), (32, 128, 271)] [5, 46, 48] [(38, 3, 6)]) σ0 σ) (qx1 : zr 0 2 x1) : zpc (fX7_moveTone_57 σ x1 x2) (fun r => (zQ [5, 11, 12] [(30, 3, 8), (30, 14, 16), (32, 65, 67), (32, 128, 271)] [5, 46, 48] [(38, 3, 6)]) σ0 (r)) := by
  unfold fX7_moveTone_57
  exact zpc_ck (zpc_bs (zQ.wr (a := 3) (b := 8) (lo := 3) (hi := 5) h (zr_add (lo := 3) (hi := 5) (zr_c (x := 3) (lo := 3) (hi := 3) (by decide)) qx1 (by decide)) rfl (by decide)) (fun σ1 hσ1 => zpc_some hσ1))
theorem fq_fX7_moveTone_56 {σ0 : zSt} {σ : zSt} {x1 : Int32} {x2 : Int32} {s0 : Int32} {s1 : Int32} (h : (zQ [5, 11, 12] [(30, 3, 8), (30, 14, 16), (32, 65, 67), (32, 128, 271)] [5, 46, 48] [(38, 3, 6)]) σ0 σ) (qx1 : zr 0 2 x1) (qs1 : zr 6 8 s1) : zpc (fX7_moveTone_56 σ x1 x2 s0 s1) (fun r => (zQ [5, 11, 12] [(30, 3, 8), (30, 14, 16), (32, 65, 67), (32, 128, 271)] [5, 46, 48] [(38, 3, 6)]) σ0 (r)) := by
  unfold fX7_moveTone_56
  exact zpc_ck (zpc_bs (zQ.wr (a := 3) (b := 8) (lo := 6) (hi := 8) h qs1 rfl (by decide)) (fun σ2 hσ2 => fq_fX7_moveTone_57 hσ2 qx1))
theorem fq_fX7_moveTone {σ0 : zSt} {σ : zSt} {x1 : Int32} (h : (zQ [5, 11, 12] [(30, 3, 8), (30, 14, 16), (32, 65, 67), (32, 128, 271)] [5, 46, 48] [(38, 3, 6)]) σ0 σ) (qx1 : zr 0 2 x1) : zpc (fX7_moveTone σ x1) (fun r => (zQ [5, 11, 12] [(30, 3, 8), (30, 14, 16), (32, 65, 67), (32, 128, 271)] [5, 46, 48] [(38, 3, 6)]) σ0 (r)) := by
  unfold fX7_moveTone
  exact zpc_ck (zpc_bv (fun v3 _ => zpc_if (fun _ => zpc_ck (zpc_bv (fun v4 _ => zpc_if (fun _ => zpc_ck (fq_fX7_moveTone_56 h qx1 (zr_add (lo := 6) (hi := 8) (zr_c (x := 6) (lo := 6) (hi := 6) (by decide)) qx1 (by decide)))) (fun _ => fq_fX7_moveTone_56 h qx1 (zr_add (lo := 6) (hi := 8) (zr_c (x := 6) (lo := 6) (hi := 6) (by decide)) qx1 (by decide)))))) (fun _ => fq_fX7_moveTone_57 h qx1)))
theorem fq_fX7_moveNoise_136 {σ0 : zSt} {σ : zSt} (h : (zQ [5, 11, 12] [(30, 3, 8), (30, 14, 16), (32, 65, 67), (32, 128, 271)] [5, 46, 48] [(38, 3, 6)]) σ0 σ) : zpc (fX7_moveNoise_136 σ) (fun r => (zQ [5, 11, 12] [(30, 3, 8), (30, 14, 16), (32, 65, 67), (32, 128, 271)] [5, 46, 48] [(38, 3, 6)]) σ0 (r)) := by
  unfold fX7_moveNoise_136
  exact zpc_some h
theorem fq_fX7_moveNoise_120 {σ0 : zSt} {σ : zSt} {x2 : Int32} {s0 : Int32} (h : (zQ [5, 11, 12] [(30, 3, 8), (30, 14, 16), (32, 65, 67), (32, 128, 271)] [5, 46, 48] [(38, 3, 6)]) σ0 σ) : zpc (fX7_moveNoise_120 σ x2 s0) (fun r => (zQ [5, 11, 12] [(30, 3, 8), (30, 14, 16), (32, 65, 67), (32, 128, 271)] [5, 46, 48] [(38, 3, 6)]) σ0 (r)) := by
  unfold fX7_moveNoise_120
  exact zpc_ck (zpc_bs (zQ.wi h rfl) (fun σ1 hσ1 => fq_fX7_moveNoise_136 hσ1))
theorem fq_fX7_moveNoise_65 {σ0 : zSt} {σ : zSt} {s0 : Int32} {s1 : Int32} (h : (zQ [5, 11, 12] [(30, 3, 8), (30, 14, 16), (32, 65, 67), (32, 128, 271)] [5, 46, 48] [(38, 3, 6)]) σ0 σ) (qs1 : zr 14 14 s1) : zpc (fX7_moveNoise_65 σ s0 s1) (fun r => (zQ [5, 11, 12] [(30, 3, 8), (30, 14, 16), (32, 65, 67), (32, 128, 271)] [5, 46, 48] [(38, 3, 6)]) σ0 (r)) := by
  unfold fX7_moveNoise_65
  exact zpc_ck (zpc_bs (zQ.wr (a := 14) (b := 16) (lo := 14) (hi := 14) h qs1 rfl (by decide)) (fun σ2 hσ2 => zpc_ck (zpc_ck (zpc_bs (zQ.wi hσ2 rfl) (fun σ3 hσ3 => zpc_ck (zpc_if (fun _ => zpc_ck (zpc_bv (fun v4 _ => zpc_ck (zpc_if (fun _ => fq_fX7_moveNoise_120 hσ3) (fun _ => fq_fX7_moveNoise_120 hσ3))))) (fun _ => fq_fX7_moveNoise_136 hσ3)))))))
theorem fq_fX7_moveNoise {σ0 : zSt} {σ : zSt} (h : (zQ [5, 11, 12] [(30, 3, 8), (30, 14, 16), (32, 65, 67), (32, 128, 271)] [5, 46, 48] [(38, 3, 6)]) σ0 σ) : zpc (fX7_moveNoise σ) (fun r => (zQ [5, 11, 12] [(30, 3, 8), (30, 14, 16), (32, 65, 67), (32, 128, 271)] [5, 46, 48] [(38, 3, 6)]) σ0 (r)) := by
  unfold fX7_moveNoise
  exact zpc_ck (zpc_ck (zpc_bs (zQ.wi h rfl) (fun σ5 hσ5 => zpc_ck (zpc_if (fun _ => zpc_ck (zpc_bv (fun v6 _ => zpc_if (fun _ => zpc_ck (fq_fX7_moveNoise_65 hσ5 (zr_c (x := 14) (lo := 14) (hi := 14) (by decide)))) (fun _ => fq_fX7_moveNoise_65 hσ5 (zr_c (x := 14) (lo := 14) (hi := 14) (by decide)))))) (fun _ => zpc_some hσ5)))))
theorem fq_fX7_nextSample_87 {σ0 : zSt} {k28 : zSt → Int32 → Int32 → Int32 → Option (zSt × Int32)} (hk28 : ∀ (y0 : zSt) (y1 : Int32) (y2 : Int32) (y3 : Int32), (zQ [5, 11, 12] [(30, 3, 8), (30, 14, 16), (32, 65, 67), (32, 128, 271)] [5, 46, 48] [(38, 3, 6)]) σ0 y0 → zpc (k28 y0 y1 y2 y3) (fun r => (zQ [5, 11, 12] [(30, 3, 8), (30, 14, 16), (32, 65, 67), (32, 128, 271)] [5, 46, 48] [(38, 3, 6)]) σ0 (r.1))) {σ : zSt} {x1 : Int32} {x2 : Int32} {x3 : Int32} {s0 : Int32} (h : (zQ [5, 11, 12] [(30, 3, 8), (30, 14, 16), (32, 65, 67), (32, 128, 271)] [5, 46, 48] [(38, 3, 6)]) σ0 σ) : zpc (fX7_nextSample_87 k28 σ x1 x2 x3 s0) (fun r => (zQ [5, 11, 12] [(30, 3, 8), (30, 14, 16), (32, 65, 67), (32, 128, 271)] [5, 46, 48] [(38, 3, 6)]) σ0 (r.1)) := by
  unfold fX7_nextSample_87
  exact zpc_ck (zpc_bv (fun v1 _ => zpc_ck (zpc_bv (fun v2 _ => zpc_bv (fun v3 _ => hk28 _ _ _ _ h)))))
theorem fq_fX7_nextSample_59 {σ0 : zSt} {k28 : zSt → Int32 → Int32 → Int32 → Option (zSt × Int32)} (hk28 : ∀ (y0 : zSt) (y1 : Int32) (y2 : Int32) (y3 : Int32), (zQ [5, 11, 12] [(30, 3, 8), (30, 14, 16), (32, 65, 67), (32, 128, 271)] [5, 46, 48] [(38, 3, 6)]) σ0 y0 → zpc (k28 y0 y1 y2 y3) (fun r => (zQ [5, 11, 12] [(30, 3, 8), (30, 14, 16), (32, 65, 67), (32, 128, 271)] [5, 46, 48] [(38, 3, 6)]) σ0 (r.1))) {σ : zSt} {x1 : Int32} {x2 : Int32} {x3 : Int32} {s0 : Int32} (h : (zQ [5, 11, 12] [(30, 3, 8), (30, 14, 16), (32, 65, 67), (32, 128, 271)] [5, 46, 48] [(38, 3, 6)]) σ0 σ) : zpc (fX7_nextSample_59 k28 σ x1 x2 x3 s0) (fun r => (zQ [5, 11, 12] [(30, 3, 8), (30, 14, 16), (32, 65, 67), (32, 128, 271)] [5, 46, 48] [(38, 3, 6)]) σ0 (r.1)) := by
  unfold fX7_nextSample_59
  exact zpc_if (fun _ => zpc_ck (zpc_ck (fq_fX7_nextSample_87 hk28 h))) (fun _ => fq_fX7_nextSample_87 hk28 h)
theorem fq_fX7_nextSample_28_body {σ0 : zSt} {k28 : zSt → Int32 → Int32 → Int32 → Option (zSt × Int32)} (hk28 : ∀ (y0 : zSt) (y1 : Int32) (y2 : Int32) (y3 : Int32), (zQ [5, 11, 12] [(30, 3, 8), (30, 14, 16), (32, 65, 67), (32, 128, 271)] [5, 46, 48] [(38, 3, 6)]) σ0 y0 → zpc (k28 y0 y1 y2 y3) (fun r => (zQ [5, 11, 12] [(30, 3, 8), (30, 14, 16), (32, 65, 67), (32, 128, 271)] [5, 46, 48] [(38, 3, 6)]) σ0 (r.1))) {σ : zSt} {x1 : Int32} {x2 : Int32} {x3 : Int32} (h : (zQ [5, 11, 12] [(30, 3, 8), (30, 14, 16), (32, 65, 67), (32, 128, 271)] [5, 46, 48] [(38, 3, 6)]) σ0 σ) : zpc (fX7_nextSample_28_body k28 σ x1 x2 x3) (fun r => (zQ [5, 11, 12] [(30, 3, 8), (30, 14, 16), (32, 65, 67), (32, 128, 271)] [5, 46, 48] [(38, 3, 6)]) σ0 (r.1)) := by
  unfold fX7_nextSample_28_body
  exact zpc_if (fun _ => zpc_some h) (fun _ => zpc_if (fun _ => zpc_ck (fq_fX7_nextSample_59 hk28 h)) (fun _ => zpc_ck (fq_fX7_nextSample_59 hk28 h)))
theorem fq_fX7_nextSample_28 {σ0 : zSt} : ∀ (n : Nat) (y0 : zSt) (y1 : Int32) (y2 : Int32) (y3 : Int32), (zQ [5, 11, 12] [(30, 3, 8), (30, 14, 16), (32, 65, 67), (32, 128, 271)] [5, 46, 48] [(38, 3, 6)]) σ0 y0 → zpc (fX7_nextSample_28 n y0 y1 y2 y3) (fun r => (zQ [5, 11, 12] [(30, 3, 8), (30, 14, 16), (32, 65, 67), (32, 128, 271)] [5, 46, 48] [(38, 3, 6)]) σ0 (r.1)) := by
  intro n
  induction n with
  | zero => intro y0 y1 y2 y3 h; exact zpc_none
  | succ n ih => intro y0 y1 y2 y3 h; exact fq_fX7_nextSample_28_body ih h
theorem fq_fX7_nextSample_2_body {σ0 : zSt} {k2 : zSt → Int32 → Option (zSt × Int32)} (hk2 : ∀ (y0 : zSt) (y1 : Int32), (zQ [5, 11, 12] [(30, 3, 8), (30, 14, 16), (32, 65, 67), (32, 128, 271)] [5, 46, 48] [(38, 3, 6)]) σ0 y0 → zr 0 3 y1 → zpc (k2 y0 y1) (fun r => (zQ [5, 11, 12] [(30, 3, 8), (30, 14, 16), (32, 65, 67), (32, 128, 271)] [5, 46, 48] [(38, 3, 6)]) σ0 (r.1))) {σ : zSt} {x1 : Int32} (h : (zQ [5, 11, 12] [(30, 3, 8), (30, 14, 16), (32, 65, 67), (32, 128, 271)] [5, 46, 48] [(38, 3, 6)]) σ0 σ) (qx1 : zr 0 3 x1) : zpc (fX7_nextSample_2_body k2 σ x1) (fun r => (zQ [5, 11, 12] [(30, 3, 8), (30, 14, 16), (32, 65, 67), (32, 128, 271)] [5, 46, 48] [(38, 3, 6)]) σ0 (r.1)) := by
  unfold fX7_nextSample_2_body
  exact zpc_if (fun g1 => zpc_bu (fq_fX7_moveNoise h) (fun σ4 hσ4 => fq_fX7_nextSample_28 _ _ _ _ _ hσ4)) (fun g1 => zpc_bu (fq_fX7_moveTone h (zr_nge (k := 3) (m := 2) qx1 rfl g1 (by decide))) (fun σ5 hσ5 => zpc_bv (fun v6 ev6 => hk2 _ _ hσ5 (zr_w (show zr 1 3 v6 by rw [ev6]; exact (zr_add (lo := 1) (hi := 3) (zr_nge (k := 3) (m := 2) qx1 rfl g1 (by decide)) (zr_c (x := 1) (lo := 1) (hi := 1) (by decide)) (by decide))) (by decide)))))
theorem fq_fX7_nextSample_2 {σ0 : zSt} : ∀ (n : Nat) (y0 : zSt) (y1 : Int32), (zQ [5, 11, 12] [(30, 3, 8), (30, 14, 16), (32, 65, 67), (32, 128, 271)] [5, 46, 48] [(38, 3, 6)]) σ0 y0 → zr 0 3 y1 → zpc (fX7_nextSample_2 n y0 y1) (fun r => (zQ [5, 11, 12] [(30, 3, 8), (30, 14, 16), (32, 65, 67), (32, 128, 271)] [5, 46, 48] [(38, 3, 6)]) σ0 (r.1)) := by
  intro n
  induction n with
  | zero => intro y0 y1 h q1; exact zpc_none
  | succ n ih => intro y0 y1 h q1; exact fq_fX7_nextSample_2_body ih h q1
theorem fq_fX7_nextSample {σ0 : zSt} {σ : zSt} (h : (zQ [5, 11, 12] [(30, 3, 8), (30, 14, 16), (32, 65, 67), (32, 128, 271)] [5, 46, 48] [(38, 3, 6)]) σ0 σ) : zpc (fX7_nextSample σ) (fun r => (zQ [5, 11, 12] [(30, 3, 8), (30, 14, 16), (32, 65, 67), (32, 128, 271)] [5, 46, 48] [(38, 3, 6)]) σ0 (r.1)) := by
  unfold fX7_nextSample
  exact fq_fX7_nextSample_2 _ _ _ h (zr_w (zr_c (x := 0) (lo := 0) (hi := 0) (by decide)) (by decide))
theorem fq_fX6_add_k11_56 {σ0 : zSt} {σ : zSt} (h : (zQ [5, 11, 12] [(30, 3, 8), (30, 14, 16), (32, 65, 67), (32, 128, 271)] [5, 46, 48] [(38, 3, 6)]) σ0 σ) : zpc (fX6_add_k11_56 σ) (fun r => (zQ [5, 11, 12] [(30, 3, 8), (30, 14, 16), (32, 65, 67), (32, 128, 271)] [5, 46, 48] [(38, 3, 6)]) σ0 (r)) := by
  unfold fX6_add_k11_56
  exact zpc_some h
theorem fq_fX6_add_k11 {σ0 : zSt} {σ : zSt} {x1 : Int64} (h : (zQ [5, 11, 12] [(30, 3, 8), (30, 14, 16), (32, 65, 67), (32, 128, 271)] [5, 46, 48] [(38, 3, 6)]) σ0 σ) : zpc (fX6_add_k11 σ x1) (fun r => (zQ [5, 11, 12] [(30, 3, 8), (30, 14, 16), (32, 65, 67), (32, 128, 271)] [5, 46, 48] [(38, 3, 6)]) σ0 (r)) := by
  unfold fX6_add_k11
  exact zpc_ck (zpc_bs (zQ.wl h rfl) (fun σ1 hσ1 => zpc_if (fun _ => zpc_bs (zQ.wi hσ1 rfl) (fun σ2 hσ2 => fq_fX6_add_k11_56 hσ2)) (fun _ => zpc_bs (zQ.wi hσ1 rfl) (fun σ3 hσ3 => fq_fX6_add_k11_56 hσ3))))
theorem fq_fX0_addSample {σ0 : zSt} {σ : zSt} (h : (zQ [5, 11, 12] [(30, 3, 8), (30, 14, 16), (32, 65, 67), (32, 128, 271)] [5, 46, 48] [(38, 3, 6)]) σ0 σ) : zpc (fX0_addSample σ) (fun r => (zQ [5, 11, 12] [(30, 3, 8), (30, 14, 16), (32, 65, 67), (32, 128, 271)] [5, 46, 48] [(38, 3, 6)]) σ0 (r)) := by
  unfold fX0_addSample
  exact zpc_bi (fq_fX7_nextSample h) (fun σ1 v2 hσ1 => zpc_bu (fq_fX6_add_k11 hσ1) (fun σ3 hσ3 => zpc_ck (zpc_ck (zpc_bs (zQ.wl hσ3 rfl) (fun σ4 hσ4 => zpc_ck (zpc_ck (zpc_bs (zQ.wl hσ4 rfl) (fun σ5 hσ5 => zpc_ck (zpc_ck (zpc_bs (zQ.wl hσ5 rfl) (fun σ6 hσ6 => zpc_ck (zpc_ck (zpc_bs (zQ.wl hσ6 rfl) (fun σ7 hσ7 => zpc_some hσ7))))))))))))))
theorem fq_fX10_takeOwnPatch_7_body {σ0 : zSt} {k7 : zSt → Int32 → Option (zSt)} (hk7 : ∀ (y0 : zSt) (y1 : Int32), (zQ [5, 11, 12] [(30, 3, 8), (30, 14, 16), (32, 65, 67), (32, 128, 271)] [5, 46, 48] [(38, 3, 6)]) σ0 y0 → zpc (k7 y0 y1) (fun r => (zQ [5, 11, 12] [(30, 3, 8), (30, 14, 16), (32, 65, 67), (32, 128, 271)] [5, 46, 48] [(38, 3, 6)]) σ0 (r))) {σ : zSt} {x1 : Int32} (h : (zQ [5, 11, 12] [(30, 3, 8), (30, 14, 16), (32, 65, 67), (32, 128, 271)] [5, 46, 48] [(38, 3, 6)]) σ0 σ) : zpc (fX10_takeOwnPatch_7_body k7 σ x1) (fun r => (zQ [5, 11, 12] [(30, 3, 8), (30, 14, 16), (32, 65, 67), (32, 128, 271)] [5, 46, 48] [(38, 3, 6)]) σ0 (r)) := by
  unfold fX10_takeOwnPatch_7_body
  exact zpc_if (fun _ => zpc_some h) (fun _ => zpc_ck (zpc_bs (zQ.wl h rfl) (fun σ1 hσ1 => zpc_bv (fun v2 _ => hk7 _ _ hσ1))))
theorem fq_fX10_takeOwnPatch_7 {σ0 : zSt} : ∀ (n : Nat) (y0 : zSt) (y1 : Int32), (zQ [5, 11, 12] [(30, 3, 8), (30, 14, 16), (32, 65, 67), (32, 128, 271)] [5, 46, 48] [(38, 3, 6)]) σ0 y0 → zpc (fX10_takeOwnPatch_7 n y0 y1) (fun r => (zQ [5, 11, 12] [(30, 3, 8), (30, 14, 16), (32, 65, 67), (32, 128, 271)] [5, 46, 48] [(38, 3, 6)]) σ0 (r)) := by
  intro n
  induction n with
  | zero => intro y0 y1 h; exact zpc_none
  | succ n ih => intro y0 y1 h; exact fq_fX10_takeOwnPatch_7_body ih h
theorem fq_fX10_takeOwnPatch {σ0 : zSt} {σ : zSt} (h : (zQ [5, 11, 12] [(30, 3, 8), (30, 14, 16), (32, 65, 67), (32, 128, 271)] [5, 46, 48] [(38, 3, 6)]) σ0 σ) : zpc (fX10_takeOwnPatch σ) (fun r => (zQ [5, 11, 12] [(30, 3, 8), (30, 14, 16), (32, 65, 67), (32, 128, 271)] [5, 46, 48] [(38, 3, 6)]) σ0 (r)) := by
  unfold fX10_takeOwnPatch
  exact zpc_bs (zQ.wl h rfl) (fun σ3 hσ3 => fq_fX10_takeOwnPatch_7 _ _ _ hσ3)
theorem fq_fX10_takeChannel_110 {σ0 : zSt} {σ : zSt} {s0 : Int64} (h : (zQ [5, 11, 12] [(30, 3, 8), (30, 14, 16), (32, 65, 67), (32, 128, 271)] [5, 46, 48] [(38, 3, 6)]) σ0 σ) : zpc (fX10_takeChannel_110 σ s0) (fun r => (zQ [5, 11, 12] [(30, 3, 8), (30, 14, 16), (32, 65, 67), (32, 128, 271)] [5, 46, 48] [(38, 3, 6)]) σ0 (r)) := by
  unfold fX10_takeChannel_110
  exact zpc_bs (zQ.wl h rfl) (fun σ1 hσ1 => zpc_some hσ1)
theorem fq_fX10_takeChannel_106 {σ0 : zSt} {σ : zSt} (h : (zQ [5, 11, 12] [(30, 3, 8), (30, 14, 16), (32, 65, 67), (32, 128, 271)] [5, 46, 48] [(38, 3, 6)]) σ0 σ) : zpc (fX10_takeChannel_106 σ) (fun r => (zQ [5, 11, 12] [(30, 3, 8), (30, 14, 16), (32, 65, 67), (32, 128, 271)] [5, 46, 48] [(38, 3, 6)]) σ0 (r)) := by
  unfold fX10_takeChannel_106
  exact fq_fX10_takeChannel_110 h
theorem fq_fX10_takeChannel_82 {σ0 : zSt} {σ : zSt} {s0 : Int32} (h : (zQ [5, 11, 12] [(30, 3, 8), (30, 14, 16), (32, 65, 67), (32, 128, 271)] [5, 46, 48] [(38, 3, 6)]) σ0 σ) : zpc (fX10_takeChannel_82 σ s0) (fun r => (zQ [5, 11, 12] [(30, 3, 8), (30, 14, 16), (32, 65, 67), (32, 128, 271)] [5, 46, 48] [(38, 3, 6)]) σ0 (r)) := by
  unfold fX10_takeChannel_82
  exact zpc_if (fun _ => fq_fX10_takeChannel_106 h) (fun _ => zpc_if (fun _ => fq_fX10_takeChannel_106 h) (fun _ => zpc_ck (fq_fX10_takeChannel_110 h)))
theorem fq_fX10_takeChannel_71 {σ0 : zSt} {σ : zSt} {x1 : Int32} (h : (zQ [5, 11, 12] [(30, 3, 8), (30, 14, 16), (32, 65, 67), (32, 128, 271)] [5, 46, 48] [(38, 3, 6)]) σ0 σ) : zpc (fX10_takeChannel_71 σ x1) (fun r => (zQ [5, 11, 12] [(30, 3, 8), (30, 14, 16), (32, 65, 67), (32, 128, 271)] [5, 46, 48] [(38, 3, 6)]) σ0 (r)) := by
  unfold fX10_takeChannel_71
  exact zpc_ck (fq_fX10_takeChannel_82 h)
theorem fq_fX10_takeChannel {σ0 : zSt} {σ : zSt} {x1 : Int32} (h : (zQ [5, 11, 12] [(30, 3, 8), (30, 14, 16), (32, 65, 67), (32, 128, 271)] [5, 46, 48] [(38, 3, 6)]) σ0 σ) : zpc (fX10_takeChannel σ x1) (fun r => (zQ [5, 11, 12] [(30, 3, 8), (30, 14, 16), (32, 65, 67), (32, 128, 271)] [5, 46, 48] [(38, 3, 6)]) σ0 (r)) := by
  unfold fX10_takeChannel
  exact zpc_bs (zQ.wi h rfl) (fun σ2 hσ2 => zpc_ck (zpc_ck (zpc_bs (zQ.wi hσ2 rfl) (fun σ3 hσ3 => zpc_ck (zpc_bs (zQ.wi hσ3 rfl) (fun σ4 hσ4 => zpc_if (fun _ => fq_fX10_takeChannel_71 hσ4) (fun _ => zpc_if (fun _ => fq_fX10_takeChannel_71 hσ4) (fun _ => fq_fX10_takeChannel_82 hσ4))))))))
theorem fq_fX10_isOn_131 {σ0 : zSt} {σ : zSt} {s0 : Int32} (h : (zQ [5, 11, 12] [(30, 3, 8), (30, 14, 16), (32, 65, 67), (32, 128, 271)] [5, 46, 48] [(38, 3, 6)]) σ0 σ) : zpc (fX10_isOn_131 σ s0) (fun r => (zQ [5, 11, 12] [(30, 3, 8), (30, 14, 16), (32, 65, 67), (32, 128, 271)] [5, 46, 48] [(38, 3, 6)]) σ0 (r.1)) := by
  unfold fX10_isOn_131
  exact zpc_ck (zpc_some h)
theorem fq_fX10_isOn_122 {σ0 : zSt} {σ : zSt} {s0 : Int32} {s1 : Int32} (h : (zQ [5, 11, 12] [(30, 3, 8), (30, 14, 16), (32, 65, 67), (32, 128, 271)] [5, 46, 48] [(38, 3, 6)]) σ0 σ) : zpc (fX10_isOn_122 σ s0 s1) (fun r => (zQ [5, 11, 12] [(30, 3, 8), (30, 14, 16), (32, 65, 67), (32, 128, 271)] [5, 46, 48] [(38, 3, 6)]) σ0 (r.1)) := by
  unfold fX10_isOn_122
  exact zpc_if (fun _ => fq_fX10_isOn_131 h) (fun _ => fq_fX10_isOn_131 h)
theorem fq_fX10_isOn_105 {σ0 : zSt} {σ : zSt} {s0 : Int32} (h : (zQ [5, 11, 12] [(30, 3, 8), (30, 14, 16), (32, 65, 67), (32, 128, 271)] [5, 46, 48] [(38, 3, 6)]) σ0 σ) : zpc (fX10_isOn_105 σ s0) (fun r => (zQ [5, 11, 12] [(30, 3, 8), (30, 14, 16), (32, 65, 67), (32, 128, 271)] [5, 46, 48] [(38, 3, 6)]) σ0 (r.1)) := by
  unfold fX10_isOn_105
  exact zpc_ck (zpc_some h)
theorem fq_fX10_isOn_96 {σ0 : zSt} {σ : zSt} {s0 : Int32} {s1 : Int32} (h : (zQ [5, 11, 12] [(30, 3, 8), (30, 14, 16), (32, 65, 67), (32, 128, 271)] [5, 46, 48] [(38, 3, 6)]) σ0 σ) : zpc (fX10_isOn_96 σ s0 s1) (fun r => (zQ [5, 11, 12] [(30, 3, 8), (30, 14, 16), (32, 65, 67), (32, 128, 271)] [5, 46, 48] [(38, 3, 6)]) σ0 (r.1)) := by
  unfold fX10_isOn_96
  exact zpc_if (fun _ => fq_fX10_isOn_105 h) (fun _ => fq_fX10_isOn_105 h)
theorem fq_fX10_isOn_78 {σ0 : zSt} {σ : zSt} {s0 : Int32} (h : (zQ [5, 11, 12] [(30, 3, 8), (30, 14, 16), (32, 65, 67), (32, 128, 271)] [5, 46, 48] [(38, 3, 6)]) σ0 σ) : zpc (fX10_isOn_78 σ s0) (fun r => (zQ [5, 11, 12] [(30, 3, 8), (30, 14, 16), (32, 65, 67), (32, 128, 271)] [5, 46, 48] [(38, 3, 6)]) σ0 (r.1)) := by
  unfold fX10_isOn_78
  exact zpc_ck (zpc_some h)
theorem fq_fX10_isOn {σ0 : zSt} {σ : zSt} {x1 : Int32} (h : (zQ [5, 11, 12] [(30, 3, 8), (30, 14, 16), (32, 65, 67), (32, 128, 271)] [5, 46, 48] [(38, 3, 6)]) σ0 σ) : zpc (fX10_isOn σ x1) (fun r => (zQ [5, 11, 12] [(30, 3, 8), (30, 14, 16), (32, 65, 67), (32, 128, 271)] [5, 46, 48] [(38, 3, 6)]) σ0 (r.1)) := by
  unfold fX10_isOn
  exact zpc_ck (zpc_if (fun _ => zpc_if (fun _ => zpc_ck (zpc_some h)) (fun _ => zpc_if (fun _ => zpc_ck (zpc_if (fun _ => fq_fX10_isOn_78 h) (fun _ => fq_fX10_isOn_78 h))) (fun _ => zpc_if (fun _ => zpc_ck (zpc_if (fun _ => fq_fX10_isOn_96 h) (fun _ => fq_fX10_isOn_96 h))) (fun _ => zpc_if (fun _ => zpc_ck (zpc_if (fun _ => fq_fX10_isOn_122 h) (fun _ => fq_fX10_isOn_122 h))) (fun _ => zpc_ck (zpc_some h)))))) (fun _ => zpc_ck (zpc_some h)))
theorem fq_fX10_part {σ0 : zSt} {σ : zSt} {x1 : Int32} (h : (zQ [5, 11, 12] [(30, 3, 8), (30, 14, 16), (32, 65, 67), (32, 128, 271)] [5, 46, 48] [(38, 3, 6)]) σ0 σ) : zpc (fX10_part σ x1) (fun r => (zQ [5, 11, 12] [(30, 3, 8), (30, 14, 16), (32, 65, 67), (32, 128, 271)] [5, 46, 48] [(38, 3, 6)]) σ0 (r.1)) := by
  unfold fX10_part
  exact zpc_some h
theorem fq_fX10_rateIn_126 {σ0 : zSt} {σ : zSt} {s0 : Int32} (h : (zQ [5, 11, 12] [(30, 3, 8), (30, 14, 16), (32, 65, 67), (32, 128, 271)] [5, 46, 48] [(38, 3, 6)]) σ0 σ) : zpc (fX10_rateIn_126 σ s0) (fun r => (zQ [5, 11, 12] [(30, 3, 8), (30, 14, 16), (32, 65, 67), (32, 128, 271)] [5, 46, 48] [(38, 3, 6)]) σ0 (r.1)) := by
  unfold fX10_rateIn_126
  exact zpc_some h
theorem fq_fX10_rateIn_94 {σ0 : zSt} {σ : zSt} {s0 : Int32} (h : (zQ [5, 11, 12] [(30, 3, 8), (30, 14, 16), (32, 65, 67), (32, 128, 271)] [5, 46, 48] [(38, 3, 6)]) σ0 σ) : zpc (fX10_rateIn_94 σ s0) (fun r => (zQ [5, 11, 12] [(30, 3, 8), (30, 14, 16), (32, 65, 67), (32, 128, 271)] [5, 46, 48] [(38, 3, 6)]) σ0 (r.1)) := by
  unfold fX10_rateIn_94
  exact zpc_some h
theorem fq_fX10_rateIn_16 {σ0 : zSt} {σ : zSt} {x1 : Int32} {x2 : Int32} {s0 : Int32} (h : (zQ [5, 11, 12] [(30, 3, 8), (30, 14, 16), (32, 65, 67), (32, 128, 271)] [5, 46, 48] [(38, 3, 6)]) σ0 σ) : zpc (fX10_rateIn_16 σ x1 x2 s0) (fun r => (zQ [5, 11, 12] [(30, 3, 8), (30, 14, 16), (32, 65, 67), (32, 128, 271)] [5, 46, 48] [(38, 3, 6)]) σ0 (r.1)) := by
  unfold fX10_rateIn_16
  exact zpc_bi (fq_fX10_part h) (fun σ1 v2 hσ1 => zpc_bv (fun v3 _ => zpc_if (fun _ => zpc_some hσ1) (fun _ => zpc_if (fun _ => zpc_bi (fq_fX10_part hσ1) (fun σ4 v5 hσ4 => zpc_some hσ4)) (fun _ => zpc_if (fun _ => zpc_bi (fq_fX10_part hσ1) (fun σ6 v7 hσ6 => zpc_some hσ6)) (fun _ => zpc_if (fun _ => zpc_if (fun _ => fq_fX10_rateIn_94 hσ1) (fun _ => fq_fX10_rateIn_94 hσ1)) (fun _ => zpc_ck (zpc_if (fun _ => zpc_if (fun _ => fq_fX10_rateIn_126 hσ1) (fun _ => fq_fX10_rateIn_126 hσ1)) (fun _ => zpc_some hσ1))))))))
theorem fq_fX10_rateIn {σ0 : zSt} {σ : zSt} {x1 : Int32} {x2 : Int32} (h : (zQ [5, 11, 12] [(30, 3, 8), (30, 14, 16), (32, 65, 67), (32, 128, 271)] [5, 46, 48] [(38, 3, 6)]) σ0 σ) : zpc (fX10_rateIn σ x1 x2) (fun r => (zQ [5, 11, 12] [(30, 3, 8), (30, 14, 16), (32, 65, 67), (32, 128, 271)] [5, 46, 48] [(38, 3, 6)]) σ0 (r.1)) := by
  unfold fX10_rateIn
  exact zpc_bi (fq_fX10_part h) (fun σ8 v9 hσ8 => zpc_if (fun _ => fq_fX10_rateIn_16 hσ8) (fun _ => fq_fX10_rateIn_16 hσ8))
theorem fq_fX10_slowTick {σ0 : zSt} {σ : zSt} (h : (zQ [5, 11, 12] [(30, 3, 8), (30, 14, 16), (32, 65, 67), (32, 128, 271)] [5, 46, 48] [(38, 3, 6)]) σ0 σ) : zpc (fX10_slowTick σ) (fun r => (zQ [5, 11, 12] [(30, 3, 8), (30, 14, 16), (32, 65, 67), (32, 128, 271)] [5, 46, 48] [(38, 3, 6)]) σ0 (r.1)) := by
  unfold fX10_slowTick
  exact zpc_ck (zpc_some h)
theorem fq_fX10_tickAt_53 {σ0 : zSt} {σ : zSt} {s0 : Int32} (h : (zQ [5, 11, 12] [(30, 3, 8), (30, 14, 16), (32, 65, 67), (32, 128, 271)] [5, 46, 48] [(38, 3, 6)]) σ0 σ) : zpc (fX10_tickAt_53 σ s0) (fun r => (zQ [5, 11, 12] [(30, 3, 8), (30, 14, 16), (32, 65, 67), (32, 128, 271)] [5, 46, 48] [(38, 3, 6)]) σ0 (r.1)) := by
  unfold fX10_tickAt_53
  exact zpc_some h
theorem fq_fX10_tickAt_26 {σ0 : zSt} {σ : zSt} {x2 : Int32} {x3 : Int32} {s0 : Int32} (h : (zQ [5, 11, 12] [(30, 3, 8), (30, 14, 16), (32, 65, 67), (32, 128, 271)] [5, 46, 48] [(38, 3, 6)]) σ0 σ) : zpc (fX10_tickAt_26 σ x2 x3 s0) (fun r => (zQ [5, 11, 12] [(30, 3, 8), (30, 14, 16), (32, 65, 67), (32, 128, 271)] [5, 46, 48] [(38, 3, 6)]) σ0 (r.1)) := by
  unfold fX10_tickAt_26
  exact zpc_if (fun _ => fq_fX10_tickAt_53 h) (fun _ => zpc_ck (fq_fX10_tickAt_53 h))
theorem fq_fX10_tickAt {σ0 : zSt} {σ : zSt} {x1 : Int32} {x2 : Int32} (h : (zQ [5, 11, 12] [(30, 3, 8), (30, 14, 16), (32, 65, 67), (32, 128, 271)] [5, 46, 48] [(38, 3, 6)]) σ0 σ) : zpc (fX10_tickAt σ x1 x2) (fun r => (zQ [5, 11, 12] [(30, 3, 8), (30, 14, 16), (32, 65, 67), (32, 128, 271)] [5, 46, 48] [(38, 3, 6)]) σ0 (r.1)) := by
  unfold fX10_tickAt
  exact zpc_bv (fun v1 _ => zpc_ck (zpc_if (fun _ => fq_fX10_tickAt_26 h) (fun _ => fq_fX10_tickAt_26 h)))
theorem fq_fX10_louder_56 {σ0 : zSt} {σ : zSt} {s0 : Int32} (h : (zQ [5, 11, 12] [(30, 3, 8), (30, 14, 16), (32, 65, 67), (32, 128, 271)] [5, 46, 48] [(38, 3, 6)]) σ0 σ) : zpc (fX10_louder_56 σ s0) (fun r => (zQ [5, 11, 12] [(30, 3, 8), (30, 14, 16), (32, 65, 67), (32, 128, 271)] [5, 46, 48] [(38, 3, 6)]) σ0 (r.1)) := by
  unfold fX10_louder_56
  exact zpc_some h
theorem fq_fX10_louder {σ0 : zSt} {σ : zSt} {x1 : Int32} {x2 : Int32} {x3 : Int32} (h : (zQ [5, 11, 12] [(30, 3, 8), (30, 14, 16), (32, 65, 67), (32, 128, 271)] [5, 46, 48] [(38, 3, 6)]) σ0 σ) : zpc (fX10_louder σ x1 x2 x3) (fun r => (zQ [5, 11, 12] [(30, 3, 8), (30, 14, 16), (32, 65, 67), (32, 128, 271)] [5, 46, 48] [(38, 3, 6)]) σ0 (r.1)) := by
  unfold fX10_louder
  exact zpc_if (fun _ => zpc_some h) (fun _ => zpc_if (fun _ => zpc_bi (fq_fX10_tickAt h) (fun σ1 v2 hσ1 => zpc_if (fun _ => zpc_ck (fq_fX10_louder_56 hσ1)) (fun _ => fq_fX10_louder_56 hσ1))) (fun _ => zpc_bi (fq_fX10_slowTick h) (fun σ3 v4 hσ3 => zpc_some hσ3)))
theorem fq_fX10_softer {σ0 : zSt} {σ : zSt} {x1 : Int32} {x2 : Int32} (h : (zQ [5, 11, 12] [(30, 3, 8), (30, 14, 16), (32, 65, 67), (32, 128, 271)] [5, 46, 48] [(38, 3, 6)]) σ0 σ) : zpc (fX10_softer σ x1 x2) (fun r => (zQ [5, 11, 12] [(30, 3, 8), (30, 14, 16), (32, 65, 67), (32, 128, 271)] [5, 46, 48] [(38, 3, 6)]) σ0 (r.1)) := by
  unfold fX10_softer
  exact zpc_if (fun _ => zpc_bi (fq_fX10_slowTick h) (fun σ1 v2 hσ1 => zpc_ck (zpc_some hσ1))) (fun _ => zpc_if (fun _ => zpc_bi (fq_fX10_slowTick h) (fun σ3 v4 hσ3 => zpc_some hσ3)) (fun _ => zpc_if (fun _ => zpc_some h) (fun _ => zpc_bi (fq_fX10_tickAt h) (fun σ5 v6 hσ5 => zpc_some hσ5))))
theorem fq_fX10_moveLevel_148 {σ0 : zSt} {σ : zSt} (h : (zQ [5, 11, 12] [(30, 3, 8), (30, 14, 16), (32, 65, 67), (32, 128, 271)] [5, 46, 48] [(38, 3, 6)]) σ0 σ) : zpc (fX10_moveLevel_148 σ) (fun r => (zQ [5, 11, 12] [(30, 3, 8), (30, 14, 16), (32, 65, 67), (32, 128, 271)] [5, 46, 48] [(38, 3, 6)]) σ0 (r)) := by
  unfold fX10_moveLevel_148
  exact zpc_some h
theorem fq_fX10_moveLevel_52 {σ0 : zSt} {σ : zSt} {x1 : Int32} {x3 : Int32} {x4 : Int32} (h : (zQ [5, 11, 12] [(30, 3, 8), (30, 14, 16), (32, 65, 67), (32, 128, 271)] [5, 46, 48] [(38, 3, 6)]) σ0 σ) (qx1 : zr 128 264 x1) : zpc (fX10_moveLevel_52 σ x1 x3 x4) (fun r => (zQ [5, 11, 12] [(30, 3, 8), (30, 14, 16), (32, 65, 67), (32, 128, 271)] [5, 46, 48] [(38, 3, 6)]) σ0 (r)) := by
  unfold fX10_moveLevel_52
  exact zpc_ck (zpc_bv (fun v1 _ => zpc_ck (zpc_bv (fun v2 _ => zpc_ck (zpc_if (fun _ => zpc_ck (zpc_bi (fq_fX10_louder h) (fun σ6 v7 hσ6 => zpc_ck (zpc_bs (zQ.wr (a := 128) (b := 271) (lo := 128) (hi := 264) hσ6 (zr_add (lo := 128) (hi := 264) qx1 (zr_c (x := 0) (lo := 0) (hi := 0) (by decide)) (by decide)) rfl (by decide)) (fun σ8 hσ8 => fq_fX10_moveLevel_148 hσ8))))) (fun _ => zpc_ck (zpc_bi (fq_fX10_softer h) (fun σ3 v4 hσ3 => zpc_ck (zpc_bs (zQ.wr (a := 128) (b := 271) (lo := 128) (hi := 264) hσ3 (zr_add (lo := 128) (hi := 264) qx1 (zr_c (x := 0) (lo := 0) (hi := 0) (by decide)) (by decide)) rfl (by decide)) (fun σ5 hσ5 => fq_fX10_moveLevel_148 hσ5))))))))))
theorem fq_fX10_moveLevel {σ0 : zSt} {σ : zSt} {x1 : Int32} {x2 : Int32} (h : (zQ [5, 11, 12] [(30, 3, 8), (30, 14, 16), (32, 65, 67), (32, 128, 271)] [5, 46, 48] [(38, 3, 6)]) σ0 σ) (qx1 : zr 128 264 x1) : zpc (fX10_moveLevel σ x1 x2) (fun r => (zQ [5, 11, 12] [(30, 3, 8), (30, 14, 16), (32, 65, 67), (32, 128, 271)] [5, 46, 48] [(38, 3, 6)]) σ0 (r)) := by
  unfold fX10_moveLevel
  exact zpc_ck (zpc_bi (fq_fX10_rateIn h) (fun σ9 v10 hσ9 => zpc_if (fun _ => zpc_some hσ9) (fun _ => zpc_bv (fun v11 _ => zpc_bi (fq_fX10_part hσ9) (fun σ12 v13 hσ12 => zpc_if (fun _ => zpc_ck (zpc_bv (fun v14 _ => fq_fX10_moveLevel_52 hσ12 qx1))) (fun _ => fq_fX10_moveLevel_52 hσ12 qx1))))))
theorem fq_fX10_moveState_96 {σ0 : zSt} {σ : zSt} (h : (zQ [5, 11, 12] [(30, 3, 8), (30, 14, 16), (32, 65, 67), (32, 128, 271)] [5, 46, 48] [(38, 3, 6)]) σ0 σ) : zpc (fX10_moveState_96 σ) (fun r => (zQ [5, 11, 12] [(30, 3, 8), (30, 14, 16), (32, 65, 67), (32, 128, 271)] [5, 46, 48] [(38, 3, 6)]) σ0 (r)) := by
  unfold fX10_moveState_96
  exact zpc_some h
theorem fq_fX10_moveState_73 {σ0 : zSt} {σ : zSt} {x1 : Int32} {x2 : Int32} {x3 : Int32} {x4 : Int32} (h : (zQ [5, 11, 12] [(30, 3, 8), (30, 14, 16), (32, 65, 67), (32, 128, 271)] [5, 46, 48] [(38, 3, 6)]) σ0 σ) (qx1 : zr 128 264 x1) : zpc (fX10_moveState_73 σ x1 x2 x3 x4) (fun r => (zQ [5, 11, 12] [(30, 3, 8), (30, 14, 16), (32, 65, 67), (32, 128, 271)] [5, 46, 48] [(38, 3, 6)]) σ0 (r)) := by
  unfold fX10_moveState_73
  exact zpc_if (fun _ => zpc_ck (zpc_if (fun _ => fq_fX10_moveState_96 h) (fun _ => zpc_ck (zpc_bs (zQ.wr (a := 128) (b := 271) (lo := 129) (hi := 265) h (zr_add (lo := 129) (hi := 265) qx1 (zr_c (x := 1) (lo := 1) (hi := 1) (by decide)) (by decide)) rfl (by decide)) (fun σ1 hσ1 => fq_fX10_moveState_96 hσ1))))) (fun _ => fq_fX10_moveState_96 h)
theorem fq_fX10_moveState_51 {σ0 : zSt} {σ : zSt} {x1 : Int32} {x2 : Int32} {x3 : Int32} {x4 : Int32} (h : (zQ [5, 11, 12] [(30, 3, 8), (30, 14, 16), (32, 65, 67), (32, 128, 271)] [5, 46, 48] [(38, 3, 6)]) σ0 σ) (qx1 : zr 128 264 x1) : zpc (fX10_moveState_51 σ x1 x2 x3 x4) (fun r => (zQ [5, 11, 12] [(30, 3, 8), (30, 14, 16), (32, 65, 67), (32, 128, 271)] [5, 46, 48] [(38, 3, 6)]) σ0 (r)) := by
  unfold fX10_moveState_51
  exact zpc_if (fun _ => zpc_if (fun _ => zpc_ck (zpc_bs (zQ.wr (a := 128) (b := 271) (lo := 129) (hi := 265) h (zr_add (lo := 129) (hi := 265) qx1 (zr_c (x := 1) (lo := 1) (hi := 1) (by decide)) (by decide)) rfl (by decide)) (fun σ2 hσ2 => fq_fX10_moveState_96 hσ2))) (fun _ => fq_fX10_moveState_73 h qx1)) (fun _ => fq_fX10_moveState_73 h qx1)
theorem fq_fX10_moveState {σ0 : zSt} {σ : zSt} {x1 : Int32} {x2 : Int32} (h : (zQ [5, 11, 12] [(30, 3, 8), (30, 14, 16), (32, 65, 67), (32, 128, 271)] [5, 46, 48] [(38, 3, 6)]) σ0 σ) (qx1 : zr 128 264 x1) : zpc (fX10_moveState σ x1 x2) (fun r => (zQ [5, 11, 12] [(30, 3, 8), (30, 14, 16), (32, 65, 67), (32, 128, 271)] [5, 46, 48] [(38, 3, 6)]) σ0 (r)) := by
  unfold fX10_moveState
  exact zpc_ck (zpc_bv (fun v3 _ => zpc_ck (zpc_bv (fun v4 _ => zpc_if (fun _ => zpc_if (fun _ => fq_fX10_moveState_51 h qx1) (fun _ => zpc_ck (zpc_bs (zQ.wr (a := 128) (b := 271) (lo := 129) (hi := 265) h (zr_add (lo := 129) (hi := 265) qx1 (zr_c (x := 1) (lo := 1) (hi := 1) (by decide)) (by decide)) rfl (by decide)) (fun σ5 hσ5 => zpc_ck (zpc_bs (zQ.wr (a := 128) (b := 271) (lo := 130) (hi := 266) hσ5 (zr_add (lo := 130) (hi := 266) qx1 (zr_c (x := 2) (lo := 2) (hi := 2) (by decide)) (by decide)) rfl (by decide)) (fun σ6 hσ6 => fq_fX10_moveState_96 hσ6)))))) (fun _ => fq_fX10_moveState_51 h qx1)))))
theorem fq_fX10_sway_56 {σ0 : zSt} {σ : zSt} {x1 : Int32} (h : (zQ [5, 11, 12] [(30, 3, 8), (30, 14, 16), (32, 65, 67), (32, 128, 271)] [5, 46, 48] [(38, 3, 6)]) σ0 σ) : zpc (fX10_sway_56 σ x1) (fun r => (zQ [5, 11, 12] [(30, 3, 8), (30, 14, 16), (32, 65, 67), (32, 128, 271)] [5, 46, 48] [(38, 3, 6)]) σ0 (r.1)) := by
  unfold fX10_sway_56
  exact zpc_ck (zpc_some h)
theorem fq_fX10_sway_70 {σ0 : zSt} {σ : zSt} (h : (zQ [5, 11, 12] [(30, 3, 8), (30, 14, 16), (32, 65, 67), (32, 128, 271)] [5, 46, 48] [(38, 3, 6)]) σ0 σ) : zpc (fX10_sway_70 σ) (fun r => (zQ [5, 11, 12] [(30, 3, 8), (30, 14, 16), (32, 65, 67), (32, 128, 271)] [5, 46, 48] [(38, 3, 6)]) σ0 (r.1)) := by
  unfold fX10_sway_70
  exact zpc_some h
theorem fq_fX10_sway_62 {σ0 : zSt} {σ : zSt} {x1 : Int32} (h : (zQ [5, 11, 12] [(30, 3, 8), (30, 14, 16), (32, 65, 67), (32, 128, 271)] [5, 46, 48] [(38, 3, 6)]) σ0 σ) : zpc (fX10_sway_62 σ x1) (fun r => (zQ [5, 11, 12] [(30, 3, 8), (30, 14, 16), (32, 65, 67), (32, 128, 271)] [5, 46, 48] [(38, 3, 6)]) σ0 (r.1)) := by
  unfold fX10_sway_62
  exact zpc_ck (zpc_some h)
theorem fq_fX10_sway {σ0 : zSt} {σ : zSt} {x1 : Int32} (h : (zQ [5, 11, 12] [(30, 3, 8), (30, 14, 16), (32, 65, 67), (32, 128, 271)] [5, 46, 48] [(38, 3, 6)]) σ0 σ) : zpc (fX10_sway σ x1) (fun r => (zQ [5, 11, 12] [(30, 3, 8), (30, 14, 16), (32, 65, 67), (32, 128, 271)] [5, 46, 48] [(38, 3, 6)]) σ0 (r.1)) := by
  unfold fX10_sway
  exact zpc_ck (zpc_if (fun _ => fq_fX10_sway_56 h) (fun _ => zpc_if (fun _ => zpc_some h) (fun _ => zpc_if (fun _ => fq_fX10_sway_56 h) (fun _ => zpc_if (fun _ => fq_fX10_sway_70 h) (fun _ => zpc_if (fun _ => fq_fX10_sway_62 h) (fun _ => zpc_if (fun _ => zpc_some h) (fun _ => zpc_if (fun _ => fq_fX10_sway_62 h) (fun _ => fq_fX10_sway_70 h))))))))
theorem fq_fX10_movePhase_22 {σ0 : zSt} {σ : zSt} {x1 : Int32} {x2 : Int32} {s0 : Int32} (h : (zQ [5, 11, 12] [(30, 3, 8), (30, 14, 16), (32, 65, 67), (32, 128, 271)] [5, 46, 48] [(38, 3, 6)]) σ0 σ) (qx1 : zr 128 264 x1) : zpc (fX10_movePhase_22 σ x1 x2 s0) (fun r => (zQ [5, 11, 12] [(30, 3, 8), (30, 14, 16), (32, 65, 67), (32, 128, 271)] [5, 46, 48] [(38, 3, 6)]) σ0 (r)) := by
  unfold fX10_movePhase_22
  exact zpc_ck (zpc_ck (zpc_bv (fun v1 _ => zpc_ck (zpc_ck (zpc_bs (zQ.wr (a := 128) (b := 271) (lo := 130) (hi := 266) h (zr_add (lo := 130) (hi := 266) qx1 (zr_c (x := 2) (lo := 2) (hi := 2) (by decide)) (by decide)) rfl (by decide)) (fun σ2 hσ2 => zpc_some hσ2))))))
theorem fq_fX10_movePhase {σ0 : zSt} {σ : zSt} {x1 : Int32} {x2 : Int32} (h : (zQ [5, 11, 12] [(30, 3, 8), (30, 14, 16), (32, 65, 67), (32, 128, 271)] [5, 46, 48] [(38, 3, 6)]) σ0 σ) (qx1 : zr 128 264 x1) : zpc (fX10_movePhase σ x1 x2) (fun r => (zQ [5, 11, 12] [(30, 3, 8), (30, 14, 16), (32, 65, 67), (32, 128, 271)] [5, 46, 48] [(38, 3, 6)]) σ0 (r)) := by
  unfold fX10_movePhase
  exact zpc_if (fun _ => fq_fX10_movePhase_22 h qx1) (fun _ => zpc_ck (zpc_bi (fq_fX10_sway h) (fun σ3 v4 hσ3 => fq_fX10_movePhase_22 hσ3 qx1)))
theorem fq_fX10_drumPhase_115 {σ0 : zSt} {σ : zSt} {s0 : Int32} (h : (zQ [5, 11, 12] [(30, 3, 8), (30, 14, 16), (32, 65, 67), (32, 128, 271)] [5, 46, 48] [(38, 3, 6)]) σ0 σ) : zpc (fX10_drumPhase_115 σ s0) (fun r => (zQ [5, 11, 12] [(30, 3, 8), (30, 14, 16), (32, 65, 67), (32, 128, 271)] [5, 46, 48] [(38, 3, 6)]) σ0 (r.1)) := by
  unfold fX10_drumPhase_115
  exact zpc_some h
theorem fq_fX10_drumPhase_155 {σ0 : zSt} {σ : zSt} {s0 : Int32} (h : (zQ [5, 11, 12] [(30, 3, 8), (30, 14, 16), (32, 65, 67), (32, 128, 271)] [5, 46, 48] [(38, 3, 6)]) σ0 σ) : zpc (fX10_drumPhase_155 σ s0) (fun r => (zQ [5, 11, 12] [(30, 3, 8), (30, 14, 16), (32, 65, 67), (32, 128, 271)] [5, 46, 48] [(38, 3, 6)]) σ0 (r.1)) := by
  unfold fX10_drumPhase_155
  exact zpc_some h
theorem fq_fX10_drumPhase_193 {σ0 : zSt} {σ : zSt} {s0 : Int32} (h : (zQ [5, 11, 12] [(30, 3, 8), (30, 14, 16), (32, 65, 67), (32, 128, 271)] [5, 46, 48] [(38, 3, 6)]) σ0 σ) : zpc (fX10_drumPhase_193 σ s0) (fun r => (zQ [5, 11, 12] [(30, 3, 8), (30, 14, 16), (32, 65, 67), (32, 128, 271)] [5, 46, 48] [(38, 3, 6)]) σ0 (r.1)) := by
  unfold fX10_drumPhase_193
  exact zpc_some h
theorem fq_fX10_drumPhase_82 {σ0 : zSt} {σ : zSt} {x1 : Int32} {x2 : Int32} {x5 : Int32} {s0 : Int32} (h : (zQ [5, 11, 12] [(30, 3, 8), (30, 14, 16), (32, 65, 67), (32, 128, 271)] [5, 46, 48] [(38, 3, 6)]) σ0 σ) : zpc (fX10_drumPhase_82 σ x1 x2 x5 s0) (fun r => (zQ [5, 11, 12] [(30, 3, 8), (30, 14, 16), (32, 65, 67), (32, 128, 271)] [5, 46, 48] [(38, 3, 6)]) σ0 (r.1)) := by
  unfold fX10_drumPhase_82
  exact zpc_if (fun _ => zpc_if (fun _ => fq_fX10_drumPhase_115 h) (fun _ => zpc_if (fun _ => fq_fX10_drumPhase_115 h) (fun _ => fq_fX10_drumPhase_115 h))) (fun _ => zpc_if (fun _ => zpc_if (fun _ => zpc_if (fun _ => fq_fX10_drumPhase_155 h) (fun _ => fq_fX10_drumPhase_155 h)) (fun _ => zpc_if (fun _ => fq_fX10_drumPhase_155 h) (fun _ => fq_fX10_drumPhase_155 h))) (fun _ => zpc_if (fun _ => zpc_if (fun _ => fq_fX10_drumPhase_193 h) (fun _ => fq_fX10_drumPhase_193 h)) (fun _ => zpc_if (fun _ => fq_fX10_drumPhase_193 h) (fun _ => fq_fX10_drumPhase_193 h))))
theorem fq_fX10_drumPhase_62 {σ0 : zSt} {σ : zSt} {x1 : Int32} {x2 : Int32} {s0 : Int32} (h : (zQ [5, 11, 12] [(30, 3, 8), (30, 14, 16), (32, 65, 67), (32, 128, 271)] [5, 46, 48] [(38, 3, 6)]) σ0 σ) : zpc (fX10_drumPhase_62 σ x1 x2 s0) (fun r => (zQ [5, 11, 12] [(30, 3, 8), (30, 14, 16), (32, 65, 67), (32, 128, 271)] [5, 46, 48] [(38, 3, 6)]) σ0 (r.1)) := by
  unfold fX10_drumPhase_62
  exact zpc_ck (zpc_if (fun _ => fq_fX10_drumPhase_82 h) (fun _ => fq_fX10_drumPhase_82 h))
theorem fq_fX10_drumPhase {σ0 : zSt} {σ : zSt} {x1 : Int32} {x2 : Int32} (h : (zQ [5, 11, 12] [(30, 3, 8), (30, 14, 16), (32, 65, 67), (32, 128, 271)] [5, 46, 48] [(38, 3, 6)]) σ0 σ) : zpc (fX10_drumPhase σ x1 x2) (fun r => (zQ [5, 11, 12] [(30, 3, 8), (30, 14, 16), (32, 65, 67), (32, 128, 271)] [5, 46, 48] [(38, 3, 6)]) σ0 (r.1)) := by
  unfold fX10_drumPhase
  exact zpc_ck (zpc_bv (fun v1 _ => zpc_ck (zpc_bv (fun v2 _ => zpc_if (fun _ => fq_fX10_drumPhase_62 h) (fun _ => fq_fX10_drumPhase_62 h)))))
theorem fq_fX10_turnedPhase_98 {σ0 : zSt} {σ : zSt} {s0 : Int32} (h : (zQ [5, 11, 12] [(30, 3, 8), (30, 14, 16), (32, 65, 67), (32, 128, 271)] [5, 46, 48] [(38, 3, 6)]) σ0 σ) : zpc (fX10_turnedPhase_98 σ s0) (fun r => (zQ [5, 11, 12] [(30, 3, 8), (30, 14, 16), (32, 65, 67), (32, 128, 271)] [5, 46, 48] [(38, 3, 6)]) σ0 (r.1)) := by
  unfold fX10_turnedPhase_98
  exact zpc_some h
theorem fq_fX10_turnedPhase_35 {σ0 : zSt} {σ : zSt} {x1 : Int32} {x2 : Int32} {x3 : Int32} (h : (zQ [5, 11, 12] [(30, 3, 8), (30, 14, 16), (32, 65, 67), (32, 128, 271)] [5, 46, 48] [(38, 3, 6)]) σ0 σ) : zpc (fX10_turnedPhase_35 σ x1 x2 x3) (fun r => (zQ [5, 11, 12] [(30, 3, 8), (30, 14, 16), (32, 65, 67), (32, 128, 271)] [5, 46, 48] [(38, 3, 6)]) σ0 (r.1)) := by
  unfold fX10_turnedPhase_35
  exact zpc_if (fun _ => zpc_ck (zpc_some h)) (fun _ => zpc_bi (fq_fX10_part h) (fun σ1 v2 hσ1 => zpc_bv (fun v3 _ => zpc_if (fun _ => fq_fX10_turnedPhase_98 hσ1) (fun _ => zpc_ck (zpc_ck (fq_fX10_turnedPhase_98 hσ1))))))
theorem fq_fX10_turnedPhase {σ0 : zSt} {σ : zSt} {x1 : Int32} {x2 : Int32} (h : (zQ [5, 11, 12] [(30, 3, 8), (30, 14, 16), (32, 65, 67), (32, 128, 271)] [5, 46, 48] [(38, 3, 6)]) σ0 σ) : zpc (fX10_turnedPhase σ x1 x2) (fun r => (zQ [5, 11, 12] [(30, 3, 8), (30, 14, 16), (32, 65, 67), (32, 128, 271)] [5, 46, 48] [(38, 3, 6)]) σ0 (r.1)) := by
  unfold fX10_turnedPhase
  exact zpc_ck (zpc_bv (fun v4 _ => zpc_if (fun _ => fq_fX10_turnedPhase_35 h) (fun _ => zpc_if (fun _ => fq_fX10_turnedPhase_35 h) (fun _ => zpc_bi (fq_fX10_drumPhase h) (fun σ5 v6 hσ5 => zpc_some hσ5)))))
theorem fq_fX10_scaled_44 {σ0 : zSt} {σ : zSt} {s0 : Int32} (h : (zQ [5, 11, 12] [(30, 3, 8), (30, 14, 16), (32, 65, 67), (32, 128, 271)] [5, 46, 48] [(38, 3, 6)]) σ0 σ) : zpc (fX10_scaled_44 σ s0) (fun r => (zQ [5, 11, 12] [(30, 3, 8), (30, 14, 16), (32, 65, 67), (32, 128, 271)] [5, 46, 48] [(38, 3, 6)]) σ0 (r.1)) := by
  unfold fX10_scaled_44
  exact zpc_some h
theorem fq_fX10_scaled {σ0 : zSt} {σ : zSt} {x1 : Int32} (h : (zQ [5, 11, 12] [(30, 3, 8), (30, 14, 16), (32, 65, 67), (32, 128, 271)] [5, 46, 48] [(38, 3, 6)]) σ0 σ) : zpc (fX10_scaled σ x1) (fun r => (zQ [5, 11, 12] [(30, 3, 8), (30, 14, 16), (32, 65, 67), (32, 128, 271)] [5, 46, 48] [(38, 3, 6)]) σ0 (r.1)) := by
  unfold fX10_scaled
  exact zpc_if (fun _ => zpc_some h) (fun _ => zpc_ck (zpc_bv (fun v1 _ => zpc_if (fun _ => fq_fX10_scaled_44 h) (fun _ => fq_fX10_scaled_44 h))))
theorem fq_fX10_tremble_30 {σ0 : zSt} {σ : zSt} {s0 : Int32} (h : (zQ [5, 11, 12] [(30, 3, 8), (30, 14, 16), (32, 65, 67), (32, 128, 271)] [5, 46, 48] [(38, 3, 6)]) σ0 σ) : zpc (fX10_tremble_30 σ s0) (fun r => (zQ [5, 11, 12] [(30, 3, 8), (30, 14, 16), (32, 65, 67), (32, 128, 271)] [5, 46, 48] [(38, 3, 6)]) σ0 (r.1)) := by
  unfold fX10_tremble_30
  exact zpc_ck (zpc_some h)
theorem fq_fX10_tremble {σ0 : zSt} {σ : zSt} (h : (zQ [5, 11, 12] [(30, 3, 8), (30, 14, 16), (32, 65, 67), (32, 128, 271)] [5, 46, 48] [(38, 3, 6)]) σ0 σ) : zpc (fX10_tremble σ) (fun r => (zQ [5, 11, 12] [(30, 3, 8), (30, 14, 16), (32, 65, 67), (32, 128, 271)] [5, 46, 48] [(38, 3, 6)]) σ0 (r.1)) := by
  unfold fX10_tremble
  exact zpc_ck (zpc_ck (zpc_ck (zpc_bv (fun v1 _ => zpc_if (fun _ => fq_fX10_tremble_30 h) (fun _ => fq_fX10_tremble_30 h)))))
theorem fq_fX10_softness_124 {σ0 : zSt} {σ : zSt} {x4 : Int32} (h : (zQ [5, 11, 12] [(30, 3, 8), (30, 14, 16), (32, 65, 67), (32, 128, 271)] [5, 46, 48] [(38, 3, 6)]) σ0 σ) : zpc (fX10_softness_124 σ x4) (fun r => (zQ [5, 11, 12] [(30, 3, 8), (30, 14, 16), (32, 65, 67), (32, 128, 271)] [5, 46, 48] [(38, 3, 6)]) σ0 (r.1)) := by
  unfold fX10_softness_124
  exact zpc_some h
theorem fq_fX10_softness_103 {σ0 : zSt} {σ : zSt} {x2 : Int32} {x4 : Int32} (h : (zQ [5, 11, 12] [(30, 3, 8), (30, 14, 16), (32, 65, 67), (32, 128, 271)] [5, 46, 48] [(38, 3, 6)]) σ0 σ) : zpc (fX10_softness_103 σ x2 x4) (fun r => (zQ [5, 11, 12] [(30, 3, 8), (30, 14, 16), (32, 65, 67), (32, 128, 271)] [5, 46, 48] [(38, 3, 6)]) σ0 (r.1)) := by
  unfold fX10_softness_103
  exact zpc_bi (fq_fX10_part h) (fun σ1 v2 hσ1 => zpc_if (fun _ => fq_fX10_softness_124 hσ1) (fun _ => zpc_bi (fq_fX10_tremble hσ1) (fun σ3 v4 hσ3 => zpc_bv (fun v5 _ => fq_fX10_softness_124 hσ3))))
theorem fq_fX10_softness_88 {σ0 : zSt} {σ : zSt} {x2 : Int32} {x4 : Int32} (h : (zQ [5, 11, 12] [(30, 3, 8), (30, 14, 16), (32, 65, 67), (32, 128, 271)] [5, 46, 48] [(38, 3, 6)]) σ0 σ) : zpc (fX10_softness_88 σ x2 x4) (fun r => (zQ [5, 11, 12] [(30, 3, 8), (30, 14, 16), (32, 65, 67), (32, 128, 271)] [5, 46, 48] [(38, 3, 6)]) σ0 (r.1)) := by
  unfold fX10_softness_88
  exact zpc_bi (fq_fX10_part h) (fun σ6 v7 hσ6 => zpc_bv (fun v8 _ => fq_fX10_softness_103 hσ6))
theorem fq_fX10_softness {σ0 : zSt} {σ : zSt} {x1 : Int32} {x2 : Int32} (h : (zQ [5, 11, 12] [(30, 3, 8), (30, 14, 16), (32, 65, 67), (32, 128, 271)] [5, 46, 48] [(38, 3, 6)]) σ0 σ) : zpc (fX10_softness σ x1 x2) (fun r => (zQ [5, 11, 12] [(30, 3, 8), (30, 14, 16), (32, 65, 67), (32, 128, 271)] [5, 46, 48] [(38, 3, 6)]) σ0 (r.1)) := by
  unfold fX10_softness
  exact zpc_ck (zpc_bv (fun v9 _ => zpc_ck (zpc_bi (fq_fX10_part h) (fun σ10 v11 hσ10 => zpc_bi (fq_fX10_scaled hσ10) (fun σ12 v13 hσ12 => zpc_bv (fun v14 _ => zpc_if (fun _ => zpc_bv (fun v16 _ => fq_fX10_softness_103 hσ12)) (fun _ => zpc_if (fun _ => fq_fX10_softness_88 hσ12) (fun _ => zpc_if (fun _ => fq_fX10_softness_88 hσ12) (fun _ => zpc_bv (fun v15 _ => fq_fX10_softness_103 hσ12))))))))))
theorem fq_fX10_waveAt_104 {σ0 : zSt} {σ : zSt} {s0 : Int32} (h : (zQ [5, 11, 12] [(30, 3, 8), (30, 14, 16), (32, 65, 67), (32, 128, 271)] [5, 46, 48] [(38, 3, 6)]) σ0 σ) : zpc (fX10_waveAt_104 σ s0) (fun r => (zQ [5, 11, 12] [(30, 3, 8), (30, 14, 16), (32, 65, 67), (32, 128, 271)] [5, 46, 48] [(38, 3, 6)]) σ0 (r.1)) := by
  unfold fX10_waveAt_104
  exact zpc_some h
theorem fq_fX10_waveAt_49 {σ0 : zSt} {σ : zSt} {x1 : Int32} {x3 : Int32} {s0 : Int32} (h : (zQ [5, 11, 12] [(30, 3, 8), (30, 14, 16), (32, 65, 67), (32, 128, 271)] [5, 46, 48] [(38, 3, 6)]) σ0 σ) : zpc (fX10_waveAt_49 σ x1 x3 s0) (fun r => (zQ [5, 11, 12] [(30, 3, 8), (30, 14, 16), (32, 65, 67), (32, 128, 271)] [5, 46, 48] [(38, 3, 6)]) σ0 (r.1)) := by
  unfold fX10_waveAt_49
  exact zpc_ck (zpc_bv (fun v1 _ => zpc_ck (zpc_bv (fun v2 _ => zpc_if (fun _ => fq_fX10_waveAt_104 h) (fun _ => fq_fX10_waveAt_104 h)))))
theorem fq_fX10_waveAt_24 {σ0 : zSt} {σ : zSt} {x0 : Int32} {x1 : Int32} {x3 : Int32} (h : (zQ [5, 11, 12] [(30, 3, 8), (30, 14, 16), (32, 65, 67), (32, 128, 271)] [5, 46, 48] [(38, 3, 6)]) σ0 σ) : zpc (fX10_waveAt_24 σ x0 x1 x3) (fun r => (zQ [5, 11, 12] [(30, 3, 8), (30, 14, 16), (32, 65, 67), (32, 128, 271)] [5, 46, 48] [(38, 3, 6)]) σ0 (r.1)) := by
  unfold fX10_waveAt_24
  exact zpc_if (fun _ => fq_fX10_waveAt_49 h) (fun _ => fq_fX10_waveAt_49 h)
theorem fq_fX10_waveAt_13 {σ0 : zSt} {σ : zSt} {x0 : Int32} {x1 : Int32} {x2 : Int32} {s0 : Int32} (h : (zQ [5, 11, 12] [(30, 3, 8), (30, 14, 16), (32, 65, 67), (32, 128, 271)] [5, 46, 48] [(38, 3, 6)]) σ0 σ) : zpc (fX10_waveAt_13 σ x0 x1 x2 s0) (fun r => (zQ [5, 11, 12] [(30, 3, 8), (30, 14, 16), (32, 65, 67), (32, 128, 271)] [5, 46, 48] [(38, 3, 6)]) σ0 (r.1)) := by
  unfold fX10_waveAt_13
  exact zpc_if (fun _ => fq_fX10_waveAt_24 h) (fun _ => zpc_if (fun _ => fq_fX10_waveAt_24 h) (fun _ => zpc_some h))
theorem fq_fX10_waveAt {σ0 : zSt} {σ : zSt} {x0 : Int32} {x1 : Int32} {x2 : Int32} (h : (zQ [5, 11, 12] [(30, 3, 8), (30, 14, 16), (32, 65, 67), (32, 128, 271)] [5, 46, 48] [(38, 3, 6)]) σ0 σ) : zpc (fX10_waveAt σ x0 x1 x2) (fun r => (zQ [5, 11, 12] [(30, 3, 8), (30, 14, 16), (32, 65, 67), (32, 128, 271)] [5, 46, 48] [(38, 3, 6)]) σ0 (r.1)) := by
  unfold fX10_waveAt
  exact zpc_if (fun _ => fq_fX10_waveAt_13 h) (fun _ => fq_fX10_waveAt_13 h)
theorem fq_fX10_moveOut_55 {σ0 : zSt} {σ : zSt} {x1 : Int32} {x3 : Int32} (h : (zQ [5, 11, 12] [(30, 3, 8), (30, 14, 16), (32, 65, 67), (32, 128, 271)] [5, 46, 48] [(38, 3, 6)]) σ0 σ) (qx1 : zr 128 264 x1) : zpc (fX10_moveOut_55 σ x1 x3) (fun r => (zQ [5, 11, 12] [(30, 3, 8), (30, 14, 16), (32, 65, 67), (32, 128, 271)] [5, 46, 48] [(38, 3, 6)]) σ0 (r)) := by
  unfold fX10_moveOut_55
  exact zpc_ck (zpc_ck (zpc_bs (zQ.wr (a := 128) (b := 271) (lo := 132) (hi := 268) h (zr_add (lo := 132) (hi := 268) qx1 (zr_c (x := 4) (lo := 4) (hi := 4) (by decide)) (by decide)) rfl (by decide)) (fun σ1 hσ1 => zpc_ck (zpc_bs (zQ.wr (a := 128) (b := 271) (lo := 131) (hi := 267) hσ1 (zr_add (lo := 131) (hi := 267) qx1 (zr_c (x := 3) (lo := 3) (hi := 3) (by decide)) (by decide)) rfl (by decide)) (fun σ2 hσ2 => zpc_some hσ2)))))
theorem fq_fX10_moveOut_51 {σ0 : zSt} {σ : zSt} {x1 : Int32} {s0 : Int32} {s1 : Int32} {s2 : Int32} (h : (zQ [5, 11, 12] [(30, 3, 8), (30, 14, 16), (32, 65, 67), (32, 128, 271)] [5, 46, 48] [(38, 3, 6)]) σ0 σ) (qx1 : zr 128 264 x1) : zpc (fX10_moveOut_51 σ x1 s0 s1 s2) (fun r => (zQ [5, 11, 12] [(30, 3, 8), (30, 14, 16), (32, 65, 67), (32, 128, 271)] [5, 46, 48] [(38, 3, 6)]) σ0 (r)) := by
  unfold fX10_moveOut_51
  exact zpc_bi (fq_fX10_waveAt h) (fun σ3 v4 hσ3 => fq_fX10_moveOut_55 hσ3 qx1)
theorem fq_fX10_moveOut {σ0 : zSt} {σ : zSt} {x1 : Int32} {x2 : Int32} (h : (zQ [5, 11, 12] [(30, 3, 8), (30, 14, 16), (32, 65, 67), (32, 128, 271)] [5, 46, 48] [(38, 3, 6)]) σ0 σ) (qx1 : zr 128 264 x1) : zpc (fX10_moveOut σ x1 x2) (fun r => (zQ [5, 11, 12] [(30, 3, 8), (30, 14, 16), (32, 65, 67), (32, 128, 271)] [5, 46, 48] [(38, 3, 6)]) σ0 (r)) := by
  unfold fX10_moveOut
  exact zpc_ck (zpc_if (fun _ => fq_fX10_moveOut_55 h qx1) (fun _ => zpc_bi (fq_fX10_turnedPhase h) (fun σ5 v6 hσ5 => zpc_bi (fq_fX10_softness hσ5) (fun σ7 v8 hσ7 => zpc_bi (fq_fX10_part hσ7) (fun σ9 v10 hσ9 => zpc_if (fun _ => fq_fX10_moveOut_51 hσ9 qx1) (fun _ => fq_fX10_moveOut_51 hσ9 qx1))))))
theorem fq_fX10_moveOperator_99 {σ0 : zSt} {σ : zSt} {x1 : Int32} {x2 : Int32} (h : (zQ [5, 11, 12] [(30, 3, 8), (30, 14, 16), (32, 65, 67), (32, 128, 271)] [5, 46, 48] [(38, 3, 6)]) σ0 σ) (qx1 : zr 128 264 x1) : zpc (fX10_moveOperator_99 σ x1 x2) (fun r => (zQ [5, 11, 12] [(30, 3, 8), (30, 14, 16), (32, 65, 67), (32, 128, 271)] [5, 46, 48] [(38, 3, 6)]) σ0 (r)) := by
  unfold fX10_moveOperator_99
  exact zpc_bi (fq_fX10_part h) (fun σ1 v2 hσ1 => zpc_bu (fq_fX10_movePhase hσ1 qx1) (fun σ3 hσ3 => zpc_bu (fq_fX10_moveOut hσ3 qx1) (fun σ4 hσ4 => zpc_some hσ4)))
theorem fq_fX10_moveOperator_78 {σ0 : zSt} {σ : zSt} {x1 : Int32} {x2 : Int32} (h : (zQ [5, 11, 12] [(30, 3, 8), (30, 14, 16), (32, 65, 67), (32, 128, 271)] [5, 46, 48] [(38, 3, 6)]) σ0 σ) (qx1 : zr 128 264 x1) : zpc (fX10_moveOperator_78 σ x1 x2) (fun r => (zQ [5, 11, 12] [(30, 3, 8), (30, 14, 16), (32, 65, 67), (32, 128, 271)] [5, 46, 48] [(38, 3, 6)]) σ0 (r)) := by
  unfold fX10_moveOperator_78
  exact zpc_bu (fq_fX10_moveLevel h qx1) (fun σ5 hσ5 => zpc_bi (fq_fX10_part hσ5) (fun σ6 v7 hσ6 => zpc_bu (fq_fX10_moveState hσ6 qx1) (fun σ8 hσ8 => fq_fX10_moveOperator_99 hσ8 qx1)))
theorem fq_fX10_moveOperator_53 {σ0 : zSt} {σ : zSt} {x1 : Int32} {x2 : Int32} (h : (zQ [5, 11, 12] [(30, 3, 8), (30, 14, 16), (32, 65, 67), (32, 128, 271)] [5, 46, 48] [(38, 3, 6)]) σ0 σ) (qx1 : zr 128 264 x1) : zpc (fX10_moveOperator_53 σ x1 x2) (fun r => (zQ [5, 11, 12] [(30, 3, 8), (30, 14, 16), (32, 65, 67), (32, 128, 271)] [5, 46, 48] [(38, 3, 6)]) σ0 (r)) := by
  unfold fX10_moveOperator_53
  exact zpc_ck (zpc_if (fun _ => zpc_ck (zpc_if (fun _ => fq_fX10_moveOperator_99 h qx1) (fun _ => fq_fX10_moveOperator_78 h qx1))) (fun _ => fq_fX10_moveOperator_78 h qx1))
theorem fq_fX10_moveOperator_52 {σ0 : zSt} {σ : zSt} {x1 : Int32} {x2 : Int32} {s0 : Int32} {s1 : Int32} (h : (zQ [5, 11, 12] [(30, 3, 8), (30, 14, 16), (32, 65, 67), (32, 128, 271)] [5, 46, 48] [(38, 3, 6)]) σ0 σ) (qx1 : zr 128 264 x1) (qs1 : zr 129 265 s1) : zpc (fX10_moveOperator_52 σ x1 x2 s0 s1) (fun r => (zQ [5, 11, 12] [(30, 3, 8), (30, 14, 16), (32, 65, 67), (32, 128, 271)] [5, 46, 48] [(38, 3, 6)]) σ0 (r)) := by
  unfold fX10_moveOperator_52
  exact zpc_ck (zpc_bs (zQ.wr (a := 128) (b := 271) (lo := 129) (hi := 265) h qs1 rfl (by decide)) (fun σ9 hσ9 => fq_fX10_moveOperator_53 hσ9 qx1))
theorem fq_fX10_moveOperator_13 {σ0 : zSt} {σ : zSt} {x1 : Int32} {x2 : Int32} {s0 : Int32} (h : (zQ [5, 11, 12] [(30, 3, 8), (30, 14, 16), (32, 65, 67), (32, 128, 271)] [5, 46, 48] [(38, 3, 6)]) σ0 σ) (qx1 : zr 128 264 x1) : zpc (fX10_moveOperator_13 σ x1 x2 s0) (fun r => (zQ [5, 11, 12] [(30, 3, 8), (30, 14, 16), (32, 65, 67), (32, 128, 271)] [5, 46, 48] [(38, 3, 6)]) σ0 (r)) := by
  unfold fX10_moveOperator_13
  exact zpc_ck (zpc_if (fun _ => fq_fX10_moveOperator_53 h qx1) (fun _ => zpc_ck (zpc_bs (zQ.wr (a := 128) (b := 271) (lo := 133) (hi := 269) h (zr_add (lo := 133) (hi := 269) qx1 (zr_c (x := 5) (lo := 5) (hi := 5) (by decide)) (by decide)) rfl (by decide)) (fun σ10 hσ10 => zpc_if (fun _ => fq_fX10_moveOperator_52 hσ10 qx1 (zr_add (lo := 129) (hi := 265) qx1 (zr_c (x := 1) (lo := 1) (hi := 1) (by decide)) (by decide))) (fun _ => fq_fX10_moveOperator_52 hσ10 qx1 (zr_add (lo := 129) (hi := 265) qx1 (zr_c (x := 1) (lo := 1) (hi := 1) (by decide)) (by decide)))))))
theorem fq_fX10_moveOperator {σ0 : zSt} {σ : zSt} {x1 : Int32} {x2 : Int32} (h : (zQ [5, 11, 12] [(30, 3, 8), (30, 14, 16), (32, 65, 67), (32, 128, 271)] [5, 46, 48] [(38, 3, 6)]) σ0 σ) (qx1 : zr 128 264 x1) : zpc (fX10_moveOperator σ x1 x2) (fun r => (zQ [5, 11, 12] [(30, 3, 8), (30, 14, 16), (32, 65, 67), (32, 128, 271)] [5, 46, 48] [(38, 3, 6)]) σ0 (r)) := by
  unfold fX10_moveOperator
  exact zpc_bi (fq_fX10_isOn h) (fun σ11 v12 hσ11 => zpc_if (fun _ => fq_fX10_moveOperator_13 hσ11 qx1) (fun _ => fq_fX10_moveOperator_13 hσ11 qx1))
theorem fq_fX10_makeNext_136 {σ0 : zSt} {k41 : zSt → Int32 → Int32 → Option (zSt)} (hk41 : ∀ (y0 : zSt) (y1 : Int32) (y2 : Int32), (zQ [5, 11, 12] [(30, 3, 8), (30, 14, 16), (32, 65, 67), (32, 128, 271)] [5, 46, 48] [(38, 3, 6)]) σ0 y0 → zr 0 9 y2 → zpc (k41 y0 y1 y2) (fun r => (zQ [5, 11, 12] [(30, 3, 8), (30, 14, 16), (32, 65, 67), (32, 128, 271)] [5, 46, 48] [(38, 3, 6)]) σ0 (r))) {σ : zSt} {x2 : Int32} {s0 : Int32} {s1 : Int32} {s2 : Int32} (h : (zQ [5, 11, 12] [(30, 3, 8), (30, 14, 16), (32, 65, 67), (32, 128, 271)] [5, 46, 48] [(38, 3, 6)]) σ0 σ) (qx2 : zr 0 8 x2) : zpc (fX10_makeNext_136 k41 σ x2 s0 s1 s2) (fun r => (zQ [5, 11, 12] [(30, 3, 8), (30, 14, 16), (32, 65, 67), (32, 128, 271)] [5, 46, 48] [(38, 3, 6)]) σ0 (r)) := by
  unfold fX10_makeNext_136
  exact zpc_bv (fun v1 _ => zpc_bv (fun v2 ev2 => hk41 _ _ _ h (zr_w (show zr 1 9 v2 by rw [ev2]; exact (zr_add (lo := 1) (hi := 9) qx2 (zr_c (x := 1) (lo := 1) (hi := 1) (by decide)) (by decide))) (by decide))))
theorem fq_fX10_makeNext_135 {σ0 : zSt} {k41 : zSt → Int32 → Int32 → Option (zSt)} (hk41 : ∀ (y0 : zSt) (y1 : Int32) (y2 : Int32), (zQ [5, 11, 12] [(30, 3, 8), (30, 14, 16), (32, 65, 67), (32, 128, 271)] [5, 46, 48] [(38, 3, 6)]) σ0 y0 → zr 0 9 y2 → zpc (k41 y0 y1 y2) (fun r => (zQ [5, 11, 12] [(30, 3, 8), (30, 14, 16), (32, 65, 67), (32, 128, 271)] [5, 46, 48] [(38, 3, 6)]) σ0 (r))) {σ : zSt} {x2 : Int32} {s0 : Int32} {s1 : Int32} (h : (zQ [5, 11, 12] [(30, 3, 8), (30, 14, 16), (32, 65, 67), (32, 128, 271)] [5, 46, 48] [(38, 3, 6)]) σ0 σ) (qx2 : zr 0 8 x2) : zpc (fX10_makeNext_135 k41 σ x2 s0 s1) (fun r => (zQ [5, 11, 12] [(30, 3, 8), (30, 14, 16), (32, 65, 67), (32, 128, 271)] [5, 46, 48] [(38, 3, 6)]) σ0 (r)) := by
  unfold fX10_makeNext_135
  exact fq_fX10_makeNext_136 hk41 h qx2
theorem fq_fX10_makeNext_101 {σ0 : zSt} {k41 : zSt → Int32 → Int32 → Option (zSt)} (hk41 : ∀ (y0 : zSt) (y1 : Int32) (y2 : Int32), (zQ [5, 11, 12] [(30, 3, 8), (30, 14, 16), (32, 65, 67), (32, 128, 271)] [5, 46, 48] [(38, 3, 6)]) σ0 y0 → zr 0 9 y2 → zpc (k41 y0 y1 y2) (fun r => (zQ [5, 11, 12] [(30, 3, 8), (30, 14, 16), (32, 65, 67), (32, 128, 271)] [5, 46, 48] [(38, 3, 6)]) σ0 (r))) {σ : zSt} {x1 : Int32} {x2 : Int32} {x3 : Int32} {s0 : Int32} (h : (zQ [5, 11, 12] [(30, 3, 8), (30, 14, 16), (32, 65, 67), (32, 128, 271)] [5, 46, 48] [(38, 3, 6)]) σ0 σ) (qx2 : zr 0 8 x2) : zpc (fX10_makeNext_101 k41 σ x1 x2 x3 s0) (fun r => (zQ [5, 11, 12] [(30, 3, 8), (30, 14, 16), (32, 65, 67), (32, 128, 271)] [5, 46, 48] [(38, 3, 6)]) σ0 (r)) := by
  unfold fX10_makeNext_101
  exact zpc_ck (zpc_if (fun _ => fq_fX10_makeNext_135 hk41 h qx2) (fun _ => zpc_if (fun _ => fq_fX10_makeNext_135 hk41 h qx2) (fun _ => fq_fX10_makeNext_136 hk41 h qx2)))
theorem fq_fX10_makeNext_100 {σ0 : zSt} {k41 : zSt → Int32 → Int32 → Option (zSt)} (hk41 : ∀ (y0 : zSt) (y1 : Int32) (y2 : Int32), (zQ [5, 11, 12] [(30, 3, 8), (30, 14, 16), (32, 65, 67), (32, 128, 271)] [5, 46, 48] [(38, 3, 6)]) σ0 y0 → zr 0 9 y2 → zpc (k41 y0 y1 y2) (fun r => (zQ [5, 11, 12] [(30, 3, 8), (30, 14, 16), (32, 65, 67), (32, 128, 271)] [5, 46, 48] [(38, 3, 6)]) σ0 (r))) {σ : zSt} {x1 : Int32} {x2 : Int32} {x3 : Int32} (h : (zQ [5, 11, 12] [(30, 3, 8), (30, 14, 16), (32, 65, 67), (32, 128, 271)] [5, 46, 48] [(38, 3, 6)]) σ0 σ) (qx2 : zr 0 8 x2) : zpc (fX10_makeNext_100 k41 σ x1 x2 x3) (fun r => (zQ [5, 11, 12] [(30, 3, 8), (30, 14, 16), (32, 65, 67), (32, 128, 271)] [5, 46, 48] [(38, 3, 6)]) σ0 (r)) := by
  unfold fX10_makeNext_100
  exact fq_fX10_makeNext_101 hk41 h qx2
theorem fq_fX10_makeNext_174 {σ0 : zSt} {σ : zSt} {x1 : Int32} {s0 : Int32} {s1 : Int32} (h : (zQ [5, 11, 12] [(30, 3, 8), (30, 14, 16), (32, 65, 67), (32, 128, 271)] [5, 46, 48] [(38, 3, 6)]) σ0 σ) (qs1 : zr 65 65 s1) : zpc (fX10_makeNext_174 σ x1 s0 s1) (fun r => (zQ [5, 11, 12] [(30, 3, 8), (30, 14, 16), (32, 65, 67), (32, 128, 271)] [5, 46, 48] [(38, 3, 6)]) σ0 (r)) := by
  unfold fX10_makeNext_174
  exact zpc_ck (zpc_bs (zQ.wr (a := 65) (b := 67) (lo := 65) (hi := 65) h qs1 rfl (by decide)) (fun σ3 hσ3 => zpc_ck (zpc_bs (zQ.wi hσ3 rfl) (fun σ4 hσ4 => zpc_some hσ4))))
theorem fq_fX10_makeNext_41_body {σ0 : zSt} {k41 : zSt → Int32 → Int32 → Option (zSt)} (hk41 : ∀ (y0 : zSt) (y1 : Int32) (y2 : Int32), (zQ [5, 11, 12] [(30, 3, 8), (30, 14, 16), (32, 65, 67), (32, 128, 271)] [5, 46, 48] [(38, 3, 6)]) σ0 y0 → zr 0 9 y2 → zpc (k41 y0 y1 y2) (fun r => (zQ [5, 11, 12] [(30, 3, 8), (30, 14, 16), (32, 65, 67), (32, 128, 271)] [5, 46, 48] [(38, 3, 6)]) σ0 (r))) {σ : zSt} {x1 : Int32} {x2 : Int32} (h : (zQ [5, 11, 12] [(30, 3, 8), (30, 14, 16), (32, 65, 67), (32, 128, 271)] [5, 46, 48] [(38, 3, 6)]) σ0 σ) (qx2 : zr 0 9 x2) : zpc (fX10_makeNext_41_body k41 σ x1 x2) (fun r => (zQ [5, 11, 12] [(30, 3, 8), (30, 14, 16), (32, 65, 67), (32, 128, 271)] [5, 46, 48] [(38, 3, 6)]) σ0 (r)) := by
  unfold fX10_makeNext_41_body
  exact zpc_if (fun g2 => zpc_ck (zpc_bv (fun v5 _ => zpc_if (fun _ => fq_fX10_makeNext_174 h (zr_c (x := 65) (lo := 65) (hi := 65) (by decide))) (fun _ => fq_fX10_makeNext_174 h (zr_c (x := 65) (lo := 65) (hi := 65) (by decide)))))) (fun g2 => zpc_bu (fq_fX10_takeChannel h) (fun σ6 hσ6 => zpc_bv (fun v7 ev7 => zpc_bu (fq_fX10_moveOperator hσ6 (zr_w (show zr 128 256 v7 by rw [ev7]; exact (zr_add (lo := 128) (hi := 256) (zr_c (x := 128) (lo := 128) (hi := 128) (by decide)) (zr_mul (lo := 0) (hi := 128) (zr_c (x := 16) (lo := 16) (hi := 16) (by decide)) (zr_nge (k := 9) (m := 8) qx2 rfl g2 (by decide)) (by decide)) (by decide))) (by decide))) (fun σ8 hσ8 => zpc_bu (fq_fX10_moveOperator hσ8 (zr_w (zr_add (lo := 136) (hi := 264) (show zr 128 256 v7 by rw [ev7]; exact (zr_add (lo := 128) (hi := 256) (zr_c (x := 128) (lo := 128) (hi := 128) (by decide)) (zr_mul (lo := 0) (hi := 128) (zr_c (x := 16) (lo := 16) (hi := 16) (by decide)) (zr_nge (k := 9) (m := 8) qx2 rfl g2 (by decide)) (by decide)) (by decide))) (zr_c (x := 8) (lo := 8) (hi := 8) (by decide)) (by decide)) (by decide))) (fun σ9 hσ9 => zpc_if (fun _ => fq_fX10_makeNext_100 hk41 hσ9 (zr_nge (k := 9) (m := 8) qx2 rfl g2 (by decide))) (fun _ => zpc_if (fun _ => fq_fX10_makeNext_100 hk41 hσ9 (zr_nge (k := 9) (m := 8) qx2 rfl g2 (by decide))) (fun _ => zpc_ck (fq_fX10_makeNext_101 hk41 hσ9 (zr_nge (k := 9) (m := 8) qx2 rfl g2 (by decide))))))))))
theorem fq_fX10_makeNext_41 {σ0 : zSt} : ∀ (n : Nat) (y0 : zSt) (y1 : Int32) (y2 : Int32), (zQ [5, 11, 12] [(30, 3, 8), (30, 14, 16), (32, 65, 67), (32, 128, 271)] [5, 46, 48] [(38, 3, 6)]) σ0 y0 → zr 0 9 y2 → zpc (fX10_makeNext_41 n y0 y1 y2) (fun r => (zQ [5, 11, 12] [(30, 3, 8), (30, 14, 16), (32, 65, 67), (32, 128, 271)] [5, 46, 48] [(38, 3, 6)]) σ0 (r)) := by
  intro n
  induction n with
  | zero => intro y0 y1 y2 h q2; exact zpc_none
  | succ n ih => intro y0 y1 y2 h q2; exact fq_fX10_makeNext_41_body ih h q2
theorem fq_fX10_makeNext_30 {σ0 : zSt} {σ : zSt} {s0 : Int32} (h : (zQ [5, 11, 12] [(30, 3, 8), (30, 14, 16), (32, 65, 67), (32, 128, 271)] [5, 46, 48] [(38, 3, 6)]) σ0 σ) : zpc (fX10_makeNext_30 σ s0) (fun r => (zQ [5, 11, 12] [(30, 3, 8), (30, 14, 16), (32, 65, 67), (32, 128, 271)] [5, 46, 48] [(38, 3, 6)]) σ0 (r)) := by
  unfold fX10_makeNext_30
  exact zpc_ck (zpc_bs (zQ.wi h rfl) (fun σ10 hσ10 => zpc_bu (fq_fX10_takeOwnPatch hσ10) (fun σ11 hσ11 => fq_fX10_makeNext_41 _ _ _ _ hσ11 (zr_w (zr_c (x := 0) (lo := 0) (hi := 0) (by decide)) (by decide)))))
theorem fq_fX10_makeNext {σ0 : zSt} {σ : zSt} (h : (zQ [5, 11, 12] [(30, 3, 8), (30, 14, 16), (32, 65, 67), (32, 128, 271)] [5, 46, 48] [(38, 3, 6)]) σ0 σ) : zpc (fX10_makeNext σ) (fun r => (zQ [5, 11, 12] [(30, 3, 8), (30, 14, 16), (32, 65, 67), (32, 128, 271)] [5, 46, 48] [(38, 3, 6)]) σ0 (r)) := by
  unfold fX10_makeNext
  exact zpc_ck (zpc_ck (zpc_bs (zQ.wi h rfl) (fun σ12 hσ12 => zpc_ck (zpc_if (fun _ => fq_fX10_makeNext_30 hσ12) (fun _ => fq_fX10_makeNext_30 hσ12)))))
theorem fq_fX10_heard_24 {σ0 : zSt} {σ : zSt} {s0 : Int32} (h : (zQ [5, 11, 12] [(30, 3, 8), (30, 14, 16), (32, 65, 67), (32, 128, 271)] [5, 46, 48] [(38, 3, 6)]) σ0 σ) : zpc (fX10_heard_24 σ s0) (fun r => (zQ [5, 11, 12] [(30, 3, 8), (30, 14, 16), (32, 65, 67), (32, 128, 271)] [5, 46, 48] [(38, 3, 6)]) σ0 (r.1)) := by
  unfold fX10_heard_24
  exact zpc_some h
theorem fq_fX10_heard {σ0 : zSt} {σ : zSt} (h : (zQ [5, 11, 12] [(30, 3, 8), (30, 14, 16), (32, 65, 67), (32, 128, 271)] [5, 46, 48] [(38, 3, 6)]) σ0 σ) : zpc (fX10_heard σ) (fun r => (zQ [5, 11, 12] [(30, 3, 8), (30, 14, 16), (32, 65, 67), (32, 128, 271)] [5, 46, 48] [(38, 3, 6)]) σ0 (r.1)) := by
  unfold fX10_heard
  exact zpc_ck (zpc_if (fun _ => zpc_ck (fq_fX10_heard_24 h)) (fun _ => fq_fX10_heard_24 h))
theorem fq_fX6_add_k12_56 {σ0 : zSt} {σ : zSt} (h : (zQ [5, 11, 12] [(30, 3, 8), (30, 14, 16), (32, 65, 67), (32, 128, 271)] [5, 46, 48] [(38, 3, 6)]) σ0 σ) : zpc (fX6_add_k12_56 σ) (fun r => (zQ [5, 11, 12] [(30, 3, 8), (30, 14, 16), (32, 65, 67), (32, 128, 271)] [5, 46, 48] [(38, 3, 6)]) σ0 (r)) := by
  unfold fX6_add_k12_56
  exact zpc_some h
theorem fq_fX6_add_k12 {σ0 : zSt} {σ : zSt} {x1 : Int64} (h : (zQ [5, 11, 12] [(30, 3, 8), (30, 14, 16), (32, 65, 67), (32, 128, 271)] [5, 46, 48] [(38, 3, 6)]) σ0 σ) : zpc (fX6_add_k12 σ x1) (fun r => (zQ [5, 11, 12] [(30, 3, 8), (30, 14, 16), (32, 65, 67), (32, 128, 271)] [5, 46, 48] [(38, 3, 6)]) σ0 (r)) := by
  unfold fX6_add_k12
  exact zpc_ck (zpc_bs (zQ.wl h rfl) (fun σ1 hσ1 => zpc_if (fun _ => zpc_bs (zQ.wi hσ1 rfl) (fun σ2 hσ2 => fq_fX6_add_k12_56 hσ2)) (fun _ => zpc_bs (zQ.wi hσ1 rfl) (fun σ3 hσ3 => fq_fX6_add_k12_56 hσ3))))
theorem fq_fX0_addMix {σ0 : zSt} {σ : zSt} (h : (zQ [5, 11, 12] [(30, 3, 8), (30, 14, 16), (32, 65, 67), (32, 128, 271)] [5, 46, 48] [(38, 3, 6)]) σ0 σ) : zpc (fX0_addMix σ) (fun r => (zQ [5, 11, 12] [(30, 3, 8), (30, 14, 16), (32, 65, 67), (32, 128, 271)] [5, 46, 48] [(38, 3, 6)]) σ0 (r)) := by
  unfold fX0_addMix
  exact zpc_ck (zpc_bv (fun v1 _ => zpc_ck (zpc_ck (zpc_bi (fq_fX10_heard h) (fun σ2 v3 hσ2 => zpc_bv (fun v4 _ => zpc_ck (zpc_ck (zpc_bi (fq_fX10_heard hσ2) (fun σ5 v6 hσ5 => zpc_bv (fun v7 _ => zpc_bu (fq_fX6_add_k12 hσ5) (fun σ8 hσ8 => zpc_ck (zpc_bs (zQ.wl hσ8 rfl) (fun σ9 hσ9 => zpc_ck (zpc_bs (zQ.wl hσ9 rfl) (fun σ10 hσ10 => zpc_ck (zpc_bs (zQ.wl hσ10 rfl) (fun σ11 hσ11 => zpc_some hσ11)))))))))))))))))
theorem fq_fX0_pass_105_body {σ0 : zSt} {k105 : zSt → Int64 → Int64 → Option (zSt)} (hk105 : ∀ (y0 : zSt) (y1 : Int64) (y2 : Int64), (zQ [5, 11, 12] [(30, 3, 8), (30, 14, 16), (32, 65, 67), (32, 128, 271)] [5, 46, 48] [(38, 3, 6)]) σ0 y0 → zpc (k105 y0 y1 y2) (fun r => (zQ [5, 11, 12] [(30, 3, 8), (30, 14, 16), (32, 65, 67), (32, 128, 271)] [5, 46, 48] [(38, 3, 6)]) σ0 (r))) {σ : zSt} {x4 : Int64} {x6 : Int64} (h : (zQ [5, 11, 12] [(30, 3, 8), (30, 14, 16), (32, 65, 67), (32, 128, 271)] [5, 46, 48] [(38, 3, 6)]) σ0 σ) : zpc (fX0_pass_105_body k105 σ x4 x6) (fun r => (zQ [5, 11, 12] [(30, 3, 8), (30, 14, 16), (32, 65, 67), (32, 128, 271)] [5, 46, 48] [(38, 3, 6)]) σ0 (r)) := by
  unfold fX0_pass_105_body
  exact zpc_ck (zpc_if (fun _ => zpc_some h) (fun _ => zpc_bu (fq_fX0_addMix h) (fun σ1 hσ1 => zpc_bv (fun v2 _ => hk105 _ _ _ hσ1))))
theorem fq_fX0_pass_105 {σ0 : zSt} : ∀ (n : Nat) (y0 : zSt) (y1 : Int64) (y2 : Int64), (zQ [5, 11, 12] [(30, 3, 8), (30, 14, 16), (32, 65, 67), (32, 128, 271)] [5, 46, 48] [(38, 3, 6)]) σ0 y0 → zpc (fX0_pass_105 n y0 y1 y2) (fun r => (zQ [5, 11, 12] [(30, 3, 8), (30, 14, 16), (32, 65, 67), (32, 128, 271)] [5, 46, 48] [(38, 3, 6)]) σ0 (r)) := by
  intro n
  induction n with
  | zero => intro y0 y1 y2 h; exact zpc_none
  | succ n ih => intro y0 y1 y2 h; exact fq_fX0_pass_105_body ih h
theorem fq_fX0_pass_70_body {σ0 : zSt} {k70 : zSt → Int64 → Int64 → Int64 → Option (zSt)} (hk70 : ∀ (y0 : zSt) (y1 : Int64) (y2 : Int64) (y3 : Int64), (zQ [5, 11, 12] [(30, 3, 8), (30, 14, 16), (32, 65, 67), (32, 128, 271)] [5, 46, 48] [(38, 3, 6)]) σ0 y0 → zpc (k70 y0 y1 y2 y3) (fun r => (zQ [5, 11, 12] [(30, 3, 8), (30, 14, 16), (32, 65, 67), (32, 128, 271)] [5, 46, 48] [(38, 3, 6)]) σ0 (r))) {σ : zSt} {x2 : Int64} {x4 : Int64} {x6 : Int64} (h : (zQ [5, 11, 12] [(30, 3, 8), (30, 14, 16), (32, 65, 67), (32, 128, 271)] [5, 46, 48] [(38, 3, 6)]) σ0 σ) : zpc (fX0_pass_70_body k70 σ x2 x4 x6) (fun r => (zQ [5, 11, 12] [(30, 3, 8), (30, 14, 16), (32, 65, 67), (32, 128, 271)] [5, 46, 48] [(38, 3, 6)]) σ0 (r)) := by
  unfold fX0_pass_70_body
  exact zpc_ck (zpc_if (fun _ => zpc_ck (zpc_bv (fun v3 _ => fq_fX0_pass_105 _ _ _ _ h))) (fun _ => zpc_bu (fq_fX10_makeNext h) (fun σ4 hσ4 => zpc_bv (fun v5 _ => hk70 _ _ _ _ hσ4))))
theorem fq_fX0_pass_70 {σ0 : zSt} : ∀ (n : Nat) (y0 : zSt) (y1 : Int64) (y2 : Int64) (y3 : Int64), (zQ [5, 11, 12] [(30, 3, 8), (30, 14, 16), (32, 65, 67), (32, 128, 271)] [5, 46, 48] [(38, 3, 6)]) σ0 y0 → zpc (fX0_pass_70 n y0 y1 y2 y3) (fun r => (zQ [5, 11, 12] [(30, 3, 8), (30, 14, 16), (32, 65, 67), (32, 128, 271)] [5, 46, 48] [(38, 3, 6)]) σ0 (r)) := by
  intro n
  induction n with
  | zero => intro y0 y1 y2 y3 h; exact zpc_none
  | succ n ih => intro y0 y1 y2 y3 h; exact fq_fX0_pass_70_body ih h
theorem fq_fX0_pass_38_body {σ0 : zSt} {k38 : zSt → Int64 → Int64 → Int64 → Option (zSt)} (hk38 : ∀ (y0 : zSt) (y1 : Int64) (y2 : Int64) (y3 : Int64), (zQ [5, 11, 12] [(30, 3, 8), (30, 14, 16), (32, 65, 67), (32, 128, 271)] [5, 46, 48] [(38, 3, 6)]) σ0 y0 → zpc (k38 y0 y1 y2 y3) (fun r => (zQ [5, 11, 12] [(30, 3, 8), (30, 14, 16), (32, 65, 67), (32, 128, 271)] [5, 46, 48] [(38, 3, 6)]) σ0 (r))) {σ : zSt} {x2 : Int64} {x4 : Int64} {x6 : Int64} (h : (zQ [5, 11, 12] [(30, 3, 8), (30, 14, 16), (32, 65, 67), (32, 128, 271)] [5, 46, 48] [(38, 3, 6)]) σ0 σ) : zpc (fX0_pass_38_body k38 σ x2 x4 x6) (fun r => (zQ [5, 11, 12] [(30, 3, 8), (30, 14, 16), (32, 65, 67), (32, 128, 271)] [5, 46, 48] [(38, 3, 6)]) σ0 (r)) := by
  unfold fX0_pass_38_body
  exact zpc_ck (zpc_if (fun _ => zpc_ck (zpc_bv (fun v6 _ => fq_fX0_pass_70 _ _ _ _ _ h))) (fun _ => zpc_bu (fq_fX0_addSample h) (fun σ7 hσ7 => zpc_bv (fun v8 _ => hk38 _ _ _ _ hσ7))))
theorem fq_fX0_pass_38 {σ0 : zSt} : ∀ (n : Nat) (y0 : zSt) (y1 : Int64) (y2 : Int64) (y3 : Int64), (zQ [5, 11, 12] [(30, 3, 8), (30, 14, 16), (32, 65, 67), (32, 128, 271)] [5, 46, 48] [(38, 3, 6)]) σ0 y0 → zpc (fX0_pass_38 n y0 y1 y2 y3) (fun r => (zQ [5, 11, 12] [(30, 3, 8), (30, 14, 16), (32, 65, 67), (32, 128, 271)] [5, 46, 48] [(38, 3, 6)]) σ0 (r)) := by
  intro n
  induction n with
  | zero => intro y0 y1 y2 y3 h; exact zpc_none
  | succ n ih => intro y0 y1 y2 y3 h; exact fq_fX0_pass_38_body ih h
theorem fw_fX12_loudness {σ0 : zSt} {σ : zSt} {x0 : Int32} (h : (zQ [] [(3, 72, 77), (3, 83, 85), (3, 87, 88), (3, 164, 170), (3, 172, 279)] [10, 11] [(4, 3, 4)]) σ0 σ) : zpc (fX12_loudness σ x0) (fun r => (zQ [] [(3, 72, 77), (3, 83, 85), (3, 87, 88), (3, 164, 170), (3, 172, 279)] [10, 11] [(4, 3, 4)]) σ0 (r.1)) := by
  unfold fX12_loudness
  exact zpc_if (fun _ => zpc_some h) (fun _ => zpc_if (fun _ => zpc_some h) (fun _ => zpc_if (fun _ => zpc_some h) (fun _ => zpc_if (fun _ => zpc_some h) (fun _ => zpc_if (fun _ => zpc_some h) (fun _ => zpc_if (fun _ => zpc_some h) (fun _ => zpc_if (fun _ => zpc_some h) (fun _ => zpc_if (fun _ => zpc_some h) (fun _ => zpc_if (fun _ => zpc_some h) (fun _ => zpc_if (fun _ => zpc_some h) (fun _ => zpc_if (fun _ => zpc_some h) (fun _ => zpc_if (fun _ => zpc_some h) (fun _ => zpc_if (fun _ => zpc_some h) (fun _ => zpc_if (fun _ => zpc_some h) (fun _ => zpc_if (fun _ => zpc_some h) (fun _ => zpc_some h)))))))))))))))
theorem fw_fX12_sample_102 {σ0 : zSt} {k2 : zSt → Int32 → Option (zSt)} (hk2 : ∀ (y0 : zSt) (y1 : Int32), (zQ [] [(3, 72, 77), (3, 83, 85), (3, 87, 88), (3, 164, 170), (3, 172, 279)] [10, 11] [(4, 3, 4)]) σ0 y0 → zr 0 3 y1 → zpc (k2 y0 y1) (fun r => (zQ [] [(3, 72, 77), (3, 83, 85), (3, 87, 88), (3, 164, 170), (3, 172, 279)] [10, 11] [(4, 3, 4)]) σ0 (r))) {σ : zSt} {x1 : Int32} (h : (zQ [] [(3, 72, 77), (3, 83, 85), (3, 87, 88), (3, 164, 170), (3, 172, 279)] [10, 11] [(4, 3, 4)]) σ0 σ) (qx1 : zr 0 2 x1) : zpc (fX12_sample_102 k2 σ x1) (fun r => (zQ [] [(3, 72, 77), (3, 83, 85), (3, 87, 88), (3, 164, 170), (3, 172, 279)] [10, 11] [(4, 3, 4)]) σ0 (r)) := by
  unfold fX12_sample_102
  exact zpc_bv (fun v1 ev1 => hk2 _ _ h (zr_w (show zr 1 3 v1 by rw [ev1]; exact (zr_add (lo := 1) (hi := 3) qx1 (zr_c (x := 1) (lo := 1) (hi := 1) (by decide)) (by decide))) (by decide)))
theorem fw_fX12_sample_101 {σ0 : zSt} {k2 : zSt → Int32 → Option (zSt)} (hk2 : ∀ (y0 : zSt) (y1 : Int32), (zQ [] [(3, 72, 77), (3, 83, 85), (3, 87, 88), (3, 164, 170), (3, 172, 279)] [10, 11] [(4, 3, 4)]) σ0 y0 → zr 0 3 y1 → zpc (k2 y0 y1) (fun r => (zQ [] [(3, 72, 77), (3, 83, 85), (3, 87, 88), (3, 164, 170), (3, 172, 279)] [10, 11] [(4, 3, 4)]) σ0 (r))) {σ : zSt} {x1 : Int32} {s0 : Int32} {s1 : Int32} (h : (zQ [] [(3, 72, 77), (3, 83, 85), (3, 87, 88), (3, 164, 170), (3, 172, 279)] [10, 11] [(4, 3, 4)]) σ0 σ) (qx1 : zr 0 2 x1) (qs1 : zr 75 77 s1) : zpc (fX12_sample_101 k2 σ x1 s0 s1) (fun r => (zQ [] [(3, 72, 77), (3, 83, 85), (3, 87, 88), (3, 164, 170), (3, 172, 279)] [10, 11] [(4, 3, 4)]) σ0 (r)) := by
  unfold fX12_sample_101
  exact zpc_ck (zpc_bs (zQ.wr (a := 72) (b := 77) (lo := 75) (hi := 77) h qs1 rfl (by decide)) (fun σ2 hσ2 => fw_fX12_sample_102 hk2 hσ2 qx1))
theorem fw_fX12_sample_32 {σ0 : zSt} {k2 : zSt → Int32 → Option (zSt)} (hk2 : ∀ (y0 : zSt) (y1 : Int32), (zQ [] [(3, 72, 77), (3, 83, 85), (3, 87, 88), (3, 164, 170), (3, 172, 279)] [10, 11] [(4, 3, 4)]) σ0 y0 → zr 0 3 y1 → zpc (k2 y0 y1) (fun r => (zQ [] [(3, 72, 77), (3, 83, 85), (3, 87, 88), (3, 164, 170), (3, 172, 279)] [10, 11] [(4, 3, 4)]) σ0 (r))) {σ : zSt} {x1 : Int32} (h : (zQ [] [(3, 72, 77), (3, 83, 85), (3, 87, 88), (3, 164, 170), (3, 172, 279)] [10, 11] [(4, 3, 4)]) σ0 σ) (qx1 : zr 0 2 x1) : zpc (fX12_sample_32 k2 σ x1) (fun r => (zQ [] [(3, 72, 77), (3, 83, 85), (3, 87, 88), (3, 164, 170), (3, 172, 279)] [10, 11] [(4, 3, 4)]) σ0 (r)) := by
  unfold fX12_sample_32
  exact zpc_ck (zpc_if (fun _ => zpc_ck (zpc_ck (zpc_bs (zQ.wr (a := 72) (b := 77) (lo := 72) (hi := 74) h (zr_add (lo := 72) (hi := 74) (zr_c (x := 72) (lo := 72) (hi := 72) (by decide)) qx1 (by decide)) rfl (by decide)) (fun σ3 hσ3 => zpc_ck (zpc_if (fun _ => zpc_ck (fw_fX12_sample_101 hk2 hσ3 qx1 (zr_add (lo := 75) (hi := 77) (zr_c (x := 75) (lo := 75) (hi := 75) (by decide)) qx1 (by decide)))) (fun _ => fw_fX12_sample_101 hk2 hσ3 qx1 (zr_add (lo := 75) (hi := 77) (zr_c (x := 75) (lo := 75) (hi := 75) (by decide)) qx1 (by decide)))))))) (fun _ => fw_fX12_sample_102 hk2 h qx1))
theorem fw_fX12_sample_407 {σ0 : zSt} {k275 : zSt → Int64 → Int64 → Int32 → Option (zSt)} (hk275 : ∀ (y0 : zSt) (y1 : Int64) (y2 : Int64) (y3 : Int32), (zQ [] [(3, 72, 77), (3, 83, 85), (3, 87, 88), (3, 164, 170), (3, 172, 279)] [10, 11] [(4, 3, 4)]) σ0 y0 → zpc (k275 y0 y1 y2 y3) (fun r => (zQ [] [(3, 72, 77), (3, 83, 85), (3, 87, 88), (3, 164, 170), (3, 172, 279)] [10, 11] [(4, 3, 4)]) σ0 (r))) {σ : zSt} {x1 : Int64} {x3 : Int64} {x5 : Int32} (h : (zQ [] [(3, 72, 77), (3, 83, 85), (3, 87, 88), (3, 164, 170), (3, 172, 279)] [10, 11] [(4, 3, 4)]) σ0 σ) : zpc (fX12_sample_407 k275 σ x1 x3 x5) (fun r => (zQ [] [(3, 72, 77), (3, 83, 85), (3, 87, 88), (3, 164, 170), (3, 172, 279)] [10, 11] [(4, 3, 4)]) σ0 (r)) := by
  unfold fX12_sample_407
  exact zpc_bv (fun v4 _ => hk275 _ _ _ _ h)
theorem fw_fX12_sample_369 {σ0 : zSt} {k275 : zSt → Int64 → Int64 → Int32 → Option (zSt)} (hk275 : ∀ (y0 : zSt) (y1 : Int64) (y2 : Int64) (y3 : Int32), (zQ [] [(3, 72, 77), (3, 83, 85), (3, 87, 88), (3, 164, 170), (3, 172, 279)] [10, 11] [(4, 3, 4)]) σ0 y0 → zpc (k275 y0 y1 y2 y3) (fun r => (zQ [] [(3, 72, 77), (3, 83, 85), (3, 87, 88), (3, 164, 170), (3, 172, 279)] [10, 11] [(4, 3, 4)]) σ0 (r))) {σ : zSt} {x1 : Int64} {x3 : Int64} {x5 : Int32} {x6 : Int32} (h : (zQ [] [(3, 72, 77), (3, 83, 85), (3, 87, 88), (3, 164, 170), (3, 172, 279)] [10, 11] [(4, 3, 4)]) σ0 σ) : zpc (fX12_sample_369 k275 σ x1 x3 x5 x6) (fun r => (zQ [] [(3, 72, 77), (3, 83, 85), (3, 87, 88), (3, 164, 170), (3, 172, 279)] [10, 11] [(4, 3, 4)]) σ0 (r)) := by
  unfold fX12_sample_369
  exact zpc_if (fun _ => fw_fX12_sample_407 hk275 h) (fun _ => zpc_ck (zpc_if (fun _ => zpc_ck (zpc_bi (fw_fX12_loudness h) (fun σ5 v6 hσ5 => zpc_bv (fun v7 _ => fw_fX12_sample_407 hk275 hσ5)))) (fun _ => fw_fX12_sample_407 hk275 h)))
theorem fw_fX12_sample_327 {σ0 : zSt} {k275 : zSt → Int64 → Int64 → Int32 → Option (zSt)} (hk275 : ∀ (y0 : zSt) (y1 : Int64) (y2 : Int64) (y3 : Int32), (zQ [] [(3, 72, 77), (3, 83, 85), (3, 87, 88), (3, 164, 170), (3, 172, 279)] [10, 11] [(4, 3, 4)]) σ0 y0 → zpc (k275 y0 y1 y2 y3) (fun r => (zQ [] [(3, 72, 77), (3, 83, 85), (3, 87, 88), (3, 164, 170), (3, 172, 279)] [10, 11] [(4, 3, 4)]) σ0 (r))) {σ : zSt} {x1 : Int64} {x3 : Int64} {x5 : Int32} {s0 : Int32} (h : (zQ [] [(3, 72, 77), (3, 83, 85), (3, 87, 88), (3, 164, 170), (3, 172, 279)] [10, 11] [(4, 3, 4)]) σ0 σ) : zpc (fX12_sample_327 k275 σ x1 x3 x5 s0) (fun r => (zQ [] [(3, 72, 77), (3, 83, 85), (3, 87, 88), (3, 164, 170), (3, 172, 279)] [10, 11] [(4, 3, 4)]) σ0 (r)) := by
  unfold fX12_sample_327
  exact zpc_if (fun _ => fw_fX12_sample_369 hk275 h) (fun _ => zpc_ck (zpc_if (fun _ => zpc_ck (zpc_bi (fw_fX12_loudness h) (fun σ8 v9 hσ8 => zpc_bv (fun v10 _ => fw_fX12_sample_369 hk275 hσ8)))) (fun _ => fw_fX12_sample_369 hk275 h)))
theorem fw_fX12_sample_508 {σ0 : zSt} {σ : zSt} {x1 : Int64} {x3 : Int64} (h : (zQ [] [(3, 72, 77), (3, 83, 85), (3, 87, 88), (3, 164, 170), (3, 172, 279)] [10, 11] [(4, 3, 4)]) σ0 σ) : zpc (fX12_sample_508 σ x1 x3) (fun r => (zQ [] [(3, 72, 77), (3, 83, 85), (3, 87, 88), (3, 164, 170), (3, 172, 279)] [10, 11] [(4, 3, 4)]) σ0 (r)) := by
  unfold fX12_sample_508
  exact zpc_ck (zpc_ck (zpc_ck (zpc_ck (zpc_bs (zQ.wl h rfl) (fun σ11 hσ11 => zpc_some hσ11)))))
theorem fw_fX12_sample_275_body {σ0 : zSt} {k275 : zSt → Int64 → Int64 → Int32 → Option (zSt)} (hk275 : ∀ (y0 : zSt) (y1 : Int64) (y2 : Int64) (y3 : Int32), (zQ [] [(3, 72, 77), (3, 83, 85), (3, 87, 88), (3, 164, 170), (3, 172, 279)] [10, 11] [(4, 3, 4)]) σ0 y0 → zpc (k275 y0 y1 y2 y3) (fun r => (zQ [] [(3, 72, 77), (3, 83, 85), (3, 87, 88), (3, 164, 170), (3, 172, 279)] [10, 11] [(4, 3, 4)]) σ0 (r))) {σ : zSt} {x1 : Int64} {x3 : Int64} {x5 : Int32} (h : (zQ [] [(3, 72, 77), (3, 83, 85), (3, 87, 88), (3, 164, 170), (3, 172, 279)] [10, 11] [(4, 3, 4)]) σ0 σ) : zpc (fX12_sample_275_body k275 σ x1 x3 x5) (fun r => (zQ [] [(3, 72, 77), (3, 83, 85), (3, 87, 88), (3, 164, 170), (3, 172, 279)] [10, 11] [(4, 3, 4)]) σ0 (r)) := by
  unfold fX12_sample_275_body
  exact zpc_if (fun _ => zpc_ck (zpc_ck (zpc_bs (zQ.wl h rfl) (fun σ12 hσ12 => zpc_ck (zpc_ck (zpc_bs (zQ.wi hσ12 rfl) (fun σ13 hσ13 => zpc_ck (zpc_ck (zpc_bs (zQ.wi hσ13 rfl) (fun σ14 hσ14 => zpc_ck (zpc_ck (zpc_bs (zQ.wi hσ14 rfl) (fun σ15 hσ15 => zpc_ck (zpc_if (fun _ => zpc_ck (zpc_ck (zpc_ck (zpc_bs (zQ.wi hσ15 rfl) (fun σ17 hσ17 => fw_fX12_sample_508 hσ17))))) (fun _ => zpc_ck (zpc_ck (zpc_bs (zQ.wi hσ15 rfl) (fun σ16 hσ16 => fw_fX12_sample_508 hσ16)))))))))))))))))) (fun _ => zpc_if (fun _ => zpc_ck (zpc_if (fun _ => fw_fX12_sample_327 hk275 h) (fun _ => fw_fX12_sample_327 hk275 h))) (fun _ => zpc_ck (zpc_if (fun _ => fw_fX12_sample_327 hk275 h) (fun _ => fw_fX12_sample_327 hk275 h))))
theorem fw_fX12_sample_275 {σ0 : zSt} : ∀ (n : Nat) (y0 : zSt) (y1 : Int64) (y2 : Int64) (y3 : Int32), (zQ [] [(3, 72, 77), (3, 83, 85), (3, 87, 88), (3, 164, 170), (3, 172, 279)] [10, 11] [(4, 3, 4)]) σ0 y0 → zpc (fX12_sample_275 n y0 y1 y2 y3) (fun r => (zQ [] [(3, 72, 77), (3, 83, 85), (3, 87, 88), (3, 164, 170), (3, 172, 279)] [10, 11] [(4, 3, 4)]) σ0 (r)) := by
  intro n
  induction n with
  | zero => intro y0 y1 y2 y3 h; exact zpc_none
  | succ n ih => intro y0 y1 y2 y3 h; exact fw_fX12_sample_275_body ih h
theorem fw_fX12_sample_268 {σ0 : zSt} {σ : zSt} (h : (zQ [] [(3, 72, 77), (3, 83, 85), (3, 87, 88), (3, 164, 170), (3, 172, 279)] [10, 11] [(4, 3, 4)]) σ0 σ) : zpc (fX12_sample_268 σ) (fun r => (zQ [] [(3, 72, 77), (3, 83, 85), (3, 87, 88), (3, 164, 170), (3, 172, 279)] [10, 11] [(4, 3, 4)]) σ0 (r)) := by
  unfold fX12_sample_268
  exact fw_fX12_sample_275 _ _ _ _ _ h
theorem fw_fX12_sample_246 {σ0 : zSt} {σ : zSt} {s0 : Int32} (h : (zQ [] [(3, 72, 77), (3, 83, 85), (3, 87, 88), (3, 164, 170), (3, 172, 279)] [10, 11] [(4, 3, 4)]) σ0 σ) : zpc (fX12_sample_246 σ s0) (fun r => (zQ [] [(3, 72, 77), (3, 83, 85), (3, 87, 88), (3, 164, 170), (3, 172, 279)] [10, 11] [(4, 3, 4)]) σ0 (r)) := by
  unfold fX12_sample_246
  exact zpc_ck (zpc_ck (zpc_bs (zQ.wi h rfl) (fun σ18 hσ18 => fw_fX12_sample_268 hσ18)))
theorem fw_fX12_sample_174 {σ0 : zSt} {σ : zSt} {s0 : Int32} {s1 : Int32} (h : (zQ [] [(3, 72, 77), (3, 83, 85), (3, 87, 88), (3, 164, 170), (3, 172, 279)] [10, 11] [(4, 3, 4)]) σ0 σ) (qs1 : zr 83 83 s1) : zpc (fX12_sample_174 σ s0 s1) (fun r => (zQ [] [(3, 72, 77), (3, 83, 85), (3, 87, 88), (3, 164, 170), (3, 172, 279)] [10, 11] [(4, 3, 4)]) σ0 (r)) := by
  unfold fX12_sample_174
  exact zpc_ck (zpc_bs (zQ.wr (a := 83) (b := 85) (lo := 83) (hi := 83) h qs1 rfl (by decide)) (fun σ19 hσ19 => zpc_ck (zpc_ck (zpc_bs (zQ.wi hσ19 rfl) (fun σ20 hσ20 => zpc_ck (zpc_if (fun _ => zpc_ck (zpc_if (fun _ => zpc_ck (zpc_ck (fw_fX12_sample_246 hσ20))) (fun _ => zpc_ck (fw_fX12_sample_246 hσ20)))) (fun _ => fw_fX12_sample_268 hσ20)))))))
theorem fw_fX12_sample_129 {σ0 : zSt} {σ : zSt} (h : (zQ [] [(3, 72, 77), (3, 83, 85), (3, 87, 88), (3, 164, 170), (3, 172, 279)] [10, 11] [(4, 3, 4)]) σ0 σ) : zpc (fX12_sample_129 σ) (fun r => (zQ [] [(3, 72, 77), (3, 83, 85), (3, 87, 88), (3, 164, 170), (3, 172, 279)] [10, 11] [(4, 3, 4)]) σ0 (r)) := by
  unfold fX12_sample_129
  exact zpc_ck (zpc_if (fun _ => zpc_ck (zpc_ck (zpc_bv (fun v21 _ => zpc_if (fun _ => zpc_ck (fw_fX12_sample_174 h (zr_c (x := 83) (lo := 83) (hi := 83) (by decide)))) (fun _ => fw_fX12_sample_174 h (zr_c (x := 83) (lo := 83) (hi := 83) (by decide))))))) (fun _ => fw_fX12_sample_268 h))
theorem fw_fX12_sample_2_body {σ0 : zSt} {k2 : zSt → Int32 → Option (zSt)} (hk2 : ∀ (y0 : zSt) (y1 : Int32), (zQ [] [(3, 72, 77), (3, 83, 85), (3, 87, 88), (3, 164, 170), (3, 172, 279)] [10, 11] [(4, 3, 4)]) σ0 y0 → zr 0 3 y1 → zpc (k2 y0 y1) (fun r => (zQ [] [(3, 72, 77), (3, 83, 85), (3, 87, 88), (3, 164, 170), (3, 172, 279)] [10, 11] [(4, 3, 4)]) σ0 (r))) {σ : zSt} {x1 : Int32} (h : (zQ [] [(3, 72, 77), (3, 83, 85), (3, 87, 88), (3, 164, 170), (3, 172, 279)] [10, 11] [(4, 3, 4)]) σ0 σ) (qx1 : zr 0 3 x1) : zpc (fX12_sample_2_body k2 σ x1) (fun r => (zQ [] [(3, 72, 77), (3, 83, 85), (3, 87, 88), (3, 164, 170), (3, 172, 279)] [10, 11] [(4, 3, 4)]) σ0 (r)) := by
  unfold fX12_sample_2_body
  exact zpc_if (fun g1 => zpc_ck (zpc_if (fun _ => fw_fX12_sample_129 h) (fun _ => zpc_ck (zpc_ck (zpc_bs (zQ.wi h rfl) (fun σ22 hσ22 => fw_fX12_sample_129 hσ22)))))) (fun g1 => zpc_ck (zpc_if (fun _ => fw_fX12_sample_32 hk2 h (zr_nge (k := 3) (m := 2) qx1 rfl g1 (by decide))) (fun _ => zpc_bv (fun v23 ev23 => zpc_ck (zpc_ck (zpc_bs (zQ.wr (a := 72) (b := 77) (lo := 72) (hi := 74) h (show zr 72 74 v23 by rw [ev23]; exact (zr_add (lo := 72) (hi := 74) (zr_c (x := 72) (lo := 72) (hi := 72) (by decide)) (zr_nge (k := 3) (m := 2) qx1 rfl g1 (by decide)) (by decide))) rfl (by decide)) (fun σ24 hσ24 => fw_fX12_sample_32 hk2 hσ24 (zr_nge (k := 3) (m := 2) qx1 rfl g1 (by decide)))))))))
theorem fw_fX12_sample_2 {σ0 : zSt} : ∀ (n : Nat) (y0 : zSt) (y1 : Int32), (zQ [] [(3, 72, 77), (3, 83, 85), (3, 87, 88), (3, 164, 170), (3, 172, 279)] [10, 11] [(4, 3, 4)]) σ0 y0 → zr 0 3 y1 → zpc (fX12_sample_2 n y0 y1) (fun r => (zQ [] [(3, 72, 77), (3, 83, 85), (3, 87, 88), (3, 164, 170), (3, 172, 279)] [10, 11] [(4, 3, 4)]) σ0 (r)) := by
  intro n
  induction n with
  | zero => intro y0 y1 h q1; exact zpc_none
  | succ n ih => intro y0 y1 h q1; exact fw_fX12_sample_2_body ih h q1
theorem fw_fX12_sample {σ0 : zSt} {σ : zSt} (h : (zQ [] [(3, 72, 77), (3, 83, 85), (3, 87, 88), (3, 164, 170), (3, 172, 279)] [10, 11] [(4, 3, 4)]) σ0 σ) : zpc (fX12_sample σ) (fun r => (zQ [] [(3, 72, 77), (3, 83, 85), (3, 87, 88), (3, 164, 170), (3, 172, 279)] [10, 11] [(4, 3, 4)]) σ0 (r)) := by
  unfold fX12_sample
  exact fw_fX12_sample_2 _ _ _ h (zr_w (zr_c (x := 0) (lo := 0) (hi := 0) (by decide)) (by decide))
theorem fw_fX12_wreg {σ0 : zSt} {σ : zSt} {x1 : Int32} (h : (zQ [] [(3, 72, 77), (3, 83, 85), (3, 87, 88), (3, 164, 170), (3, 172, 279)] [10, 11] [(4, 3, 4)]) σ0 σ) : zpc (fX12_wreg σ x1) (fun r => (zQ [] [(3, 72, 77), (3, 83, 85), (3, 87, 88), (3, 164, 170), (3, 172, 279)] [10, 11] [(4, 3, 4)]) σ0 (r.1)) := by
  unfold fX12_wreg
  exact zpc_ck (zpc_some h)
theorem fw_fX12_isRhythm_22 {σ0 : zSt} {σ : zSt} {s0 : Int32} (h : (zQ [] [(3, 72, 77), (3, 83, 85), (3, 87, 88), (3, 164, 170), (3, 172, 279)] [10, 11] [(4, 3, 4)]) σ0 σ) : zpc (fX12_isRhythm_22 σ s0) (fun r => (zQ [] [(3, 72, 77), (3, 83, 85), (3, 87, 88), (3, 164, 170), (3, 172, 279)] [10, 11] [(4, 3, 4)]) σ0 (r.1)) := by
  unfold fX12_isRhythm_22
  exact zpc_ck (zpc_some h)
theorem fw_fX12_isRhythm_21 {σ0 : zSt} {σ : zSt} (h : (zQ [] [(3, 72, 77), (3, 83, 85), (3, 87, 88), (3, 164, 170), (3, 172, 279)] [10, 11] [(4, 3, 4)]) σ0 σ) : zpc (fX12_isRhythm_21 σ) (fun r => (zQ [] [(3, 72, 77), (3, 83, 85), (3, 87, 88), (3, 164, 170), (3, 172, 279)] [10, 11] [(4, 3, 4)]) σ0 (r.1)) := by
  unfold fX12_isRhythm_21
  exact fw_fX12_isRhythm_22 h
theorem fw_fX12_isRhythm {σ0 : zSt} {σ : zSt} {x1 : Int32} (h : (zQ [] [(3, 72, 77), (3, 83, 85), (3, 87, 88), (3, 164, 170), (3, 172, 279)] [10, 11] [(4, 3, 4)]) σ0 σ) : zpc (fX12_isRhythm σ x1) (fun r => (zQ [] [(3, 72, 77), (3, 83, 85), (3, 87, 88), (3, 164, 170), (3, 172, 279)] [10, 11] [(4, 3, 4)]) σ0 (r.1)) := by
  unfold fX12_isRhythm
  exact zpc_if (fun _ => fw_fX12_isRhythm_21 h) (fun _ => zpc_bi (fw_fX12_wreg h) (fun σ1 v2 hσ1 => zpc_if (fun _ => fw_fX12_isRhythm_21 hσ1) (fun _ => fw_fX12_isRhythm_22 hσ1)))
theorem fw_fX12_isOn_60 {σ0 : zSt} {σ : zSt} {x3 : Int32} {s0 : Int32} (h : (zQ [] [(3, 72, 77), (3, 83, 85), (3, 87, 88), (3, 164, 170), (3, 172, 279)] [10, 11] [(4, 3, 4)]) σ0 σ) : zpc (fX12_isOn_60 σ x3 s0) (fun r => (zQ [] [(3, 72, 77), (3, 83, 85), (3, 87, 88), (3, 164, 170), (3, 172, 279)] [10, 11] [(4, 3, 4)]) σ0 (r.1)) := by
  unfold fX12_isOn_60
  exact zpc_bi (fw_fX12_wreg h) (fun σ1 v2 hσ1 => zpc_some hσ1)
theorem fw_fX12_isOn {σ0 : zSt} {σ : zSt} {x1 : Int32} {x2 : Int32} (h : (zQ [] [(3, 72, 77), (3, 83, 85), (3, 87, 88), (3, 164, 170), (3, 172, 279)] [10, 11] [(4, 3, 4)]) σ0 σ) : zpc (fX12_isOn σ x1 x2) (fun r => (zQ [] [(3, 72, 77), (3, 83, 85), (3, 87, 88), (3, 164, 170), (3, 172, 279)] [10, 11] [(4, 3, 4)]) σ0 (r.1)) := by
  unfold fX12_isOn
  exact zpc_bi (fw_fX12_wreg h) (fun σ3 v4 hσ3 => zpc_bv (fun v5 _ => zpc_bi (fw_fX12_isRhythm hσ3) (fun σ6 v7 hσ6 => zpc_if (fun _ => zpc_some hσ6) (fun _ => zpc_if (fun _ => fw_fX12_isOn_60 hσ6) (fun _ => zpc_if (fun _ => zpc_if (fun _ => fw_fX12_isOn_60 hσ6) (fun _ => fw_fX12_isOn_60 hσ6)) (fun _ => zpc_if (fun _ => fw_fX12_isOn_60 hσ6) (fun _ => fw_fX12_isOn_60 hσ6)))))))
theorem fw_fX12_digit_20 {σ0 : zSt} {σ : zSt} {s0 : Int32} (h : (zQ [] [(3, 72, 77), (3, 83, 85), (3, 87, 88), (3, 164, 170), (3, 172, 279)] [10, 11] [(4, 3, 4)]) σ0 σ) : zpc (fX12_digit_20 σ s0) (fun r => (zQ [] [(3, 72, 77), (3, 83, 85), (3, 87, 88), (3, 164, 170), (3, 172, 279)] [10, 11] [(4, 3, 4)]) σ0 (r.1)) := by
  unfold fX12_digit_20
  exact zpc_some h
theorem fw_fX12_digit {σ0 : zSt} {σ : zSt} {x0 : Int32} (h : (zQ [] [(3, 72, 77), (3, 83, 85), (3, 87, 88), (3, 164, 170), (3, 172, 279)] [10, 11] [(4, 3, 4)]) σ0 σ) : zpc (fX12_digit σ x0) (fun r => (zQ [] [(3, 72, 77), (3, 83, 85), (3, 87, 88), (3, 164, 170), (3, 172, 279)] [10, 11] [(4, 3, 4)]) σ0 (r.1)) := by
  unfold fX12_digit
  exact zpc_if (fun _ => fw_fX12_digit_20 h) (fun _ => fw_fX12_digit_20 h)
theorem fw_fX12_patchByte_25 {σ0 : zSt} {σ : zSt} {x2 : Int32} {s0 : Int32} (h : (zQ [] [(3, 72, 77), (3, 83, 85), (3, 87, 88), (3, 164, 170), (3, 172, 279)] [10, 11] [(4, 3, 4)]) σ0 σ) : zpc (fX12_patchByte_25 σ x2 s0) (fun r => (zQ [] [(3, 72, 77), (3, 83, 85), (3, 87, 88), (3, 164, 170), (3, 172, 279)] [10, 11] [(4, 3, 4)]) σ0 (r.1)) := by
  unfold fX12_patchByte_25
  exact zpc_if (fun _ => zpc_bi (fw_fX12_wreg h) (fun σ6 v7 hσ6 => zpc_some hσ6)) (fun _ => zpc_bv (fun v1 _ => zpc_ck (zpc_ck (zpc_bi (fw_fX12_digit h) (fun σ2 v3 hσ2 => zpc_ck (zpc_ck (zpc_bi (fw_fX12_digit hσ2) (fun σ4 v5 hσ4 => zpc_some hσ4))))))))
theorem fw_fX12_patchByte {σ0 : zSt} {σ : zSt} {x1 : Int32} {x2 : Int32} (h : (zQ [] [(3, 72, 77), (3, 83, 85), (3, 87, 88), (3, 164, 170), (3, 172, 279)] [10, 11] [(4, 3, 4)]) σ0 σ) : zpc (fX12_patchByte σ x1 x2) (fun r => (zQ [] [(3, 72, 77), (3, 83, 85), (3, 87, 88), (3, 164, 170), (3, 172, 279)] [10, 11] [(4, 3, 4)]) σ0 (r.1)) := by
  unfold fX12_patchByte
  exact zpc_bi (fw_fX12_isRhythm h) (fun σ8 v9 hσ8 => zpc_if (fun _ => zpc_bi (fw_fX12_wreg hσ8) (fun σ10 v11 hσ10 => fw_fX12_patchByte_25 hσ10)) (fun _ => fw_fX12_patchByte_25 hσ8))
theorem fw_fX12_rate_140 {σ0 : zSt} {σ : zSt} {s0 : Int32} (h : (zQ [] [(3, 72, 77), (3, 83, 85), (3, 87, 88), (3, 164, 170), (3, 172, 279)] [10, 11] [(4, 3, 4)]) σ0 σ) : zpc (fX12_rate_140 σ s0) (fun r => (zQ [] [(3, 72, 77), (3, 83, 85), (3, 87, 88), (3, 164, 170), (3, 172, 279)] [10, 11] [(4, 3, 4)]) σ0 (r.1)) := by
  unfold fX12_rate_140
  exact zpc_some h
theorem fw_fX12_rate_99 {σ0 : zSt} {σ : zSt} {s0 : Int32} (h : (zQ [] [(3, 72, 77), (3, 83, 85), (3, 87, 88), (3, 164, 170), (3, 172, 279)] [10, 11] [(4, 3, 4)]) σ0 σ) : zpc (fX12_rate_99 σ s0) (fun r => (zQ [] [(3, 72, 77), (3, 83, 85), (3, 87, 88), (3, 164, 170), (3, 172, 279)] [10, 11] [(4, 3, 4)]) σ0 (r.1)) := by
  unfold fX12_rate_99
  exact zpc_some h
theorem fw_fX12_rate_17 {σ0 : zSt} {σ : zSt} {x1 : Int32} {x2 : Int32} {x3 : Int32} {s0 : Int32} (h : (zQ [] [(3, 72, 77), (3, 83, 85), (3, 87, 88), (3, 164, 170), (3, 172, 279)] [10, 11] [(4, 3, 4)]) σ0 σ) : zpc (fX12_rate_17 σ x1 x2 x3 s0) (fun r => (zQ [] [(3, 72, 77), (3, 83, 85), (3, 87, 88), (3, 164, 170), (3, 172, 279)] [10, 11] [(4, 3, 4)]) σ0 (r.1)) := by
  unfold fX12_rate_17
  exact zpc_if (fun _ => zpc_some h) (fun _ => zpc_if (fun _ => zpc_bi (fw_fX12_patchByte h) (fun σ1 v2 hσ1 => zpc_some hσ1)) (fun _ => zpc_if (fun _ => zpc_bi (fw_fX12_patchByte h) (fun σ3 v4 hσ3 => zpc_some hσ3)) (fun _ => zpc_if (fun _ => zpc_if (fun _ => zpc_bi (fw_fX12_patchByte h) (fun σ5 v6 hσ5 => fw_fX12_rate_99 hσ5)) (fun _ => fw_fX12_rate_99 h)) (fun _ => zpc_bi (fw_fX12_wreg h) (fun σ7 v8 hσ7 => zpc_if (fun _ => zpc_if (fun _ => fw_fX12_rate_140 hσ7) (fun _ => zpc_bi (fw_fX12_patchByte hσ7) (fun σ9 v10 hσ9 => fw_fX12_rate_140 hσ9))) (fun _ => fw_fX12_rate_140 hσ7))))))
theorem fw_fX12_rate {σ0 : zSt} {σ : zSt} {x1 : Int32} {x2 : Int32} {x3 : Int32} (h : (zQ [] [(3, 72, 77), (3, 83, 85), (3, 87, 88), (3, 164, 170), (3, 172, 279)] [10, 11] [(4, 3, 4)]) σ0 σ) : zpc (fX12_rate σ x1 x2 x3) (fun r => (zQ [] [(3, 72, 77), (3, 83, 85), (3, 87, 88), (3, 164, 170), (3, 172, 279)] [10, 11] [(4, 3, 4)]) σ0 (r.1)) := by
  unfold fX12_rate
  exact zpc_bi (fw_fX12_patchByte h) (fun σ11 v12 hσ11 => zpc_if (fun _ => fw_fX12_rate_17 hσ11) (fun _ => fw_fX12_rate_17 hσ11))
theorem fw_fX12_block {σ0 : zSt} {σ : zSt} {x1 : Int32} (h : (zQ [] [(3, 72, 77), (3, 83, 85), (3, 87, 88), (3, 164, 170), (3, 172, 279)] [10, 11] [(4, 3, 4)]) σ0 σ) : zpc (fX12_block σ x1) (fun r => (zQ [] [(3, 72, 77), (3, 83, 85), (3, 87, 88), (3, 164, 170), (3, 172, 279)] [10, 11] [(4, 3, 4)]) σ0 (r.1)) := by
  unfold fX12_block
  exact zpc_bi (fw_fX12_wreg h) (fun σ1 v2 hσ1 => zpc_some hσ1)
theorem fw_fX12_f {σ0 : zSt} {σ : zSt} {x1 : Int32} (h : (zQ [] [(3, 72, 77), (3, 83, 85), (3, 87, 88), (3, 164, 170), (3, 172, 279)] [10, 11] [(4, 3, 4)]) σ0 σ) : zpc (fX12_f σ x1) (fun r => (zQ [] [(3, 72, 77), (3, 83, 85), (3, 87, 88), (3, 164, 170), (3, 172, 279)] [10, 11] [(4, 3, 4)]) σ0 (r.1)) := by
  unfold fX12_f
  exact zpc_bi (fw_fX12_wreg h) (fun σ1 v2 hσ1 => zpc_bi (fw_fX12_wreg hσ1) (fun σ3 v4 hσ3 => zpc_some hσ3))
theorem fw_fX12_t_40 {σ0 : zSt} {σ : zSt} {s0 : Int32} (h : (zQ [] [(3, 72, 77), (3, 83, 85), (3, 87, 88), (3, 164, 170), (3, 172, 279)] [10, 11] [(4, 3, 4)]) σ0 σ) : zpc (fX12_t_40 σ s0) (fun r => (zQ [] [(3, 72, 77), (3, 83, 85), (3, 87, 88), (3, 164, 170), (3, 172, 279)] [10, 11] [(4, 3, 4)]) σ0 (r.1)) := by
  unfold fX12_t_40
  exact zpc_some h
theorem fw_fX12_t_35 {σ0 : zSt} {σ : zSt} (h : (zQ [] [(3, 72, 77), (3, 83, 85), (3, 87, 88), (3, 164, 170), (3, 172, 279)] [10, 11] [(4, 3, 4)]) σ0 σ) : zpc (fX12_t_35 σ) (fun r => (zQ [] [(3, 72, 77), (3, 83, 85), (3, 87, 88), (3, 164, 170), (3, 172, 279)] [10, 11] [(4, 3, 4)]) σ0 (r.1)) := by
  unfold fX12_t_35
  exact fw_fX12_t_40 h
theorem fw_fX12_t_39 {σ0 : zSt} {σ : zSt} (h : (zQ [] [(3, 72, 77), (3, 83, 85), (3, 87, 88), (3, 164, 170), (3, 172, 279)] [10, 11] [(4, 3, 4)]) σ0 σ) : zpc (fX12_t_39 σ) (fun r => (zQ [] [(3, 72, 77), (3, 83, 85), (3, 87, 88), (3, 164, 170), (3, 172, 279)] [10, 11] [(4, 3, 4)]) σ0 (r.1)) := by
  unfold fX12_t_39
  exact fw_fX12_t_40 h
theorem fw_fX12_t_19 {σ0 : zSt} {σ : zSt} {x0 : Int32} {x1 : Int32} (h : (zQ [] [(3, 72, 77), (3, 83, 85), (3, 87, 88), (3, 164, 170), (3, 172, 279)] [10, 11] [(4, 3, 4)]) σ0 σ) : zpc (fX12_t_19 σ x0 x1) (fun r => (zQ [] [(3, 72, 77), (3, 83, 85), (3, 87, 88), (3, 164, 170), (3, 172, 279)] [10, 11] [(4, 3, 4)]) σ0 (r.1)) := by
  unfold fX12_t_19
  exact zpc_if (fun _ => fw_fX12_t_39 h) (fun _ => zpc_if (fun _ => fw_fX12_t_35 h) (fun _ => zpc_if (fun _ => fw_fX12_t_35 h) (fun _ => fw_fX12_t_39 h)))
theorem fw_fX12_t {σ0 : zSt} {σ : zSt} {x0 : Int32} {x1 : Int32} (h : (zQ [] [(3, 72, 77), (3, 83, 85), (3, 87, 88), (3, 164, 170), (3, 172, 279)] [10, 11] [(4, 3, 4)]) σ0 σ) : zpc (fX12_t σ x0 x1) (fun r => (zQ [] [(3, 72, 77), (3, 83, 85), (3, 87, 88), (3, 164, 170), (3, 172, 279)] [10, 11] [(4, 3, 4)]) σ0 (r.1)) := by
  unfold fX12_t
  exact zpc_ck (zpc_if (fun _ => fw_fX12_t_35 h) (fun _ => zpc_ck (zpc_if (fun _ => zpc_if (fun _ => fw_fX12_t_35 h) (fun _ => fw_fX12_t_19 h)) (fun _ => fw_fX12_t_19 h))))
theorem fw_fX12_envelope_275 {σ0 : zSt} {σ : zSt} {s0 : Int32} {s1 : Int32} (h : (zQ [] [(3, 72, 77), (3, 83, 85), (3, 87, 88), (3, 164, 170), (3, 172, 279)] [10, 11] [(4, 3, 4)]) σ0 σ) (qs1 : zr 172 274 s1) : zpc (fX12_envelope_275 σ s0 s1) (fun r => (zQ [] [(3, 72, 77), (3, 83, 85), (3, 87, 88), (3, 164, 170), (3, 172, 279)] [10, 11] [(4, 3, 4)]) σ0 (r)) := by
  unfold fX12_envelope_275
  exact zpc_ck (zpc_bs (zQ.wr (a := 172) (b := 279) (lo := 172) (hi := 274) h qs1 rfl (by decide)) (fun σ1 hσ1 => zpc_some hσ1))
theorem fw_fX12_envelope_259 {σ0 : zSt} {σ : zSt} {x1 : Int32} {x15 : Int32} (h : (zQ [] [(3, 72, 77), (3, 83, 85), (3, 87, 88), (3, 164, 170), (3, 172, 279)] [10, 11] [(4, 3, 4)]) σ0 σ) (qx1 : zr 172 274 x1) : zpc (fX12_envelope_259 σ x1 x15) (fun r => (zQ [] [(3, 72, 77), (3, 83, 85), (3, 87, 88), (3, 164, 170), (3, 172, 279)] [10, 11] [(4, 3, 4)]) σ0 (r)) := by
  unfold fX12_envelope_259
  exact zpc_if (fun _ => fw_fX12_envelope_275 h qx1) (fun _ => fw_fX12_envelope_275 h qx1)
theorem fw_fX12_envelope_220 {σ0 : zSt} {σ : zSt} {x1 : Int32} {s0 : Int32} (h : (zQ [] [(3, 72, 77), (3, 83, 85), (3, 87, 88), (3, 164, 170), (3, 172, 279)] [10, 11] [(4, 3, 4)]) σ0 σ) (qx1 : zr 172 274 x1) : zpc (fX12_envelope_220 σ x1 s0) (fun r => (zQ [] [(3, 72, 77), (3, 83, 85), (3, 87, 88), (3, 164, 170), (3, 172, 279)] [10, 11] [(4, 3, 4)]) σ0 (r)) := by
  unfold fX12_envelope_220
  exact fw_fX12_envelope_259 h qx1
theorem fw_fX12_envelope_257 {σ0 : zSt} {σ : zSt} {x1 : Int32} {s0 : Int32} (h : (zQ [] [(3, 72, 77), (3, 83, 85), (3, 87, 88), (3, 164, 170), (3, 172, 279)] [10, 11] [(4, 3, 4)]) σ0 σ) (qx1 : zr 172 274 x1) : zpc (fX12_envelope_257 σ x1 s0) (fun r => (zQ [] [(3, 72, 77), (3, 83, 85), (3, 87, 88), (3, 164, 170), (3, 172, 279)] [10, 11] [(4, 3, 4)]) σ0 (r)) := by
  unfold fX12_envelope_257
  exact fw_fX12_envelope_259 h qx1
theorem fw_fX12_envelope_358 {σ0 : zSt} {σ : zSt} {s0 : Int32} {s1 : Int32} (h : (zQ [] [(3, 72, 77), (3, 83, 85), (3, 87, 88), (3, 164, 170), (3, 172, 279)] [10, 11] [(4, 3, 4)]) σ0 σ) (qs1 : zr 172 274 s1) : zpc (fX12_envelope_358 σ s0 s1) (fun r => (zQ [] [(3, 72, 77), (3, 83, 85), (3, 87, 88), (3, 164, 170), (3, 172, 279)] [10, 11] [(4, 3, 4)]) σ0 (r)) := by
  unfold fX12_envelope_358
  exact zpc_ck (zpc_bs (zQ.wr (a := 172) (b := 279) (lo := 172) (hi := 274) h qs1 rfl (by decide)) (fun σ2 hσ2 => zpc_some hσ2))
theorem fw_fX12_envelope_336 {σ0 : zSt} {σ : zSt} {x1 : Int32} {s0 : Int32} {s1 : Int32} (h : (zQ [] [(3, 72, 77), (3, 83, 85), (3, 87, 88), (3, 164, 170), (3, 172, 279)] [10, 11] [(4, 3, 4)]) σ0 σ) (qx1 : zr 172 274 x1) : zpc (fX12_envelope_336 σ x1 s0 s1) (fun r => (zQ [] [(3, 72, 77), (3, 83, 85), (3, 87, 88), (3, 164, 170), (3, 172, 279)] [10, 11] [(4, 3, 4)]) σ0 (r)) := by
  unfold fX12_envelope_336
  exact zpc_bv (fun v3 _ => zpc_if (fun _ => fw_fX12_envelope_358 h qx1) (fun _ => fw_fX12_envelope_358 h qx1))
theorem fw_fX12_envelope_159 {σ0 : zSt} {σ : zSt} {x1 : Int32} {x4 : Int32} {x7 : Int32} {x8 : Int32} {x9 : Int64} {s0 : Int32} (h : (zQ [] [(3, 72, 77), (3, 83, 85), (3, 87, 88), (3, 164, 170), (3, 172, 279)] [10, 11] [(4, 3, 4)]) σ0 σ) (qx1 : zr 172 274 x1) : zpc (fX12_envelope_159 σ x1 x4 x7 x8 x9 s0) (fun r => (zQ [] [(3, 72, 77), (3, 83, 85), (3, 87, 88), (3, 164, 170), (3, 172, 279)] [10, 11] [(4, 3, 4)]) σ0 (r)) := by
  unfold fX12_envelope_159
  exact zpc_ck (zpc_ck (zpc_bv (fun v4 _ => zpc_ck (zpc_bv (fun v5 _ => zpc_if (fun _ => zpc_if (fun _ => zpc_if (fun _ => fw_fX12_envelope_257 h qx1) (fun _ => zpc_bi (fw_fX12_t h) (fun σ10 v11 hσ10 => fw_fX12_envelope_257 hσ10 qx1))) (fun _ => zpc_if (fun _ => zpc_ck (fw_fX12_envelope_220 h qx1)) (fun _ => fw_fX12_envelope_220 h qx1))) (fun _ => zpc_if (fun _ => zpc_if (fun _ => zpc_ck (zpc_bi (fw_fX12_t h) (fun σ8 v9 hσ8 => fw_fX12_envelope_336 hσ8 qx1))) (fun _ => zpc_if (fun _ => zpc_bi (fw_fX12_t h) (fun σ6 v7 hσ6 => fw_fX12_envelope_336 hσ6 qx1)) (fun _ => fw_fX12_envelope_336 h qx1))) (fun _ => fw_fX12_envelope_336 h qx1)))))))
theorem fw_fX12_envelope_158 {σ0 : zSt} {σ : zSt} {x1 : Int32} {x4 : Int32} {x7 : Int32} {x8 : Int32} {x9 : Int64} (h : (zQ [] [(3, 72, 77), (3, 83, 85), (3, 87, 88), (3, 164, 170), (3, 172, 279)] [10, 11] [(4, 3, 4)]) σ0 σ) (qx1 : zr 172 274 x1) : zpc (fX12_envelope_158 σ x1 x4 x7 x8 x9) (fun r => (zQ [] [(3, 72, 77), (3, 83, 85), (3, 87, 88), (3, 164, 170), (3, 172, 279)] [10, 11] [(4, 3, 4)]) σ0 (r)) := by
  unfold fX12_envelope_158
  exact fw_fX12_envelope_159 h qx1
theorem fw_fX12_envelope_121 {σ0 : zSt} {σ : zSt} {x1 : Int32} {x4 : Int32} {x7 : Int32} {x8 : Int32} {x9 : Int64} {s0 : Int64} (h : (zQ [] [(3, 72, 77), (3, 83, 85), (3, 87, 88), (3, 164, 170), (3, 172, 279)] [10, 11] [(4, 3, 4)]) σ0 σ) (qx1 : zr 172 274 x1) : zpc (fX12_envelope_121 σ x1 x4 x7 x8 x9 s0) (fun r => (zQ [] [(3, 72, 77), (3, 83, 85), (3, 87, 88), (3, 164, 170), (3, 172, 279)] [10, 11] [(4, 3, 4)]) σ0 (r)) := by
  unfold fX12_envelope_121
  exact zpc_if (fun _ => fw_fX12_envelope_158 h qx1) (fun _ => zpc_ck (zpc_if (fun _ => zpc_ck (zpc_ck (zpc_bi (fw_fX12_t h) (fun σ12 v13 hσ12 => fw_fX12_envelope_159 hσ12 qx1)))) (fun _ => fw_fX12_envelope_158 h qx1)))
theorem fw_fX12_envelope_87 {σ0 : zSt} {σ : zSt} {x1 : Int32} {x4 : Int32} {x6 : Int32} {s0 : Int32} (h : (zQ [] [(3, 72, 77), (3, 83, 85), (3, 87, 88), (3, 164, 170), (3, 172, 279)] [10, 11] [(4, 3, 4)]) σ0 σ) (qx1 : zr 172 274 x1) : zpc (fX12_envelope_87 σ x1 x4 x6 s0) (fun r => (zQ [] [(3, 72, 77), (3, 83, 85), (3, 87, 88), (3, 164, 170), (3, 172, 279)] [10, 11] [(4, 3, 4)]) σ0 (r)) := by
  unfold fX12_envelope_87
  exact zpc_ck (zpc_bv (fun v14 _ => zpc_ck (zpc_bv (fun v15 _ => zpc_if (fun _ => fw_fX12_envelope_121 h qx1) (fun _ => fw_fX12_envelope_121 h qx1)))))
theorem fw_fX12_envelope_63 {σ0 : zSt} {σ : zSt} {x1 : Int32} {x4 : Int32} {x5 : Int32} {x6 : Int32} (h : (zQ [] [(3, 72, 77), (3, 83, 85), (3, 87, 88), (3, 164, 170), (3, 172, 279)] [10, 11] [(4, 3, 4)]) σ0 σ) (qx1 : zr 172 274 x1) : zpc (fX12_envelope_63 σ x1 x4 x5 x6) (fun r => (zQ [] [(3, 72, 77), (3, 83, 85), (3, 87, 88), (3, 164, 170), (3, 172, 279)] [10, 11] [(4, 3, 4)]) σ0 (r)) := by
  unfold fX12_envelope_63
  exact zpc_ck (zpc_if (fun _ => zpc_ck (fw_fX12_envelope_87 h qx1)) (fun _ => fw_fX12_envelope_87 h qx1))
theorem fw_fX12_envelope {σ0 : zSt} {σ : zSt} {x1 : Int32} {x2 : Int32} {x3 : Int32} (h : (zQ [] [(3, 72, 77), (3, 83, 85), (3, 87, 88), (3, 164, 170), (3, 172, 279)] [10, 11] [(4, 3, 4)]) σ0 σ) (qx1 : zr 172 274 x1) : zpc (fX12_envelope σ x1 x2 x3) (fun r => (zQ [] [(3, 72, 77), (3, 83, 85), (3, 87, 88), (3, 164, 170), (3, 172, 279)] [10, 11] [(4, 3, 4)]) σ0 (r)) := by
  unfold fX12_envelope
  exact zpc_ck (zpc_bv (fun v16 _ => zpc_bi (fw_fX12_rate h) (fun σ17 v18 hσ17 => zpc_if (fun _ => zpc_some hσ17) (fun _ => zpc_bi (fw_fX12_block hσ17) (fun σ19 v20 hσ19 => zpc_bi (fw_fX12_f hσ19) (fun σ21 v22 hσ21 => zpc_ck (zpc_bv (fun v23 _ => zpc_bi (fw_fX12_patchByte hσ21) (fun σ24 v25 hσ24 => zpc_if (fun _ => zpc_ck (zpc_bv (fun v26 _ => fw_fX12_envelope_63 hσ24 qx1))) (fun _ => fw_fX12_envelope_63 hσ24 qx1))))))))))
theorem fw_fX12_phase_150 {σ0 : zSt} {σ : zSt} {x1 : Int32} {x2 : Int32} {x5 : Int32} {x6 : Int32} (h : (zQ [] [(3, 72, 77), (3, 83, 85), (3, 87, 88), (3, 164, 170), (3, 172, 279)] [10, 11] [(4, 3, 4)]) σ0 σ) (qx1 : zr 172 274 x1) : zpc (fX12_phase_150 σ x1 x2 x5 x6) (fun r => (zQ [] [(3, 72, 77), (3, 83, 85), (3, 87, 88), (3, 164, 170), (3, 172, 279)] [10, 11] [(4, 3, 4)]) σ0 (r)) := by
  unfold fX12_phase_150
  exact zpc_ck (zpc_bi (fw_fX12_f h) (fun σ1 v2 hσ1 => zpc_bi (fw_fX12_block hσ1) (fun σ3 v4 hσ3 => zpc_ck (zpc_ck (zpc_bs (zQ.wr (a := 172) (b := 279) (lo := 174) (hi := 276) hσ3 (zr_add (lo := 174) (hi := 276) qx1 (zr_c (x := 2) (lo := 2) (hi := 2) (by decide)) (by decide)) rfl (by decide)) (fun σ5 hσ5 => zpc_some hσ5))))))
theorem fw_fX12_phase_148 {σ0 : zSt} {σ : zSt} {x1 : Int32} {x2 : Int32} {x5 : Int32} {s0 : Int32} (h : (zQ [] [(3, 72, 77), (3, 83, 85), (3, 87, 88), (3, 164, 170), (3, 172, 279)] [10, 11] [(4, 3, 4)]) σ0 σ) (qx1 : zr 172 274 x1) : zpc (fX12_phase_148 σ x1 x2 x5 s0) (fun r => (zQ [] [(3, 72, 77), (3, 83, 85), (3, 87, 88), (3, 164, 170), (3, 172, 279)] [10, 11] [(4, 3, 4)]) σ0 (r)) := by
  unfold fX12_phase_148
  exact fw_fX12_phase_150 h qx1
theorem fw_fX12_phase_132 {σ0 : zSt} {σ : zSt} {x1 : Int32} {x2 : Int32} {x5 : Int32} {x7 : Int32} {s0 : Int32} (h : (zQ [] [(3, 72, 77), (3, 83, 85), (3, 87, 88), (3, 164, 170), (3, 172, 279)] [10, 11] [(4, 3, 4)]) σ0 σ) (qx1 : zr 172 274 x1) : zpc (fX12_phase_132 σ x1 x2 x5 x7 s0) (fun r => (zQ [] [(3, 72, 77), (3, 83, 85), (3, 87, 88), (3, 164, 170), (3, 172, 279)] [10, 11] [(4, 3, 4)]) σ0 (r)) := by
  unfold fX12_phase_132
  exact zpc_if (fun _ => fw_fX12_phase_148 h qx1) (fun _ => fw_fX12_phase_148 h qx1)
theorem fw_fX12_phase_60 {σ0 : zSt} {σ : zSt} {x1 : Int32} {x2 : Int32} {x3 : Int32} {s0 : Int32} (h : (zQ [] [(3, 72, 77), (3, 83, 85), (3, 87, 88), (3, 164, 170), (3, 172, 279)] [10, 11] [(4, 3, 4)]) σ0 σ) (qx1 : zr 172 274 x1) : zpc (fX12_phase_60 σ x1 x2 x3 s0) (fun r => (zQ [] [(3, 72, 77), (3, 83, 85), (3, 87, 88), (3, 164, 170), (3, 172, 279)] [10, 11] [(4, 3, 4)]) σ0 (r)) := by
  unfold fX12_phase_60
  exact zpc_bi (fw_fX12_patchByte h) (fun σ6 v7 hσ6 => zpc_if (fun _ => fw_fX12_phase_150 hσ6 qx1) (fun _ => zpc_ck (zpc_ck (zpc_ck (zpc_bv (fun v8 _ => zpc_bi (fw_fX12_f hσ6) (fun σ9 v10 hσ9 => zpc_ck (zpc_bv (fun v11 _ => zpc_ck (zpc_if (fun _ => fw_fX12_phase_132 hσ9 qx1) (fun _ => zpc_ck (zpc_if (fun _ => fw_fX12_phase_132 hσ9 qx1) (fun _ => zpc_ck (fw_fX12_phase_132 hσ9 qx1))))))))))))))
theorem fw_fX12_phase {σ0 : zSt} {σ : zSt} {x1 : Int32} {x2 : Int32} {x3 : Int32} (h : (zQ [] [(3, 72, 77), (3, 83, 85), (3, 87, 88), (3, 164, 170), (3, 172, 279)] [10, 11] [(4, 3, 4)]) σ0 σ) (qx1 : zr 172 274 x1) : zpc (fX12_phase σ x1 x2 x3) (fun r => (zQ [] [(3, 72, 77), (3, 83, 85), (3, 87, 88), (3, 164, 170), (3, 172, 279)] [10, 11] [(4, 3, 4)]) σ0 (r)) := by
  unfold fX12_phase
  exact zpc_bi (fw_fX12_patchByte h) (fun σ12 v13 hσ12 => zpc_bv (fun v14 _ => zpc_if (fun _ => fw_fX12_phase_60 hσ12 qx1) (fun _ => zpc_if (fun _ => zpc_if (fun _ => fw_fX12_phase_60 hσ12 qx1) (fun _ => zpc_if (fun _ => fw_fX12_phase_60 hσ12 qx1) (fun _ => fw_fX12_phase_60 hσ12 qx1))) (fun _ => fw_fX12_phase_60 hσ12 qx1))))
theorem fw_fX12_drum_191 {σ0 : zSt} {σ : zSt} {s0 : Int32} (h : (zQ [] [(3, 72, 77), (3, 83, 85), (3, 87, 88), (3, 164, 170), (3, 172, 279)] [10, 11] [(4, 3, 4)]) σ0 σ) : zpc (fX12_drum_191 σ s0) (fun r => (zQ [] [(3, 72, 77), (3, 83, 85), (3, 87, 88), (3, 164, 170), (3, 172, 279)] [10, 11] [(4, 3, 4)]) σ0 (r.1)) := by
  unfold fX12_drum_191
  exact zpc_some h
theorem fw_fX12_drum_214 {σ0 : zSt} {σ : zSt} {s0 : Int32} (h : (zQ [] [(3, 72, 77), (3, 83, 85), (3, 87, 88), (3, 164, 170), (3, 172, 279)] [10, 11] [(4, 3, 4)]) σ0 σ) : zpc (fX12_drum_214 σ s0) (fun r => (zQ [] [(3, 72, 77), (3, 83, 85), (3, 87, 88), (3, 164, 170), (3, 172, 279)] [10, 11] [(4, 3, 4)]) σ0 (r.1)) := by
  unfold fX12_drum_214
  exact zpc_some h
theorem fw_fX12_drum_148 {σ0 : zSt} {σ : zSt} {x1 : Int32} {x2 : Int32} {x3 : Int32} {x6 : Int32} {x7 : Int32} (h : (zQ [] [(3, 72, 77), (3, 83, 85), (3, 87, 88), (3, 164, 170), (3, 172, 279)] [10, 11] [(4, 3, 4)]) σ0 σ) : zpc (fX12_drum_148 σ x1 x2 x3 x6 x7) (fun r => (zQ [] [(3, 72, 77), (3, 83, 85), (3, 87, 88), (3, 164, 170), (3, 172, 279)] [10, 11] [(4, 3, 4)]) σ0 (r.1)) := by
  unfold fX12_drum_148
  exact zpc_if (fun _ => zpc_if (fun _ => zpc_if (fun _ => fw_fX12_drum_191 h) (fun _ => fw_fX12_drum_191 h)) (fun _ => zpc_if (fun _ => fw_fX12_drum_191 h) (fun _ => fw_fX12_drum_191 h))) (fun _ => zpc_if (fun _ => fw_fX12_drum_214 h) (fun _ => zpc_if (fun _ => fw_fX12_drum_214 h) (fun _ => fw_fX12_drum_214 h)))
theorem fw_fX12_drum_147 {σ0 : zSt} {σ : zSt} {s0 : Int32} (h : (zQ [] [(3, 72, 77), (3, 83, 85), (3, 87, 88), (3, 164, 170), (3, 172, 279)] [10, 11] [(4, 3, 4)]) σ0 σ) : zpc (fX12_drum_147 σ s0) (fun r => (zQ [] [(3, 72, 77), (3, 83, 85), (3, 87, 88), (3, 164, 170), (3, 172, 279)] [10, 11] [(4, 3, 4)]) σ0 (r.1)) := by
  unfold fX12_drum_147
  exact zpc_some h
theorem fw_fX12_drum_100 {σ0 : zSt} {σ : zSt} {x1 : Int32} {x2 : Int32} {x3 : Int32} {x6 : Int32} {s0 : Int32} (h : (zQ [] [(3, 72, 77), (3, 83, 85), (3, 87, 88), (3, 164, 170), (3, 172, 279)] [10, 11] [(4, 3, 4)]) σ0 σ) : zpc (fX12_drum_100 σ x1 x2 x3 x6 s0) (fun r => (zQ [] [(3, 72, 77), (3, 83, 85), (3, 87, 88), (3, 164, 170), (3, 172, 279)] [10, 11] [(4, 3, 4)]) σ0 (r.1)) := by
  unfold fX12_drum_100
  exact zpc_if (fun _ => zpc_if (fun _ => zpc_if (fun _ => zpc_if (fun _ => fw_fX12_drum_147 h) (fun _ => fw_fX12_drum_147 h)) (fun _ => zpc_if (fun _ => fw_fX12_drum_147 h) (fun _ => fw_fX12_drum_147 h))) (fun _ => fw_fX12_drum_148 h)) (fun _ => fw_fX12_drum_148 h)
theorem fw_fX12_drum_79 {σ0 : zSt} {σ : zSt} {x1 : Int32} {x2 : Int32} {x3 : Int32} {s0 : Int32} (h : (zQ [] [(3, 72, 77), (3, 83, 85), (3, 87, 88), (3, 164, 170), (3, 172, 279)] [10, 11] [(4, 3, 4)]) σ0 σ) : zpc (fX12_drum_79 σ x1 x2 x3 s0) (fun r => (zQ [] [(3, 72, 77), (3, 83, 85), (3, 87, 88), (3, 164, 170), (3, 172, 279)] [10, 11] [(4, 3, 4)]) σ0 (r.1)) := by
  unfold fX12_drum_79
  exact zpc_ck (zpc_if (fun _ => fw_fX12_drum_100 h) (fun _ => fw_fX12_drum_100 h))
theorem fw_fX12_drum_74 {σ0 : zSt} {σ : zSt} {x1 : Int32} {x2 : Int32} {x3 : Int32} (h : (zQ [] [(3, 72, 77), (3, 83, 85), (3, 87, 88), (3, 164, 170), (3, 172, 279)] [10, 11] [(4, 3, 4)]) σ0 σ) : zpc (fX12_drum_74 σ x1 x2 x3) (fun r => (zQ [] [(3, 72, 77), (3, 83, 85), (3, 87, 88), (3, 164, 170), (3, 172, 279)] [10, 11] [(4, 3, 4)]) σ0 (r.1)) := by
  unfold fX12_drum_74
  exact fw_fX12_drum_79 h
theorem fw_fX12_drum {σ0 : zSt} {σ : zSt} {x1 : Int32} {x2 : Int32} {x3 : Int32} (h : (zQ [] [(3, 72, 77), (3, 83, 85), (3, 87, 88), (3, 164, 170), (3, 172, 279)] [10, 11] [(4, 3, 4)]) σ0 σ) : zpc (fX12_drum σ x1 x2 x3) (fun r => (zQ [] [(3, 72, 77), (3, 83, 85), (3, 87, 88), (3, 164, 170), (3, 172, 279)] [10, 11] [(4, 3, 4)]) σ0 (r.1)) := by
  unfold fX12_drum
  exact zpc_ck (zpc_ck (zpc_bv (fun v1 _ => zpc_ck (zpc_ck (zpc_bv (fun v2 _ => zpc_if (fun _ => zpc_if (fun _ => zpc_if (fun _ => fw_fX12_drum_79 h) (fun _ => fw_fX12_drum_74 h)) (fun _ => fw_fX12_drum_74 h)) (fun _ => fw_fX12_drum_74 h)))))))
theorem fw_fX12_kept_97 {σ0 : zSt} {σ : zSt} {s0 : Int32} (h : (zQ [] [(3, 72, 77), (3, 83, 85), (3, 87, 88), (3, 164, 170), (3, 172, 279)] [10, 11] [(4, 3, 4)]) σ0 σ) : zpc (fX12_kept_97 σ s0) (fun r => (zQ [] [(3, 72, 77), (3, 83, 85), (3, 87, 88), (3, 164, 170), (3, 172, 279)] [10, 11] [(4, 3, 4)]) σ0 (r.1)) := by
  unfold fX12_kept_97
  exact zpc_some h
theorem fw_fX12_kept {σ0 : zSt} {σ : zSt} {x0 : Int32} (h : (zQ [] [(3, 72, 77), (3, 83, 85), (3, 87, 88), (3, 164, 170), (3, 172, 279)] [10, 11] [(4, 3, 4)]) σ0 σ) : zpc (fX12_kept σ x0) (fun r => (zQ [] [(3, 72, 77), (3, 83, 85), (3, 87, 88), (3, 164, 170), (3, 172, 279)] [10, 11] [(4, 3, 4)]) σ0 (r.1)) := by
  unfold fX12_kept
  exact zpc_if (fun _ => fw_fX12_kept_97 h) (fun _ => zpc_if (fun _ => fw_fX12_kept_97 h) (fun _ => zpc_if (fun _ => fw_fX12_kept_97 h) (fun _ => zpc_if (fun _ => fw_fX12_kept_97 h) (fun _ => zpc_if (fun _ => fw_fX12_kept_97 h) (fun _ => zpc_if (fun _ => fw_fX12_kept_97 h) (fun _ => zpc_if (fun _ => fw_fX12_kept_97 h) (fun _ => zpc_if (fun _ => fw_fX12_kept_97 h) (fun _ => zpc_if (fun _ => fw_fX12_kept_97 h) (fun _ => fw_fX12_kept_97 h)))))))))
theorem fw_fX12_waveAt_376 {σ0 : zSt} {σ : zSt} {s0 : Int32} (h : (zQ [] [(3, 72, 77), (3, 83, 85), (3, 87, 88), (3, 164, 170), (3, 172, 279)] [10, 11] [(4, 3, 4)]) σ0 σ) : zpc (fX12_waveAt_376 σ s0) (fun r => (zQ [] [(3, 72, 77), (3, 83, 85), (3, 87, 88), (3, 164, 170), (3, 172, 279)] [10, 11] [(4, 3, 4)]) σ0 (r.1)) := by
  unfold fX12_waveAt_376
  exact zpc_some h
theorem fw_fX12_waveAt_296 {σ0 : zSt} {σ : zSt} {x2 : Int32} {x3 : Int32} {x4 : Int32} {x5 : Int32} {s0 : Int32} (h : (zQ [] [(3, 72, 77), (3, 83, 85), (3, 87, 88), (3, 164, 170), (3, 172, 279)] [10, 11] [(4, 3, 4)]) σ0 σ) : zpc (fX12_waveAt_296 σ x2 x3 x4 x5 s0) (fun r => (zQ [] [(3, 72, 77), (3, 83, 85), (3, 87, 88), (3, 164, 170), (3, 172, 279)] [10, 11] [(4, 3, 4)]) σ0 (r.1)) := by
  unfold fX12_waveAt_296
  exact zpc_ck (zpc_bv (fun v1 _ => zpc_ck (zpc_ck (zpc_ck (zpc_bv (fun v2 _ => zpc_if (fun _ => zpc_some h) (fun _ => zpc_bi (fw_fX12_patchByte h) (fun σ3 v4 hσ3 => zpc_if (fun _ => fw_fX12_waveAt_376 hσ3) (fun _ => fw_fX12_waveAt_376 hσ3)))))))))
theorem fw_fX12_waveAt_263 {σ0 : zSt} {σ : zSt} {x1 : Int32} {x2 : Int32} {x3 : Int32} {x4 : Int32} {x5 : Int32} {x8 : Int32} {x11 : Int32} {s0 : Int32} (h : (zQ [] [(3, 72, 77), (3, 83, 85), (3, 87, 88), (3, 164, 170), (3, 172, 279)] [10, 11] [(4, 3, 4)]) σ0 σ) : zpc (fX12_waveAt_263 σ x1 x2 x3 x4 x5 x8 x11 s0) (fun r => (zQ [] [(3, 72, 77), (3, 83, 85), (3, 87, 88), (3, 164, 170), (3, 172, 279)] [10, 11] [(4, 3, 4)]) σ0 (r.1)) := by
  unfold fX12_waveAt_263
  exact zpc_ck (zpc_bv (fun v5 _ => zpc_if (fun _ => fw_fX12_waveAt_296 h) (fun _ => fw_fX12_waveAt_296 h)))
theorem fw_fX12_waveAt_260 {σ0 : zSt} {σ : zSt} {x1 : Int32} {x2 : Int32} {x3 : Int32} {x4 : Int32} {x5 : Int32} {x8 : Int32} {x11 : Int32} {s0 : Int32} (h : (zQ [] [(3, 72, 77), (3, 83, 85), (3, 87, 88), (3, 164, 170), (3, 172, 279)] [10, 11] [(4, 3, 4)]) σ0 σ) : zpc (fX12_waveAt_260 σ x1 x2 x3 x4 x5 x8 x11 s0) (fun r => (zQ [] [(3, 72, 77), (3, 83, 85), (3, 87, 88), (3, 164, 170), (3, 172, 279)] [10, 11] [(4, 3, 4)]) σ0 (r.1)) := by
  unfold fX12_waveAt_260
  exact zpc_ck (fw_fX12_waveAt_263 h)
theorem fw_fX12_waveAt_206 {σ0 : zSt} {σ : zSt} {x1 : Int32} {x2 : Int32} {x3 : Int32} {x4 : Int32} {x5 : Int32} {x8 : Int32} {s0 : Int32} (h : (zQ [] [(3, 72, 77), (3, 83, 85), (3, 87, 88), (3, 164, 170), (3, 172, 279)] [10, 11] [(4, 3, 4)]) σ0 σ) : zpc (fX12_waveAt_206 σ x1 x2 x3 x4 x5 x8 s0) (fun r => (zQ [] [(3, 72, 77), (3, 83, 85), (3, 87, 88), (3, 164, 170), (3, 172, 279)] [10, 11] [(4, 3, 4)]) σ0 (r.1)) := by
  unfold fX12_waveAt_206
  exact zpc_ck (zpc_ck (zpc_ck (zpc_bv (fun v6 _ => zpc_bi (fw_fX12_patchByte h) (fun σ7 v8 hσ7 => zpc_if (fun _ => fw_fX12_waveAt_263 hσ7) (fun _ => zpc_if (fun _ => fw_fX12_waveAt_260 hσ7) (fun _ => fw_fX12_waveAt_260 hσ7)))))))
theorem fw_fX12_waveAt_192 {σ0 : zSt} {σ : zSt} {x1 : Int32} {x2 : Int32} {x3 : Int32} {x4 : Int32} {x5 : Int32} {x8 : Int32} {x9 : Int32} (h : (zQ [] [(3, 72, 77), (3, 83, 85), (3, 87, 88), (3, 164, 170), (3, 172, 279)] [10, 11] [(4, 3, 4)]) σ0 σ) : zpc (fX12_waveAt_192 σ x1 x2 x3 x4 x5 x8 x9) (fun r => (zQ [] [(3, 72, 77), (3, 83, 85), (3, 87, 88), (3, 164, 170), (3, 172, 279)] [10, 11] [(4, 3, 4)]) σ0 (r.1)) := by
  unfold fX12_waveAt_192
  exact zpc_ck (zpc_ck (fw_fX12_waveAt_206 h))
theorem fw_fX12_waveAt_123 {σ0 : zSt} {σ : zSt} {x1 : Int32} {x2 : Int32} {x3 : Int32} {x4 : Int32} {x5 : Int32} {s0 : Int32} (h : (zQ [] [(3, 72, 77), (3, 83, 85), (3, 87, 88), (3, 164, 170), (3, 172, 279)] [10, 11] [(4, 3, 4)]) σ0 σ) : zpc (fX12_waveAt_123 σ x1 x2 x3 x4 x5 s0) (fun r => (zQ [] [(3, 72, 77), (3, 83, 85), (3, 87, 88), (3, 164, 170), (3, 172, 279)] [10, 11] [(4, 3, 4)]) σ0 (r.1)) := by
  unfold fX12_waveAt_123
  exact zpc_bi (fw_fX12_patchByte h) (fun σ9 v10 hσ9 => zpc_bv (fun v11 _ => zpc_bi (fw_fX12_wreg hσ9) (fun σ12 v13 hσ12 => zpc_bv (fun v14 _ => zpc_if (fun _ => fw_fX12_waveAt_206 hσ12) (fun _ => zpc_bi (fw_fX12_isRhythm hσ12) (fun σ15 v16 hσ15 => zpc_if (fun _ => fw_fX12_waveAt_192 hσ15) (fun _ => zpc_if (fun _ => fw_fX12_waveAt_192 hσ15) (fun _ => zpc_bi (fw_fX12_wreg hσ15) (fun σ17 v18 hσ17 => fw_fX12_waveAt_206 hσ17)))))))))
theorem fw_fX12_waveAt_91 {σ0 : zSt} {σ : zSt} {x1 : Int32} {x2 : Int32} {x3 : Int32} {x4 : Int32} {x5 : Int32} (h : (zQ [] [(3, 72, 77), (3, 83, 85), (3, 87, 88), (3, 164, 170), (3, 172, 279)] [10, 11] [(4, 3, 4)]) σ0 σ) : zpc (fX12_waveAt_91 σ x1 x2 x3 x4 x5) (fun r => (zQ [] [(3, 72, 77), (3, 83, 85), (3, 87, 88), (3, 164, 170), (3, 172, 279)] [10, 11] [(4, 3, 4)]) σ0 (r.1)) := by
  unfold fX12_waveAt_91
  exact fw_fX12_waveAt_123 h
theorem fw_fX12_waveAt_41 {σ0 : zSt} {σ : zSt} {x1 : Int32} {x2 : Int32} {x3 : Int32} {x4 : Int32} {s0 : Int32} (h : (zQ [] [(3, 72, 77), (3, 83, 85), (3, 87, 88), (3, 164, 170), (3, 172, 279)] [10, 11] [(4, 3, 4)]) σ0 σ) : zpc (fX12_waveAt_41 σ x1 x2 x3 x4 s0) (fun r => (zQ [] [(3, 72, 77), (3, 83, 85), (3, 87, 88), (3, 164, 170), (3, 172, 279)] [10, 11] [(4, 3, 4)]) σ0 (r.1)) := by
  unfold fX12_waveAt_41
  exact zpc_bi (fw_fX12_patchByte h) (fun σ19 v20 hσ19 => zpc_bv (fun v21 _ => zpc_bi (fw_fX12_f hσ19) (fun σ22 v23 hσ22 => zpc_ck (zpc_bi (fw_fX12_kept hσ22) (fun σ24 v25 hσ24 => zpc_bi (fw_fX12_block hσ24) (fun σ26 v27 hσ26 => zpc_bv (fun v28 _ => zpc_if (fun _ => fw_fX12_waveAt_91 hσ26) (fun _ => zpc_if (fun _ => fw_fX12_waveAt_91 hσ26) (fun _ => zpc_if (fun _ => zpc_ck (fw_fX12_waveAt_123 hσ26)) (fun _ => zpc_if (fun _ => zpc_ck (fw_fX12_waveAt_123 hσ26)) (fun _ => fw_fX12_waveAt_123 hσ26)))))))))))
theorem fw_fX12_waveAt {σ0 : zSt} {σ : zSt} {x1 : Int32} {x2 : Int32} {x3 : Int32} {x4 : Int32} (h : (zQ [] [(3, 72, 77), (3, 83, 85), (3, 87, 88), (3, 164, 170), (3, 172, 279)] [10, 11] [(4, 3, 4)]) σ0 σ) : zpc (fX12_waveAt σ x1 x2 x3 x4) (fun r => (zQ [] [(3, 72, 77), (3, 83, 85), (3, 87, 88), (3, 164, 170), (3, 172, 279)] [10, 11] [(4, 3, 4)]) σ0 (r.1)) := by
  unfold fX12_waveAt
  exact zpc_ck (zpc_if (fun _ => zpc_if (fun _ => zpc_ck (fw_fX12_waveAt_41 h)) (fun _ => zpc_ck (fw_fX12_waveAt_41 h))) (fun _ => zpc_some h))
theorem fw_fX12_operator_319 {σ0 : zSt} {σ : zSt} {x1 : Int32} {x2 : Int32} {x3 : Int32} {x5 : Int32} {x8 : Int32} (h : (zQ [] [(3, 72, 77), (3, 83, 85), (3, 87, 88), (3, 164, 170), (3, 172, 279)] [10, 11] [(4, 3, 4)]) σ0 σ) (qx3 : zr 172 274 x3) : zpc (fX12_operator_319 σ x1 x2 x3 x5 x8) (fun r => (zQ [] [(3, 72, 77), (3, 83, 85), (3, 87, 88), (3, 164, 170), (3, 172, 279)] [10, 11] [(4, 3, 4)]) σ0 (r)) := by
  unfold fX12_operator_319
  exact zpc_ck (zpc_bs (zQ.wr (a := 172) (b := 279) (lo := 176) (hi := 278) h (zr_add (lo := 176) (hi := 278) qx3 (zr_c (x := 4) (lo := 4) (hi := 4) (by decide)) (by decide)) rfl (by decide)) (fun σ1 hσ1 => zpc_bi (fw_fX12_waveAt hσ1) (fun σ2 v3 hσ2 => zpc_ck (zpc_bs (zQ.wr (a := 172) (b := 279) (lo := 175) (hi := 277) hσ2 (zr_add (lo := 175) (hi := 277) qx3 (zr_c (x := 3) (lo := 3) (hi := 3) (by decide)) (by decide)) rfl (by decide)) (fun σ4 hσ4 => zpc_some hσ4)))))
theorem fw_fX12_operator_266 {σ0 : zSt} {σ : zSt} {x1 : Int32} {x2 : Int32} {x3 : Int32} {x5 : Int32} {s0 : Int32} (h : (zQ [] [(3, 72, 77), (3, 83, 85), (3, 87, 88), (3, 164, 170), (3, 172, 279)] [10, 11] [(4, 3, 4)]) σ0 σ) (qx3 : zr 172 274 x3) : zpc (fX12_operator_266 σ x1 x2 x3 x5 s0) (fun r => (zQ [] [(3, 72, 77), (3, 83, 85), (3, 87, 88), (3, 164, 170), (3, 172, 279)] [10, 11] [(4, 3, 4)]) σ0 (r)) := by
  unfold fX12_operator_266
  exact zpc_ck (zpc_ck (zpc_bv (fun v5 _ => zpc_bi (fw_fX12_isRhythm h) (fun σ6 v7 hσ6 => zpc_if (fun _ => fw_fX12_operator_319 hσ6 qx3) (fun _ => zpc_if (fun _ => fw_fX12_operator_319 hσ6 qx3) (fun _ => zpc_ck (zpc_ck (zpc_bi (fw_fX12_drum hσ6) (fun σ8 v9 hσ8 => fw_fX12_operator_319 hσ8 qx3)))))))))
theorem fw_fX12_operator_190 {σ0 : zSt} {σ : zSt} {x1 : Int32} {x2 : Int32} {x3 : Int32} (h : (zQ [] [(3, 72, 77), (3, 83, 85), (3, 87, 88), (3, 164, 170), (3, 172, 279)] [10, 11] [(4, 3, 4)]) σ0 σ) (qx3 : zr 172 274 x3) : zpc (fX12_operator_190 σ x1 x2 x3) (fun r => (zQ [] [(3, 72, 77), (3, 83, 85), (3, 87, 88), (3, 164, 170), (3, 172, 279)] [10, 11] [(4, 3, 4)]) σ0 (r)) := by
  unfold fX12_operator_190
  exact zpc_bu (fw_fX12_phase h qx3) (fun σ10 hσ10 => zpc_ck (zpc_bv (fun v11 _ => zpc_bi (fw_fX12_patchByte hσ10) (fun σ12 v13 hσ12 => zpc_bv (fun v14 _ => zpc_if (fun _ => zpc_ck (fw_fX12_operator_266 hσ12 qx3)) (fun _ => zpc_if (fun _ => fw_fX12_operator_266 hσ12 qx3) (fun _ => zpc_ck (zpc_ck (fw_fX12_operator_266 hσ12 qx3)))))))))
theorem fw_fX12_operator_146 {σ0 : zSt} {σ : zSt} {x1 : Int32} {x2 : Int32} {x3 : Int32} (h : (zQ [] [(3, 72, 77), (3, 83, 85), (3, 87, 88), (3, 164, 170), (3, 172, 279)] [10, 11] [(4, 3, 4)]) σ0 σ) (qx3 : zr 172 274 x3) : zpc (fX12_operator_146 σ x1 x2 x3) (fun r => (zQ [] [(3, 72, 77), (3, 83, 85), (3, 87, 88), (3, 164, 170), (3, 172, 279)] [10, 11] [(4, 3, 4)]) σ0 (r)) := by
  unfold fX12_operator_146
  exact zpc_ck (zpc_if (fun _ => zpc_ck (zpc_ck (zpc_bi (fw_fX12_patchByte h) (fun σ15 v16 hσ15 => zpc_if (fun _ => fw_fX12_operator_190 hσ15 qx3) (fun _ => zpc_ck (zpc_bs (zQ.wr (a := 172) (b := 279) (lo := 173) (hi := 275) hσ15 (zr_add (lo := 173) (hi := 275) qx3 (zr_c (x := 1) (lo := 1) (hi := 1) (by decide)) (by decide)) rfl (by decide)) (fun σ17 hσ17 => fw_fX12_operator_190 hσ17 qx3))))))) (fun _ => fw_fX12_operator_190 h qx3))
theorem fw_fX12_operator_113 {σ0 : zSt} {σ : zSt} {x1 : Int32} {x2 : Int32} {x3 : Int32} (h : (zQ [] [(3, 72, 77), (3, 83, 85), (3, 87, 88), (3, 164, 170), (3, 172, 279)] [10, 11] [(4, 3, 4)]) σ0 σ) (qx3 : zr 172 274 x3) : zpc (fX12_operator_113 σ x1 x2 x3) (fun r => (zQ [] [(3, 72, 77), (3, 83, 85), (3, 87, 88), (3, 164, 170), (3, 172, 279)] [10, 11] [(4, 3, 4)]) σ0 (r)) := by
  unfold fX12_operator_113
  exact zpc_ck (zpc_if (fun _ => zpc_ck (zpc_if (fun _ => zpc_ck (zpc_bs (zQ.wr (a := 172) (b := 279) (lo := 173) (hi := 275) h (zr_add (lo := 173) (hi := 275) qx3 (zr_c (x := 1) (lo := 1) (hi := 1) (by decide)) (by decide)) rfl (by decide)) (fun σ18 hσ18 => fw_fX12_operator_190 hσ18 qx3))) (fun _ => fw_fX12_operator_146 h qx3))) (fun _ => fw_fX12_operator_146 h qx3))
theorem fw_fX12_operator_53 {σ0 : zSt} {σ : zSt} {x1 : Int32} {x2 : Int32} {x3 : Int32} {x4 : Int32} (h : (zQ [] [(3, 72, 77), (3, 83, 85), (3, 87, 88), (3, 164, 170), (3, 172, 279)] [10, 11] [(4, 3, 4)]) σ0 σ) (qx3 : zr 172 274 x3) : zpc (fX12_operator_53 σ x1 x2 x3 x4) (fun r => (zQ [] [(3, 72, 77), (3, 83, 85), (3, 87, 88), (3, 164, 170), (3, 172, 279)] [10, 11] [(4, 3, 4)]) σ0 (r)) := by
  unfold fX12_operator_53
  exact zpc_ck (zpc_bs (zQ.wr (a := 172) (b := 279) (lo := 177) (hi := 279) h (zr_add (lo := 177) (hi := 279) qx3 (zr_c (x := 5) (lo := 5) (hi := 5) (by decide)) (by decide)) rfl (by decide)) (fun σ19 hσ19 => zpc_bu (fw_fX12_envelope hσ19 qx3) (fun σ20 hσ20 => zpc_ck (zpc_if (fun _ => zpc_ck (zpc_if (fun _ => fw_fX12_operator_113 hσ20 qx3) (fun _ => zpc_ck (zpc_bs (zQ.wr (a := 172) (b := 279) (lo := 173) (hi := 275) hσ20 (zr_add (lo := 173) (hi := 275) qx3 (zr_c (x := 1) (lo := 1) (hi := 1) (by decide)) (by decide)) rfl (by decide)) (fun σ21 hσ21 => zpc_ck (zpc_bs (zQ.wr (a := 172) (b := 279) (lo := 174) (hi := 276) hσ21 (zr_add (lo := 174) (hi := 276) qx3 (zr_c (x := 2) (lo := 2) (hi := 2) (by decide)) (by decide)) rfl (by decide)) (fun σ22 hσ22 => fw_fX12_operator_190 hσ22 qx3))))))) (fun _ => fw_fX12_operator_113 hσ20 qx3)))))
theorem fw_fX12_operator_52 {σ0 : zSt} {σ : zSt} {x1 : Int32} {x2 : Int32} {x3 : Int32} {x4 : Int32} {s0 : Int32} {s1 : Int32} (h : (zQ [] [(3, 72, 77), (3, 83, 85), (3, 87, 88), (3, 164, 170), (3, 172, 279)] [10, 11] [(4, 3, 4)]) σ0 σ) (qx3 : zr 172 274 x3) (qs1 : zr 172 279 s1) : zpc (fX12_operator_52 σ x1 x2 x3 x4 s0 s1) (fun r => (zQ [] [(3, 72, 77), (3, 83, 85), (3, 87, 88), (3, 164, 170), (3, 172, 279)] [10, 11] [(4, 3, 4)]) σ0 (r)) := by
  unfold fX12_operator_52
  exact zpc_ck (zpc_bs (zQ.wr (a := 172) (b := 279) (lo := 172) (hi := 279) h qs1 rfl (by decide)) (fun σ23 hσ23 => fw_fX12_operator_53 hσ23 qx3))
theorem fw_fX12_operator {σ0 : zSt} {σ : zSt} {x1 : Int32} {x2 : Int32} (h : (zQ [] [(3, 72, 77), (3, 83, 85), (3, 87, 88), (3, 164, 170), (3, 172, 279)] [10, 11] [(4, 3, 4)]) σ0 σ) (qx1 : zr 0 8 x1) (qx2 : zr 0 1 x2) : zpc (fX12_operator σ x1 x2) (fun r => (zQ [] [(3, 72, 77), (3, 83, 85), (3, 87, 88), (3, 164, 170), (3, 172, 279)] [10, 11] [(4, 3, 4)]) σ0 (r)) := by
  unfold fX12_operator
  exact zpc_bv (fun v24 ev24 => zpc_bi (fw_fX12_isOn h) (fun σ25 v26 hσ25 => zpc_ck (zpc_if (fun _ => fw_fX12_operator_53 hσ25 (show zr 172 274 v24 by rw [ev24]; exact (zr_add (lo := 172) (hi := 274) (zr_c (x := 172) (lo := 172) (hi := 172) (by decide)) (zr_mul (lo := 0) (hi := 102) (zr_c (x := 6) (lo := 6) (hi := 6) (by decide)) (zr_add (lo := 0) (hi := 17) (zr_mul (lo := 0) (hi := 16) (zr_c (x := 2) (lo := 2) (hi := 2) (by decide)) qx1 (by decide)) qx2 (by decide)) (by decide)) (by decide)))) (fun _ => zpc_if (fun _ => fw_fX12_operator_52 hσ25 (show zr 172 274 v24 by rw [ev24]; exact (zr_add (lo := 172) (hi := 274) (zr_c (x := 172) (lo := 172) (hi := 172) (by decide)) (zr_mul (lo := 0) (hi := 102) (zr_c (x := 6) (lo := 6) (hi := 6) (by decide)) (zr_add (lo := 0) (hi := 17) (zr_mul (lo := 0) (hi := 16) (zr_c (x := 2) (lo := 2) (hi := 2) (by decide)) qx1 (by decide)) qx2 (by decide)) (by decide)) (by decide))) (zr_w (zr_add (lo := 173) (hi := 275) (show zr 172 274 v24 by rw [ev24]; exact (zr_add (lo := 172) (hi := 274) (zr_c (x := 172) (lo := 172) (hi := 172) (by decide)) (zr_mul (lo := 0) (hi := 102) (zr_c (x := 6) (lo := 6) (hi := 6) (by decide)) (zr_add (lo := 0) (hi := 17) (zr_mul (lo := 0) (hi := 16) (zr_c (x := 2) (lo := 2) (hi := 2) (by decide)) qx1 (by decide)) qx2 (by decide)) (by decide)) (by decide))) (zr_c (x := 1) (lo := 1) (hi := 1) (by decide)) (by decide)) (by decide))) (fun _ => fw_fX12_operator_52 hσ25 (show zr 172 274 v24 by rw [ev24]; exact (zr_add (lo := 172) (hi := 274) (zr_c (x := 172) (lo := 172) (hi := 172) (by decide)) (zr_mul (lo := 0) (hi := 102) (zr_c (x := 6) (lo := 6) (hi := 6) (by decide)) (zr_add (lo := 0) (hi := 17) (zr_mul (lo := 0) (hi := 16) (zr_c (x := 2) (lo := 2) (hi := 2) (by decide)) qx1 (by decide)) qx2 (by decide)) (by decide)) (by decide))) (zr_w (zr_add (lo := 173) (hi := 275) (show zr 172 274 v24 by rw [ev24]; exact (zr_add (lo := 172) (hi := 274) (zr_c (x := 172) (lo := 172) (hi := 172) (by decide)) (zr_mul (lo := 0) (hi := 102) (zr_c (x := 6) (lo := 6) (hi := 6) (by decide)) (zr_add (lo := 0) (hi := 17) (zr_mul (lo := 0) (hi := 16) (zr_c (x := 2) (lo := 2) (hi := 2) (by decide)) qx1 (by decide)) qx2 (by decide)) (by decide)) (by decide))) (zr_c (x := 1) (lo := 1) (hi := 1) (by decide)) (by decide)) (by decide)))))))
theorem fw_fX12_waves_20_body {σ0 : zSt} {k12 : zSt → Int32 → Option (zSt)} (hk12 : ∀ (y0 : zSt) (y1 : Int32), (zQ [] [(3, 72, 77), (3, 83, 85), (3, 87, 88), (3, 164, 170), (3, 172, 279)] [10, 11] [(4, 3, 4)]) σ0 y0 → zr 0 9 y1 → zpc (k12 y0 y1) (fun r => (zQ [] [(3, 72, 77), (3, 83, 85), (3, 87, 88), (3, 164, 170), (3, 172, 279)] [10, 11] [(4, 3, 4)]) σ0 (r))) {k20 : zSt → Int32 → Int32 → Option (zSt)} (hk20 : ∀ (y0 : zSt) (y1 : Int32) (y2 : Int32), (zQ [] [(3, 72, 77), (3, 83, 85), (3, 87, 88), (3, 164, 170), (3, 172, 279)] [10, 11] [(4, 3, 4)]) σ0 y0 → zr 0 8 y1 → zr 0 2 y2 → zpc (k20 y0 y1 y2) (fun r => (zQ [] [(3, 72, 77), (3, 83, 85), (3, 87, 88), (3, 164, 170), (3, 172, 279)] [10, 11] [(4, 3, 4)]) σ0 (r))) {σ : zSt} {x1 : Int32} {x2 : Int32} (h : (zQ [] [(3, 72, 77), (3, 83, 85), (3, 87, 88), (3, 164, 170), (3, 172, 279)] [10, 11] [(4, 3, 4)]) σ0 σ) (qx1 : zr 0 8 x1) (qx2 : zr 0 2 x2) : zpc (fX12_waves_20_body k12 k20 σ x1 x2) (fun r => (zQ [] [(3, 72, 77), (3, 83, 85), (3, 87, 88), (3, 164, 170), (3, 172, 279)] [10, 11] [(4, 3, 4)]) σ0 (r)) := by
  unfold fX12_waves_20_body
  exact zpc_if (fun g2 => zpc_bv (fun v1 ev1 => hk12 _ _ h (zr_w (show zr 1 9 v1 by rw [ev1]; exact (zr_add (lo := 1) (hi := 9) qx1 (zr_c (x := 1) (lo := 1) (hi := 1) (by decide)) (by decide))) (by decide)))) (fun g2 => zpc_bu (fw_fX12_operator h qx1 (zr_nge (k := 2) (m := 1) qx2 rfl g2 (by decide))) (fun σ2 hσ2 => zpc_bv (fun v3 ev3 => hk20 _ _ _ hσ2 qx1 (zr_w (show zr 1 2 v3 by rw [ev3]; exact (zr_add (lo := 1) (hi := 2) (zr_nge (k := 2) (m := 1) qx2 rfl g2 (by decide)) (zr_c (x := 1) (lo := 1) (hi := 1) (by decide)) (by decide))) (by decide)))))
theorem fw_fX12_waves_20 {σ0 : zSt} {k12 : zSt → Int32 → Option (zSt)} (hk12 : ∀ (y0 : zSt) (y1 : Int32), (zQ [] [(3, 72, 77), (3, 83, 85), (3, 87, 88), (3, 164, 170), (3, 172, 279)] [10, 11] [(4, 3, 4)]) σ0 y0 → zr 0 9 y1 → zpc (k12 y0 y1) (fun r => (zQ [] [(3, 72, 77), (3, 83, 85), (3, 87, 88), (3, 164, 170), (3, 172, 279)] [10, 11] [(4, 3, 4)]) σ0 (r))) : ∀ (n : Nat) (y0 : zSt) (y1 : Int32) (y2 : Int32), (zQ [] [(3, 72, 77), (3, 83, 85), (3, 87, 88), (3, 164, 170), (3, 172, 279)] [10, 11] [(4, 3, 4)]) σ0 y0 → zr 0 8 y1 → zr 0 2 y2 → zpc (fX12_waves_20 k12 n y0 y1 y2) (fun r => (zQ [] [(3, 72, 77), (3, 83, 85), (3, 87, 88), (3, 164, 170), (3, 172, 279)] [10, 11] [(4, 3, 4)]) σ0 (r)) := by
  intro n
  induction n with
  | zero => intro y0 y1 y2 h q1 q2; exact zpc_none
  | succ n ih => intro y0 y1 y2 h q1 q2; exact fw_fX12_waves_20_body hk12 ih h q1 q2
theorem fw_fX12_waves_157 {σ0 : zSt} {k82 : zSt → Int32 → Int32 → Option (zSt)} (hk82 : ∀ (y0 : zSt) (y1 : Int32) (y2 : Int32), (zQ [] [(3, 72, 77), (3, 83, 85), (3, 87, 88), (3, 164, 170), (3, 172, 279)] [10, 11] [(4, 3, 4)]) σ0 y0 → zpc (k82 y0 y1 y2) (fun r => (zQ [] [(3, 72, 77), (3, 83, 85), (3, 87, 88), (3, 164, 170), (3, 172, 279)] [10, 11] [(4, 3, 4)]) σ0 (r))) {σ : zSt} {x2 : Int32} {x3 : Int32} (h : (zQ [] [(3, 72, 77), (3, 83, 85), (3, 87, 88), (3, 164, 170), (3, 172, 279)] [10, 11] [(4, 3, 4)]) σ0 σ) : zpc (fX12_waves_157 k82 σ x2 x3) (fun r => (zQ [] [(3, 72, 77), (3, 83, 85), (3, 87, 88), (3, 164, 170), (3, 172, 279)] [10, 11] [(4, 3, 4)]) σ0 (r)) := by
  unfold fX12_waves_157
  exact zpc_bv (fun v4 _ => hk82 _ _ _ h)
theorem fw_fX12_waves_153 {σ0 : zSt} {k82 : zSt → Int32 → Int32 → Option (zSt)} (hk82 : ∀ (y0 : zSt) (y1 : Int32) (y2 : Int32), (zQ [] [(3, 72, 77), (3, 83, 85), (3, 87, 88), (3, 164, 170), (3, 172, 279)] [10, 11] [(4, 3, 4)]) σ0 y0 → zpc (k82 y0 y1 y2) (fun r => (zQ [] [(3, 72, 77), (3, 83, 85), (3, 87, 88), (3, 164, 170), (3, 172, 279)] [10, 11] [(4, 3, 4)]) σ0 (r))) {σ : zSt} {x3 : Int32} {s0 : Int32} {s1 : Int32} {s2 : Int32} {s3 : Int32} (h : (zQ [] [(3, 72, 77), (3, 83, 85), (3, 87, 88), (3, 164, 170), (3, 172, 279)] [10, 11] [(4, 3, 4)]) σ0 σ) : zpc (fX12_waves_153 k82 σ x3 s0 s1 s2 s3) (fun r => (zQ [] [(3, 72, 77), (3, 83, 85), (3, 87, 88), (3, 164, 170), (3, 172, 279)] [10, 11] [(4, 3, 4)]) σ0 (r)) := by
  unfold fX12_waves_153
  exact zpc_bv (fun v5 _ => fw_fX12_waves_157 hk82 h)
theorem fw_fX12_waves_82_body {σ0 : zSt} {k82 : zSt → Int32 → Int32 → Option (zSt)} (hk82 : ∀ (y0 : zSt) (y1 : Int32) (y2 : Int32), (zQ [] [(3, 72, 77), (3, 83, 85), (3, 87, 88), (3, 164, 170), (3, 172, 279)] [10, 11] [(4, 3, 4)]) σ0 y0 → zpc (k82 y0 y1 y2) (fun r => (zQ [] [(3, 72, 77), (3, 83, 85), (3, 87, 88), (3, 164, 170), (3, 172, 279)] [10, 11] [(4, 3, 4)]) σ0 (r))) {σ : zSt} {x2 : Int32} {x3 : Int32} (h : (zQ [] [(3, 72, 77), (3, 83, 85), (3, 87, 88), (3, 164, 170), (3, 172, 279)] [10, 11] [(4, 3, 4)]) σ0 σ) : zpc (fX12_waves_82_body k82 σ x2 x3) (fun r => (zQ [] [(3, 72, 77), (3, 83, 85), (3, 87, 88), (3, 164, 170), (3, 172, 279)] [10, 11] [(4, 3, 4)]) σ0 (r)) := by
  unfold fX12_waves_82_body
  exact zpc_if (fun _ => zpc_ck (zpc_bs (zQ.wi h rfl) (fun σ6 hσ6 => zpc_some hσ6))) (fun _ => zpc_bv (fun v7 _ => zpc_bi (fw_fX12_isRhythm h) (fun σ8 v9 hσ8 => zpc_if (fun _ => zpc_ck (zpc_bv (fun v10 _ => fw_fX12_waves_157 hk82 hσ8))) (fun _ => zpc_ck (zpc_if (fun _ => fw_fX12_waves_153 hk82 hσ8) (fun _ => zpc_ck (fw_fX12_waves_153 hk82 hσ8)))))))
theorem fw_fX12_waves_82 {σ0 : zSt} : ∀ (n : Nat) (y0 : zSt) (y1 : Int32) (y2 : Int32), (zQ [] [(3, 72, 77), (3, 83, 85), (3, 87, 88), (3, 164, 170), (3, 172, 279)] [10, 11] [(4, 3, 4)]) σ0 y0 → zpc (fX12_waves_82 n y0 y1 y2) (fun r => (zQ [] [(3, 72, 77), (3, 83, 85), (3, 87, 88), (3, 164, 170), (3, 172, 279)] [10, 11] [(4, 3, 4)]) σ0 (r)) := by
  intro n
  induction n with
  | zero => intro y0 y1 y2 h; exact zpc_none
  | succ n ih => intro y0 y1 y2 h; exact fw_fX12_waves_82_body ih h
theorem fw_fX12_waves_75 {σ0 : zSt} {σ : zSt} {s0 : Int32} {s1 : Int32} (h : (zQ [] [(3, 72, 77), (3, 83, 85), (3, 87, 88), (3, 164, 170), (3, 172, 279)] [10, 11] [(4, 3, 4)]) σ0 σ) (qs1 : zr 164 164 s1) : zpc (fX12_waves_75 σ s0 s1) (fun r => (zQ [] [(3, 72, 77), (3, 83, 85), (3, 87, 88), (3, 164, 170), (3, 172, 279)] [10, 11] [(4, 3, 4)]) σ0 (r)) := by
  unfold fX12_waves_75
  exact zpc_ck (zpc_bs (zQ.wr (a := 164) (b := 170) (lo := 164) (hi := 164) h qs1 rfl (by decide)) (fun σ11 hσ11 => fw_fX12_waves_82 _ _ _ _ hσ11))
theorem fw_fX12_waves_12_body {σ0 : zSt} {k12 : zSt → Int32 → Option (zSt)} (hk12 : ∀ (y0 : zSt) (y1 : Int32), (zQ [] [(3, 72, 77), (3, 83, 85), (3, 87, 88), (3, 164, 170), (3, 172, 279)] [10, 11] [(4, 3, 4)]) σ0 y0 → zr 0 9 y1 → zpc (k12 y0 y1) (fun r => (zQ [] [(3, 72, 77), (3, 83, 85), (3, 87, 88), (3, 164, 170), (3, 172, 279)] [10, 11] [(4, 3, 4)]) σ0 (r))) {σ : zSt} {x1 : Int32} (h : (zQ [] [(3, 72, 77), (3, 83, 85), (3, 87, 88), (3, 164, 170), (3, 172, 279)] [10, 11] [(4, 3, 4)]) σ0 σ) (qx1 : zr 0 9 x1) : zpc (fX12_waves_12_body k12 σ x1) (fun r => (zQ [] [(3, 72, 77), (3, 83, 85), (3, 87, 88), (3, 164, 170), (3, 172, 279)] [10, 11] [(4, 3, 4)]) σ0 (r)) := by
  unfold fX12_waves_12_body
  exact zpc_if (fun g3 => zpc_ck (zpc_bv (fun v12 _ => zpc_if (fun _ => fw_fX12_waves_75 h (zr_c (x := 164) (lo := 164) (hi := 164) (by decide))) (fun _ => fw_fX12_waves_75 h (zr_c (x := 164) (lo := 164) (hi := 164) (by decide)))))) (fun g3 => fw_fX12_waves_20 hk12 _ _ _ _ h (zr_nge (k := 9) (m := 8) qx1 rfl g3 (by decide)) (zr_w (zr_c (x := 0) (lo := 0) (hi := 0) (by decide)) (by decide)))
theorem fw_fX12_waves_12 {σ0 : zSt} : ∀ (n : Nat) (y0 : zSt) (y1 : Int32), (zQ [] [(3, 72, 77), (3, 83, 85), (3, 87, 88), (3, 164, 170), (3, 172, 279)] [10, 11] [(4, 3, 4)]) σ0 y0 → zr 0 9 y1 → zpc (fX12_waves_12 n y0 y1) (fun r => (zQ [] [(3, 72, 77), (3, 83, 85), (3, 87, 88), (3, 164, 170), (3, 172, 279)] [10, 11] [(4, 3, 4)]) σ0 (r)) := by
  intro n
  induction n with
  | zero => intro y0 y1 h q1; exact zpc_none
  | succ n ih => intro y0 y1 h q1; exact fw_fX12_waves_12_body ih h q1
theorem fw_fX12_waves {σ0 : zSt} {σ : zSt} (h : (zQ [] [(3, 72, 77), (3, 83, 85), (3, 87, 88), (3, 164, 170), (3, 172, 279)] [10, 11] [(4, 3, 4)]) σ0 σ) : zpc (fX12_waves σ) (fun r => (zQ [] [(3, 72, 77), (3, 83, 85), (3, 87, 88), (3, 164, 170), (3, 172, 279)] [10, 11] [(4, 3, 4)]) σ0 (r)) := by
  unfold fX12_waves
  exact zpc_ck (zpc_ck (zpc_bs (zQ.wl h rfl) (fun σ13 hσ13 => fw_fX12_waves_12 _ _ _ hσ13 (zr_w (zr_c (x := 0) (lo := 0) (hi := 0) (by decide)) (by decide)))))
theorem fw_fX12_mixed_151 {σ0 : zSt} {σ : zSt} {x2 : Int64} (h : (zQ [] [(3, 72, 77), (3, 83, 85), (3, 87, 88), (3, 164, 170), (3, 172, 279)] [10, 11] [(4, 3, 4)]) σ0 σ) : zpc (fX12_mixed_151 σ x2) (fun r => (zQ [] [(3, 72, 77), (3, 83, 85), (3, 87, 88), (3, 164, 170), (3, 172, 279)] [10, 11] [(4, 3, 4)]) σ0 (r)) := by
  unfold fX12_mixed_151
  exact zpc_ck (zpc_ck (zpc_ck (zpc_ck (zpc_bs (zQ.wl h rfl) (fun σ1 hσ1 => zpc_some hσ1)))))
theorem fw_fX12_mixed_76_body {σ0 : zSt} {k76 : zSt → Int64 → Int32 → Option (zSt)} (hk76 : ∀ (y0 : zSt) (y1 : Int64) (y2 : Int32), (zQ [] [(3, 72, 77), (3, 83, 85), (3, 87, 88), (3, 164, 170), (3, 172, 279)] [10, 11] [(4, 3, 4)]) σ0 y0 → zr 0 3 y2 → zpc (k76 y0 y1 y2) (fun r => (zQ [] [(3, 72, 77), (3, 83, 85), (3, 87, 88), (3, 164, 170), (3, 172, 279)] [10, 11] [(4, 3, 4)]) σ0 (r))) {σ : zSt} {x2 : Int64} {x4 : Int32} (h : (zQ [] [(3, 72, 77), (3, 83, 85), (3, 87, 88), (3, 164, 170), (3, 172, 279)] [10, 11] [(4, 3, 4)]) σ0 σ) (qx4 : zr 0 3 x4) : zpc (fX12_mixed_76_body k76 σ x2 x4) (fun r => (zQ [] [(3, 72, 77), (3, 83, 85), (3, 87, 88), (3, 164, 170), (3, 172, 279)] [10, 11] [(4, 3, 4)]) σ0 (r)) := by
  unfold fX12_mixed_76_body
  exact zpc_if (fun g4 => zpc_ck (zpc_if (fun _ => zpc_ck (zpc_ck (zpc_ck (zpc_bs (zQ.wi h rfl) (fun σ3 hσ3 => fw_fX12_mixed_151 hσ3))))) (fun _ => zpc_ck (zpc_ck (zpc_bs (zQ.wi h rfl) (fun σ2 hσ2 => fw_fX12_mixed_151 hσ2)))))) (fun g4 => zpc_ck (zpc_bs (zQ.wr (a := 164) (b := 170) (lo := 166) (hi := 168) h (zr_add (lo := 166) (hi := 168) (zr_c (x := 166) (lo := 166) (hi := 166) (by decide)) (zr_nge (k := 3) (m := 2) qx4 rfl g4 (by decide)) (by decide)) rfl (by decide)) (fun σ4 hσ4 => zpc_bv (fun v5 ev5 => hk76 _ _ _ hσ4 (zr_w (show zr 1 3 v5 by rw [ev5]; exact (zr_add (lo := 1) (hi := 3) (zr_nge (k := 3) (m := 2) qx4 rfl g4 (by decide)) (zr_c (x := 1) (lo := 1) (hi := 1) (by decide)) (by decide))) (by decide))))))
theorem fw_fX12_mixed_76 {σ0 : zSt} : ∀ (n : Nat) (y0 : zSt) (y1 : Int64) (y2 : Int32), (zQ [] [(3, 72, 77), (3, 83, 85), (3, 87, 88), (3, 164, 170), (3, 172, 279)] [10, 11] [(4, 3, 4)]) σ0 y0 → zr 0 3 y2 → zpc (fX12_mixed_76 n y0 y1 y2) (fun r => (zQ [] [(3, 72, 77), (3, 83, 85), (3, 87, 88), (3, 164, 170), (3, 172, 279)] [10, 11] [(4, 3, 4)]) σ0 (r)) := by
  intro n
  induction n with
  | zero => intro y0 y1 y2 h q2; exact zpc_none
  | succ n ih => intro y0 y1 y2 h q2; exact fw_fX12_mixed_76_body ih h q2
theorem fw_fX12_mixed_26 {σ0 : zSt} {σ : zSt} {s0 : Int32} (h : (zQ [] [(3, 72, 77), (3, 83, 85), (3, 87, 88), (3, 164, 170), (3, 172, 279)] [10, 11] [(4, 3, 4)]) σ0 σ) : zpc (fX12_mixed_26 σ s0) (fun r => (zQ [] [(3, 72, 77), (3, 83, 85), (3, 87, 88), (3, 164, 170), (3, 172, 279)] [10, 11] [(4, 3, 4)]) σ0 (r)) := by
  unfold fX12_mixed_26
  exact zpc_ck (zpc_ck (zpc_ck (zpc_ck (zpc_ck (zpc_ck (zpc_bv (fun v6 _ => fw_fX12_mixed_76 _ _ _ _ h (zr_w (zr_c (x := 0) (lo := 0) (hi := 0) (by decide)) (by decide)))))))))
theorem fw_fX12_mixed {σ0 : zSt} {σ : zSt} (h : (zQ [] [(3, 72, 77), (3, 83, 85), (3, 87, 88), (3, 164, 170), (3, 172, 279)] [10, 11] [(4, 3, 4)]) σ0 σ) : zpc (fX12_mixed σ) (fun r => (zQ [] [(3, 72, 77), (3, 83, 85), (3, 87, 88), (3, 164, 170), (3, 172, 279)] [10, 11] [(4, 3, 4)]) σ0 (r)) := by
  unfold fX12_mixed
  exact zpc_ck (zpc_if (fun _ => zpc_ck (fw_fX12_mixed_26 h)) (fun _ => fw_fX12_mixed_26 h))
theorem fw_fX12_once_377_body {σ0 : zSt} {k377 : zSt → Int64 → Option (zSt)} (hk377 : ∀ (y0 : zSt) (y1 : Int64), (zQ [] [(3, 72, 77), (3, 83, 85), (3, 87, 88), (3, 164, 170), (3, 172, 279)] [10, 11] [(4, 3, 4)]) σ0 y0 → zpc (k377 y0 y1) (fun r => (zQ [] [(3, 72, 77), (3, 83, 85), (3, 87, 88), (3, 164, 170), (3, 172, 279)] [10, 11] [(4, 3, 4)]) σ0 (r))) {σ : zSt} {x5 : Int64} (h : (zQ [] [(3, 72, 77), (3, 83, 85), (3, 87, 88), (3, 164, 170), (3, 172, 279)] [10, 11] [(4, 3, 4)]) σ0 σ) : zpc (fX12_once_377_body k377 σ x5) (fun r => (zQ [] [(3, 72, 77), (3, 83, 85), (3, 87, 88), (3, 164, 170), (3, 172, 279)] [10, 11] [(4, 3, 4)]) σ0 (r)) := by
  unfold fX12_once_377_body
  exact zpc_ck (zpc_ck (zpc_if (fun _ => zpc_some h) (fun _ => zpc_bu (fw_fX12_mixed h) (fun σ1 hσ1 => zpc_bv (fun v2 _ => hk377 _ _ hσ1)))))
theorem fw_fX12_once_377 {σ0 : zSt} : ∀ (n : Nat) (y0 : zSt) (y1 : Int64), (zQ [] [(3, 72, 77), (3, 83, 85), (3, 87, 88), (3, 164, 170), (3, 172, 279)] [10, 11] [(4, 3, 4)]) σ0 y0 → zpc (fX12_once_377 n y0 y1) (fun r => (zQ [] [(3, 72, 77), (3, 83, 85), (3, 87, 88), (3, 164, 170), (3, 172, 279)] [10, 11] [(4, 3, 4)]) σ0 (r)) := by
  intro n
  induction n with
  | zero => intro y0 y1 h; exact zpc_none
  | succ n ih => intro y0 y1 h; exact fw_fX12_once_377_body ih h
theorem fw_fX12_once_341_body {σ0 : zSt} {k341 : zSt → Int64 → Int64 → Option (zSt)} (hk341 : ∀ (y0 : zSt) (y1 : Int64) (y2 : Int64), (zQ [] [(3, 72, 77), (3, 83, 85), (3, 87, 88), (3, 164, 170), (3, 172, 279)] [10, 11] [(4, 3, 4)]) σ0 y0 → zpc (k341 y0 y1 y2) (fun r => (zQ [] [(3, 72, 77), (3, 83, 85), (3, 87, 88), (3, 164, 170), (3, 172, 279)] [10, 11] [(4, 3, 4)]) σ0 (r))) {σ : zSt} {x3 : Int64} {x5 : Int64} (h : (zQ [] [(3, 72, 77), (3, 83, 85), (3, 87, 88), (3, 164, 170), (3, 172, 279)] [10, 11] [(4, 3, 4)]) σ0 σ) : zpc (fX12_once_341_body k341 σ x3 x5) (fun r => (zQ [] [(3, 72, 77), (3, 83, 85), (3, 87, 88), (3, 164, 170), (3, 172, 279)] [10, 11] [(4, 3, 4)]) σ0 (r)) := by
  unfold fX12_once_341_body
  exact zpc_ck (zpc_ck (zpc_if (fun _ => zpc_ck (zpc_bv (fun v3 _ => fw_fX12_once_377 _ _ _ h))) (fun _ => zpc_bu (fw_fX12_waves h) (fun σ4 hσ4 => zpc_bv (fun v5 _ => hk341 _ _ _ hσ4)))))
theorem fw_fX12_once_341 {σ0 : zSt} : ∀ (n : Nat) (y0 : zSt) (y1 : Int64) (y2 : Int64), (zQ [] [(3, 72, 77), (3, 83, 85), (3, 87, 88), (3, 164, 170), (3, 172, 279)] [10, 11] [(4, 3, 4)]) σ0 y0 → zpc (fX12_once_341 n y0 y1 y2) (fun r => (zQ [] [(3, 72, 77), (3, 83, 85), (3, 87, 88), (3, 164, 170), (3, 172, 279)] [10, 11] [(4, 3, 4)]) σ0 (r)) := by
  intro n
  induction n with
  | zero => intro y0 y1 y2 h; exact zpc_none
  | succ n ih => intro y0 y1 y2 h; exact fw_fX12_once_341_body ih h
theorem fw_fX12_once_305_body {σ0 : zSt} {k305 : zSt → Int64 → Int64 → Option (zSt)} (hk305 : ∀ (y0 : zSt) (y1 : Int64) (y2 : Int64), (zQ [] [(3, 72, 77), (3, 83, 85), (3, 87, 88), (3, 164, 170), (3, 172, 279)] [10, 11] [(4, 3, 4)]) σ0 y0 → zpc (k305 y0 y1 y2) (fun r => (zQ [] [(3, 72, 77), (3, 83, 85), (3, 87, 88), (3, 164, 170), (3, 172, 279)] [10, 11] [(4, 3, 4)]) σ0 (r))) {σ : zSt} {x3 : Int64} {x5 : Int64} (h : (zQ [] [(3, 72, 77), (3, 83, 85), (3, 87, 88), (3, 164, 170), (3, 172, 279)] [10, 11] [(4, 3, 4)]) σ0 σ) : zpc (fX12_once_305_body k305 σ x3 x5) (fun r => (zQ [] [(3, 72, 77), (3, 83, 85), (3, 87, 88), (3, 164, 170), (3, 172, 279)] [10, 11] [(4, 3, 4)]) σ0 (r)) := by
  unfold fX12_once_305_body
  exact zpc_ck (zpc_ck (zpc_if (fun _ => zpc_ck (zpc_bv (fun v6 _ => fw_fX12_once_341 _ _ _ _ h))) (fun _ => zpc_bu (fw_fX12_sample h) (fun σ7 hσ7 => zpc_bv (fun v8 _ => hk305 _ _ _ hσ7)))))
theorem fw_fX12_once_305 {σ0 : zSt} : ∀ (n : Nat) (y0 : zSt) (y1 : Int64) (y2 : Int64), (zQ [] [(3, 72, 77), (3, 83, 85), (3, 87, 88), (3, 164, 170), (3, 172, 279)] [10, 11] [(4, 3, 4)]) σ0 y0 → zpc (fX12_once_305 n y0 y1 y2) (fun r => (zQ [] [(3, 72, 77), (3, 83, 85), (3, 87, 88), (3, 164, 170), (3, 172, 279)] [10, 11] [(4, 3, 4)]) σ0 (r)) := by
  intro n
  induction n with
  | zero => intro y0 y1 y2 h; exact zpc_none
  | succ n ih => intro y0 y1 y2 h; exact fw_fX12_once_305_body ih h
theorem fw_fX12_once_298 {σ0 : zSt} {σ : zSt} {x3 : Int64} (h : (zQ [] [(3, 72, 77), (3, 83, 85), (3, 87, 88), (3, 164, 170), (3, 172, 279)] [10, 11] [(4, 3, 4)]) σ0 σ) : zpc (fX12_once_298 σ x3) (fun r => (zQ [] [(3, 72, 77), (3, 83, 85), (3, 87, 88), (3, 164, 170), (3, 172, 279)] [10, 11] [(4, 3, 4)]) σ0 (r)) := by
  unfold fX12_once_298
  exact zpc_ck (zpc_bv (fun v9 _ => fw_fX12_once_305 _ _ _ _ h))
end ZJN38
section ZJN39
/-! ONE STEP AND WHAT LIES AROUND IT -/
theorem z_m5 {v : Int32} (h : zr 0 31 v) : v &&& 31 = v := Int32.toInt_inj.mp (by rw [z_mask (k := 5) h.1 rfl (by decide)]; have := h.1; have := h.2; show v.toInt % 32 = _; omega)
section ZS1
variable {σ μ s t : zSt} {B : Int × Int × Int}
theorem p_note {x : Int32} (r : zr 0 31 (σ.1 9 5)) : zpc (fX1_noteStep σ x) (fun r => r = zsi (zsi σ 44 (σ.1 9 5).toNatClampNeg x) 9 5 ((σ.1 9 5 + 1) &&& 31)) := by
  have e : zgi σ 9 5 &&& 31 = σ.1 9 5 := z_m5 r
  unfold fX1_noteStep
  rw [e]
  exact zpc_ck (zpc_bv (fun s1 f1 => zpc_bv (fun s2 f2 => zpc_some (by rw [f2, f1]; rfl))))
theorem t_note (h : zTT (zIa B) σ μ) (hF : zF σ μ) (hW : zWzz σ μ) (hB : B.1 ≤ 1000000000000000) {α β : Type} {Q : α → β → Prop} {f : zSt → Option α} {g : zSt → Option β} {c1 c2 c3 : Bool} (k : ∀ s t, zTT (zIa (B.1 + 1, B.2.1, B.2.2)) s t → zF s t → zWzz s t → zp2 (f s) (g t) Q) : zp2 (zbu (fX1_noteStep σ (σ.1 36 19)) f) (zck c1 (zck c2 (zck c3 (zbv (zsi μ 21 (((zreml (zgl μ 0 30) 32).toInt32).toNatClampNeg) (zgi μ 3 (19 : Int32).toNatClampNeg)) (fun σ32 => zbv (zsl σ32 0 30 ((zgl σ32 0 30) + 1)) g))))) Q := by
  obtain ⟨n0, nB, r5, e5, rest⟩ := h.2.2.2.2.2.1
  have e19 : zgi μ 3 (19 : Int32).toNatClampNeg = σ.1 36 19 := h.eq (by decide)
  have rl : zrl 0 1000000000000000 (μ.2 0 30) := ⟨n0, by omega⟩
  have rm : (zreml (zgl μ 0 30) 32).toInt = (μ.2 0 30).toInt % 32 := z_tlrem 32 rfl rl (by decide)
  have b0 := Int.emod_nonneg (μ.2 0 30).toInt (b := 32) (by decide)
  have b1 := Int.emod_lt_of_pos (μ.2 0 30).toInt (b := 32) (by decide)
  have ei : (zreml (zgl μ 0 30) 32).toInt32 = σ.1 9 5 := Int32.toInt_inj.mp (by
    rw [Int64.toInt_toInt32, rm, e5]
    exact z_bm (by omega) (by omega))
  rw [ei, e19]
  refine zp2_bul (p_note r5) (fun s es => zp2_ckr (zp2_ckr (zp2_ckr (zp2_bvr (fun t1 g1 => zp2_bvr (fun t2 g2 => ?_))))))
  have g2 : t2 = zsl t1 0 30 (μ.2 0 30 + 1) := by rw [g2, g1]; rfl
  have a : zQ [44, 9] [] [] [] σ s := by rw [es]; exact zQ.wi (zQ.wi zQ.rf rfl) rfl
  have b : zQ [21] [] [] [(0, 30, 30)] μ t2 := by rw [g2, g1]; exact zQ.wl (zQ.wi zQ.rf rfl) rfl
  have en : (t2.2 0 30).toInt = (μ.2 0 30).toInt + 1 := by
    rw [g2, zsl_at, if_pos ⟨rfl, rfl⟩]
    exact z_tladd rl (zrl_c (lo := 1) (hi := 1) (x := 1) (by decide)) (by decide)
  have es9 : s.1 9 5 = (σ.1 9 5 + 1) &&& 31 := by rw [es]; exact zsi_ej
  have ta : (σ.1 9 5 + 1).toInt = (σ.1 9 5).toInt + 1 := z_tadd r5 (zr_c (lo := 1) (hi := 1) (x := 1) (by decide)) (by decide)
  have r50 := r5.1
  have r51 := r5.2
  have tm : ((σ.1 9 5 + 1) &&& 31).toInt = ((σ.1 9 5).toInt + 1) % 32 := by rw [z_mask (k := 5) (by omega) rfl (by decide), ta]; rfl
  have kc := z_clamp r5.1
  have j44 : ∀ j, s.1 44 j = if j = (σ.1 9 5).toNatClampNeg then σ.1 36 19 else σ.1 44 j := fun j => by
    rw [es, zsi_ne (by decide), zsi_at]
    by_cases q : j = (σ.1 9 5).toNatClampNeg
    · rw [if_pos ⟨rfl, q⟩, if_pos q]
    · rw [if_neg (fun z => q z.2), if_neg q]
  have j21 : ∀ j, t2.1 21 j = if j = (σ.1 9 5).toNatClampNeg then σ.1 36 19 else μ.1 21 j := fun j => by
    rw [g2, g1]
    show (zsi μ 21 _ _).1 21 j = _
    rw [zsi_at]
    by_cases q : j = (σ.1 9 5).toNatClampNeg
    · rw [if_pos ⟨rfl, q⟩, if_pos q]
    · rw [if_neg (fun z => q z.2), if_neg q]
  have hI : zIa (B.1 + 1, B.2.1, B.2.2) s t2 := by
    refine ⟨h.2.2.2.1.kp a b (by decide +kernel) (by decide +kernel), h.2.2.2.2.1.kp a b rfl rfl, ⟨by omega, by show (t2.2 0 30).toInt ≤ B.1 + 1; omega, ?_, ?_, fun j hj => ⟨fun q => ?_, fun q => ?_⟩⟩, ?_⟩
    · rw [es9]; exact z_r31 _
    · rw [es9, tm, en, e5]; omega
    · rw [j44, j21]
      by_cases z : j = (σ.1 9 5).toNatClampNeg
      · rw [if_pos z, if_pos z]
      · rw [if_neg z, if_neg z]
        exact (rest j hj).1 (by omega)
    · rw [j44, if_neg (fun z => by omega)]
      exact (rest j hj).2 (by omega)
    · have zc := h.2.2.2.2.2.2
      rw [es, g2, g1]
      exact zc
  obtain ⟨k1, k2⟩ := h.kp hI a b rfl rfl
  exact k s t2 k1 (k2.f hF) (k2.w hW)
/-- counts in between: the class's wait for the samples -/
noncomputable def zCtb (b : Int32) (P : Int) (σ μ : zSt) : Prop := μ.2 4 0 = σ.2 38 0 + b.toInt64 ∧ μ.2 4 1 = σ.2 38 1 + 1 ∧ μ.2 4 2 = σ.2 38 2 ∧ 0 ≤ (μ.2 4 2).toInt ∧ (μ.2 4 2).toInt ≤ P
noncomputable def zIb (b : Int32) (B : Int × Int × Int) (σ μ : zSt) : Prop := zVe σ μ ∧ zPlr σ μ ∧ zSpt B.1 σ μ ∧ zCtb b B.2.1 σ μ ∧ zMs B.2.2 μ
theorem p_pass {b : Int32} : zpc (fX0_pass s b) (fun r => zQ [5, 11, 12] [(30, 3, 8), (30, 14, 16), (32, 65, 67), (32, 128, 271)] [5, 46, 48] [(38, 3, 6)] (zsl (zsl s 38 0 (s.2 38 0 + b.toInt64)) 38 1 (s.2 38 1 + 1)) r) := by
  unfold fX0_pass
  refine zpc_ck (zpc_bv (fun v9 e9 => zpc_bv (fun v10 e10 => zpc_ck (zpc_bv (fun s11 e11 => zpc_ck (zpc_ck (zpc_bv (fun s12 e12 => zpc_ck (zpc_bv (fun v13 _ => ?_))))))))))
  have e : s12 = zsl (zsl s 38 0 (s.2 38 0 + b.toInt64)) 38 1 (s.2 38 1 + 1) := by rw [e12, e11, e10, e9]; rfl
  rw [← e]
  exact fq_fX0_pass_38 _ _ _ _ _ zQ.rf
theorem t_passx {b : Int32} {v : Int64} (h : zTT (zIb b B) s t) (hF : zF s t) (hW : zWzz s t) : zp2 (fX0_pass s b) (fX12_once_298 t v) (fun r r' => zTT (zIa B) r r' ∧ zF r r' ∧ zWzz r r') := by
  refine zp2_of p_pass (fw_fX12_once_298 (σ0 := t) zQ.rf) (fun r r' q1 q2 => ?_)
  have a0 : zQ [5, 11, 12] [(30, 3, 8), (30, 14, 16), (32, 65, 67), (32, 128, 271)] [5, 46, 48] [(38, 0, 1), (38, 3, 6)] s (zsl (zsl s 38 0 (s.2 38 0 + b.toInt64)) 38 1 (s.2 38 1 + 1)) := zQ.wl (zQ.wl zQ.rf rfl) rfl
  have a : zQ [5, 11, 12] [(30, 3, 8), (30, 14, 16), (32, 65, 67), (32, 128, 271)] [5, 46, 48] [(38, 0, 1), (38, 3, 6)] s r := a0.tr (q1.mono rfl rfl)
  obtain ⟨⟨c0, c1, c2, c3, c4⟩, ms⟩ := h.2.2.2.2.2.2
  have hI : zIa B r r' := by
    refine ⟨h.2.2.2.1.kp a q2 (by decide +kernel) (by decide +kernel), h.2.2.2.2.1.kp a q2 rfl rfl, h.2.2.2.2.2.1.kp a q2 rfl rfl rfl rfl, ⟨?_, ?_, ?_, ?_, ?_⟩, ms.kp q2 rfl rfl rfl⟩
    · rw [q2.lo (k := 4) (a := 0) (b := 2) rfl (j := 0) (by decide) (by decide), q1.lo (k := 38) (a := 0) (b := 2) rfl (j := 0) (by decide) (by decide), c0]
      rfl
    · rw [q2.lo (k := 4) (a := 0) (b := 2) rfl (j := 1) (by decide) (by decide), q1.lo (k := 38) (a := 0) (b := 2) rfl (j := 1) (by decide) (by decide), c1]
      rfl
    · rw [q2.lo (k := 4) (a := 0) (b := 2) rfl (j := 2) (by decide) (by decide), q1.lo (k := 38) (a := 0) (b := 2) rfl (j := 2) (by decide) (by decide), c2]
      rfl
    · rw [q2.lo (k := 4) (a := 0) (b := 2) rfl (j := 2) (by decide) (by decide)]; exact c3
    · rw [q2.lo (k := 4) (a := 0) (b := 2) rfl (j := 2) (by decide) (by decide)]; exact c4
  obtain ⟨k1, k2⟩ := h.kp hI a q2 rfl rfl
  exact ⟨k1, k2.f hF, k2.w hW⟩
/-- what follows an instruction, given the line's end of both -/
noncomputable def zLe : Prop := ∀ (b : Int32) (B : Int × Int × Int) (s t : zSt), B.2.1 ≤ 1000000000000000 → zTT (zIb b B) s t → zF s t → zWzz s t → zp2 (fX11_endLine s ) (fX12_ends t ) (fun r r' => zTT (zIb b (B.1, B.2.1 + 1, B.2.2 + 228)) r r' ∧ zF r r' ∧ zWzz r r')
theorem zIb.mk {b : Int32} {C : Int} (h : zTT (zIa B) σ μ) (a : zQ [23] [] [] [] σ s) (d : zQ [] [(3, 67, 67)] [4] [] μ t) (v : zVe s t) (e0 : t.2 4 0 = μ.2 4 0 + b.toInt64) (e1 : t.2 4 1 = μ.2 4 1 + 1) (e2 : t.2 4 2 = μ.2 4 2) (e67 : (t.1 3 67).toInt = (μ.1 3 67).toInt + C) : zTT (zIb b (B.1, B.2.1, B.2.2 + C)) s t ∧ zPkk σ s μ t := by
  have hI : zIb b (B.1, B.2.1, B.2.2 + C) s t := by
    obtain ⟨⟨c0, c1, c2, c3, c4⟩, ms⟩ := h.2.2.2.2.2.2
    refine ⟨v, h.2.2.2.2.1.kp a d rfl rfl, h.2.2.2.2.2.1.kp a d rfl rfl rfl rfl, ⟨?_, ?_, ?_, ?_, ?_⟩, ?_⟩
    · rw [e0, a.rlo (k := 38) rfl, c0]
    · rw [e1, a.rlo (k := 38) rfl, c1]
    · rw [e2, a.rlo (k := 38) rfl, c2]
    · rw [e2]; exact c3
    · rw [e2]; exact c4
    · unfold zMs zMt at ms ⊢
      rw [e2, d.o (k := 3) (a := 66) (b := 66) rfl (j := 66) (by decide) (by decide), d.o (k := 0) (a := 3) (b := 3) rfl (j := 3) (by decide) (by decide), e67]
      show B.2.2 + C ≤ _
      omega
  exact h.kp hI a d rfl rfl
theorem zVe.v21 (h : zVe σ μ) {v w : Int32} (r : zr 0 227 v) (e : w = v) : zVe (zsi σ 23 21 v) (zsi μ 3 67 w) := h.w (z_pn23_18 (d := 3) (by decide)) rfl (zGo.r rfl r) (by rw [z_an1]; exact e)
theorem zIb.mono {b : Int32} {C D : Int} (h : zTT (zIb b B) s t) (h1 : B.2.1 ≤ C) (h2 : D ≤ B.2.2) : zTT (zIb b (B.1, C, D)) s t := by
  obtain ⟨a1, a2, a3, v, p, q, ⟨c0, c1, c2, c3, c4⟩, ms⟩ := h
  exact ⟨a1, a2, a3, v, p, q, ⟨c0, c1, c2, c3, Int.le_trans c4 h1⟩, Int.le_trans h2 ms⟩
theorem t_after {b : Int32} (hL : zLe) (hP : B.2.1 ≤ 1000000000000000) (h : zTT (zIa B) σ μ) (hF : zF σ μ) (hW : zWzz σ μ) (hb : zr 1 64 b) {α : Type} {Q : α → zSt → Prop} {f : zSt → Option α} (k : ∀ s t, zTT (zIa (B.1, B.2.1 + 1, B.2.2 + 1)) s t → zF s t → zWzz s t → zp2 (f s) (some t) Q) : zp2 (zbi (fX9_passes σ b) (fun σ3 v4 => if v4 = 0 then zbu (fX0_pass σ3 b) f else zbu (fX11_endLine σ3 ) (fun σ5 => zbu (fX0_pass σ5 b) f))) (fX12_once_229 μ b) Q := by
  have e21 : μ.1 3 67 = σ.1 23 21 := h.2.2.2.1.e21
  have r21 : zr 0 227 (σ.1 23 21) := h.2.2.2.1.2.1.at (k := 23) (j := 21) rfl
  have ra : zr 0 291 (σ.1 23 21 + b) := zr_add r21 hb (by decide)
  have tb : (σ.1 23 21 + b).toInt = (σ.1 23 21).toInt + b.toInt := z_tadd r21 hb (by decide)
  have hb1 := hb.1
  have fin : ∀ (s t : zSt) (v : Int64), zTT (zIb b (B.1, B.2.1 + 1, B.2.2 + 1)) s t → zF s t → zWzz s t → zp2 (zbu (fX0_pass s b) f) (fX12_once_298 t v) Q := fun s t v q1 q2 q3 => zp2_bulp (t_passx q1 q2 q3) (fun r r' q => k r r' q.1 q.2.1 q.2.2)
  unfold fX12_once_229
  refine zp2_ckr (zp2_ckr (zp2_bvr (fun t10 g10 => zp2_ckr (zp2_bvr (fun v11 g11 => zp2_ckr (zp2_ckr (zp2_bvr (fun t12 g12 => zp2_ckr (zp2_ckr (zp2_bvr (fun t13 g13 => zp2_ckr ?_)))))))))))
  have g10 : t10 = zsl μ 4 1 (μ.2 4 1 + 1) := g10
  have g12 : t12 = zsl (zsl μ 4 1 (μ.2 4 1 + 1)) 4 0 (μ.2 4 0 + b.toInt64) := by rw [g12, g10]; rfl
  have c67 : zgi t12 3 (67 : Int32).toNatClampNeg = σ.1 23 21 := by rw [g12]; exact e21
  have g13 : t13 = zsi t12 3 67 (σ.1 23 21 + b) := by rw [g13, c67]; rfl
  have c13 : zgi t13 3 (67 : Int32).toNatClampNeg = σ.1 23 21 + b := by rw [g13]; exact zsi_ej
  rw [c13]
  have v12 : zVe σ t12 := by
    have dq : zQ [] [] [4] [] μ t12 := by rw [g12]; exact zQ.wl (zQ.wl zQ.rf rfl) rfl
    exact h.2.2.2.1.kp (zQ.rf (R := []) (A := []) (S := []) (B := [])) dq (by decide +kernel) (by decide +kernel)
  have q12 : zQ [] [(3, 67, 67)] [4] [] μ t12 := by rw [g12]; exact zQ.wl (zQ.wl zQ.rf rfl) rfl
  by_cases c : 228 ≤ σ.1 23 21 + b
  · have nc : ¬ σ.1 23 21 + b < 228 := fun q => by have := Int32.le_iff_toInt_le.mp c; have := Int32.lt_iff_toInt_lt.mp q; omega
    refine zp2_ifr (fun q => absurd q nc) (fun _ => zp2_ckr (zp2_ckr (zp2_bvr (fun t14 g14 => ?_))))
    have g14 : t14 = zsi t12 3 67 (σ.1 23 21 + b - 228) := by rw [g14, g13]; exact zsi_ow
    refine zp2_bil (P := fun r => r = (zsi σ 23 21 (σ.1 23 21 + b - 228), 1)) ?_ (fun s1 v1 e1 => ?_)
    · unfold fX9_passes
      refine zpc_ck (zpc_ck (zpc_bv (fun s1 f1 => zpc_ck ?_)))
      have d1 : zgi s1 23 (21 : Int32).toNatClampNeg = σ.1 23 21 + b := by rw [f1]; exact zsi_ej
      rw [d1]
      refine zpc_if (fun _ => zpc_ck (zpc_ck (zpc_bv (fun s2 f2 => zpc_ck (zpc_some ?_))))) (fun q => absurd c q)
      have f2 : s2 = zsi σ 23 21 (σ.1 23 21 + b - 228) := by rw [f2, f1]; exact zsi_ow
      rw [f2]
    · cases e1
      refine zp2_ifl (fun q => absurd q (by decide)) (fun _ => ?_)
      have rn : zr 0 227 (σ.1 23 21 + b - 228) := zr_sub (lo := 0) (hi := 227) (zr_ge (k := 228) ra rfl c) (zr_c (lo := 228) (hi := 228) (x := 228) (by decide)) (by decide)
      have ts : (σ.1 23 21 + b - 228).toInt = (σ.1 23 21 + b).toInt - 228 := z_tsub ra (zr_c (lo := 228) (hi := 228) (x := 228) (by decide)) (by decide)
      obtain ⟨k1, k2⟩ := zIb.mk (b := b) (C := b.toInt - 228) (s := zsi σ 23 21 (σ.1 23 21 + b - 228)) (t := t14) h (zQ.wi zQ.rf rfl) (by rw [g14]; exact zQ.wi q12 rfl) (by rw [g14]; exact v12.v21 rn rfl) (by rw [g14, g12]; rfl) (by rw [g14, g12]; rfl) (by rw [g14, g12]; rfl) (by rw [g14, zsi_ej, e21, ts, tb]; omega)
      exact zp2_buu (hL b (B.1, B.2.1, B.2.2 + (b.toInt - 228)) _ _ hP k1 (k2.f hF) (k2.w hW)) (fun s t q => fin s t v11 (zIb.mono (B := (B.1, B.2.1 + 1, B.2.2 + (b.toInt - 228) + 228)) (C := B.2.1 + 1) (D := B.2.2 + 1) q.1 (Int.le_refl _) (by show B.2.2 + 1 ≤ B.2.2 + (b.toInt - 228) + 228; omega)) q.2.1 q.2.2)
  · have lt : σ.1 23 21 + b < 228 := z_nle c
    refine zp2_ifr (fun _ => ?_) (fun q => absurd lt q)
    refine zp2_bil (P := fun r => r = (zsi σ 23 21 (σ.1 23 21 + b), 0)) ?_ (fun s1 v1 e1 => ?_)
    · unfold fX9_passes
      refine zpc_ck (zpc_ck (zpc_bv (fun s1 f1 => zpc_ck ?_)))
      have d1 : zgi s1 23 (21 : Int32).toNatClampNeg = σ.1 23 21 + b := by rw [f1]; exact zsi_ej
      rw [d1]
      refine zpc_if (fun q => absurd q c) (fun _ => zpc_ck (zpc_some ?_))
      rw [f1]
      rfl
    · cases e1
      refine zp2_ifl (fun _ => ?_) (fun q => absurd rfl q)
      have rn : zr 0 227 (σ.1 23 21 + b) := zr_lt (k := 228) ra rfl lt
      obtain ⟨k1, k2⟩ := zIb.mk (b := b) (C := b.toInt) (s := zsi σ 23 21 (σ.1 23 21 + b)) (t := t13) h (zQ.wi zQ.rf rfl) (by rw [g13]; exact zQ.wi q12 rfl) (by rw [g13]; exact v12.v21 rn rfl) (by rw [g13, g12]; rfl) (by rw [g13, g12]; rfl) (by rw [g13, g12]; rfl) (by rw [g13, zsi_ej, e21, tb])
      exact fin _ _ v11 (zIb.mono (B := (B.1, B.2.1, B.2.2 + b.toInt)) (C := B.2.1 + 1) (D := B.2.2 + 1) k1 (by show B.2.1 ≤ B.2.1 + 1; omega) (by show B.2.2 + 1 ≤ B.2.2 + b.toInt; omega)) (k2.f hF) (k2.w hW)
/-- one step of both -/
theorem t_step (hL : zLe) (h : zTT (zIa B) σ μ) (hF : zF σ μ) (hW : zWzz σ μ) (hB : B.1 ≤ 1000000000000000) (hP : B.2.1 ≤ 1000000000000000) {Q : zSt × Int32 → zSt → Prop} {k15 : zSt → Int32 → Int64 → Int32 → Option (zSt × Int32)} {x1 x5 : Int32} {x3 : Int64} (k : ∀ s t, zTT (zIa (B.1 + 1, B.2.1 + 1, B.2.2 + 1)) s t → zF s t → zWzz s t → zp2 (zbv (x5 + 1) (fun v2 => k15 s x1 x3 v2)) (some t) Q) : zp2 (fX11_run_65 k15 σ x1 x3 x5 (σ.1 36 19)) (fX12_once μ ) Q := by
  unfold fX11_run_65 fX12_once
  refine t_note h hF hW hB (fun s t q1 q2 q3 => ?_)
  obtain ⟨a, hc, ha⟩ := t_asks q1.2.2.2.1
  refine zp2_bil hc (fun s1 v e => ?_)
  cases e
  refine t_once zIoK_a zPorts_a q1 q2 q3 ha (F := fun σ b => fX11_run_104 k15 σ x1 x3 x5 b) (fun s t b r1 r2 r3 rb => ?_)
  unfold fX11_run_104 fX11_run_120
  exact t_after (B := (B.1 + 1, B.2.1, B.2.2)) hL hP r1 r2 r3 rb k
end ZS1
end ZJN39
section ZJN40
/-! PLANS -/
theorem zg_347 : ∀ i : Fin 2, zGf 34 (7 + (Int32.ofNat i.val).toNatClampNeg) zGt = some (0, 63) := by decide +kernel
section ZPL
variable {σ μ s t : zSt} {B : Int × Int × Int}
/-- the reference's row of plans, moved down by one -/
theorem t_down {c : Int32} (hc : zr 0 255 c) {k0 : zSt → Option zSt} {O : Option zSt} {Q : zSt → zSt → Prop} {o : zSt} : ∀ (n : Nat) (μ : zSt) (x : Int32), zr 0 765 x → x.toInt ≤ 3 * c.toInt → μ.1 3 171 = c → (∀ k j : Nat, ¬ (k = 3 ∧ 280 ≤ j ∧ (j : Int) < 280 + x.toInt) → μ.1 k j = o.1 k j) → (∀ j : Nat, (j : Int) < x.toInt → μ.1 3 (280 + j) = o.1 3 (283 + j)) → μ.2 = o.2 → (∀ t : zSt, t.1 3 171 = c → (∀ k j : Nat, ¬ (k = 3 ∧ 280 ≤ j ∧ (j : Int) < 280 + 3 * c.toInt) → t.1 k j = o.1 k j) → (∀ j : Nat, (j : Int) < 3 * c.toInt → t.1 3 (280 + j) = o.1 3 (283 + j)) → t.2 = o.2 → zp2 O (k0 t) Q) → zp2 O (fX12_planned_68 k0 n μ x) Q := by
  intro n
  induction n with
  | zero => intro μ x _ _ _ _ _ _ _; exact zp2_nr
  | succ n ih =>
    intro μ x hx hx3 h171 hoff hin hl k
    show zp2 O (fX12_planned_68_body k0 (fX12_planned_68 k0 n) μ x) Q
    unfold fX12_planned_68_body
    have hc0 := hc.1
    have hc1 := hc.2
    have hx0 := hx.1
    have hx1 := hx.2
    have e171 : zgi μ 3 (171 : Int32).toNatClampNeg = c := h171
    rw [e171]
    have t3 : (3 * c).toInt = 3 * c.toInt := z_tmul (zr_c (lo := 3) (hi := 3) (x := 3) (by decide)) hc (by decide)
    refine zp2_ckr (zp2_ifr (fun q => ?_) (fun q => zp2_ckr (zp2_ckr (zp2_bvr (fun t e => zp2_bvr (fun v ev => ?_))))))
    · have q := Int32.le_iff_toInt_le.mp q
      rw [t3] at q
      have ex : x.toInt = 3 * c.toInt := by omega
      exact k μ h171 (fun kk j n => hoff kk j (by rw [ex]; exact n)) (fun j hj => hin j (by omega)) hl
    · have q := Int32.lt_iff_toInt_lt.mp (z_nle q)
      rw [t3] at q
      have kx := z_clamp hx.1
      have o1 : ((280 : Int32) + x).toNatClampNeg = 280 + x.toNatClampNeg := z_off hx (k := 280) rfl (by decide)
      have r1 : zr 280 1045 ((280 : Int32) + x) := zr_add (zr_c (lo := 280) (hi := 280) (x := 280) (by decide)) hx (by decide)
      have o2 : (((280 : Int32) + x) + 3).toNatClampNeg = 283 + x.toNatClampNeg := by
        have t1 := z_tadd (x := (280 : Int32)) (y := x) (zr_c (lo := 280) (hi := 280) (by decide)) hx (by decide)
        have t2 := z_tadd r1 (zr_c (lo := 3) (hi := 3) (x := 3) (by decide)) (by decide)
        have c3 : (3 : Int32).toInt = 3 := rfl
        have c280 : (280 : Int32).toInt = 280 := rfl
        have k1 := z_clamp (x := (280 : Int32) + x + 3) (by omega)
        omega
      rw [o1, o2] at e
      have ta : (x + 1).toInt = x.toInt + 1 := z_tadd hx (zr_c (lo := 1) (hi := 1) (x := 1) (by decide)) (by decide)
      subst ev
      have e : t = zsi μ 3 (280 + x.toNatClampNeg) (μ.1 3 (283 + x.toNatClampNeg)) := e
      refine ih t (x + 1) ⟨by omega, by omega⟩ (by omega) ?_ (fun kk j n => ?_) (fun j hj => ?_) ?_ k
      · rw [e, zsi_nj (by omega)]; exact h171
      · rw [e, zsi_at, if_neg (fun z => n ⟨z.1, by omega, by omega⟩)]
        exact hoff kk j (fun z => n ⟨z.1, z.2.1, by omega⟩)
      · rw [e]
        by_cases z : j = x.toNatClampNeg
        · subst z
          rw [zsi_ej]
          exact hoff 3 _ (fun z => by omega)
        · rw [zsi_nj (by omega)]
          exact hin j (by omega)
      · rw [e]; exact hl
theorem v_bit1 : ∀ i : Fin 2, Int32.ofNat i.val &&& 1 = Int32.ofNat i.val := by decide
/-- the ring's place -/
theorem z_ring {a : Int32} (h : zr 0 255 a) : (3 * ((a + 0) &&& 255)).toInt = 3 * a.toInt := by
  have e : a + 0 = a := Int32.add_zero a
  rw [e, z_m255 h]
  exact z_tmul (zr_c (lo := 3) (hi := 3) (x := 3) (by decide)) h (by decide)
theorem z_le0 {x : Int32} : x ≤ 0 ↔ ¬ 0 < x := ⟨fun q r => by have := Int32.le_iff_toInt_le.mp q; have := Int32.lt_iff_toInt_lt.mp r; omega, fun q => z_nlt q⟩
theorem t_plans {b : Int32} {v : Int64} : ∀ (n m : Nat) (σ μ : zSt) (x : Int32), zr 0 256 x → x.toInt + (μ.1 3 171).toInt ≤ 256 → v = μ.2 4 2 → zTT (zIb b B) σ μ → zF σ μ → zWzz σ μ → zp2 (fX1_carryOutPlans_3 n σ v x) (fX12_planned_0 m μ) (fun r r' => (zTT (zIb b B) r r' ∧ zF r r' ∧ zWzz r r') ∧ r'.1 3 66 = μ.1 3 66) := by
  intro n
  induction n with
  | zero => intro m σ μ x _ _ _ _ _ _; exact zp2_nl
  | succ n ih =>
    intro m σ μ x hx hc hv h hF hW
    cases m with
    | zero => exact zp2_nr
    | succ m =>
      show zp2 (fX1_carryOutPlans_3_body (fX1_carryOutPlans_3 n) σ v x) (fX12_planned_0_body (fX12_planned_0 m) μ) _
      unfold fX1_carryOutPlans_3_body fX12_planned_0_body fX1_carryOutPlans_107 fX12_planned_113
      obtain ⟨p1, p2, p3, p4, p5⟩ := h.2.2.2.2.1
      have hx0 := hx.1
      have hx1 := hx.2
      have c0 := p2.1
      have s0 := p3.1
      have s1 := p3.2
      have done : (zTT (zIb b B) σ μ ∧ zF σ μ ∧ zWzz σ μ) ∧ μ.1 3 66 = μ.1 3 66 := ⟨⟨h, hF, hW⟩, rfl⟩
      have e769 : zgi σ 42 (769 : Int32).toNatClampNeg = zgi μ 3 (171 : Int32).toNatClampNeg := p1
      have z0 : (0 : Int32).toInt = 0 := rfl
      by_cases cz : zgi μ 3 (171 : Int32).toNatClampNeg ≤ 0
      · refine zp2_ckr (zp2_ifr (fun _ => ?_) (fun q => absurd cz q))
        refine zp2_ifl (fun _ => zp2_some done) (fun _ => zp2_ckl ?_)
        rw [e769]
        exact zp2_ifl (fun _ => zp2_some done) (fun q => absurd cz q)
      · have cp : 1 ≤ (μ.1 3 171).toInt := by
          have : (0 : Int32).toInt < (μ.1 3 171).toInt := Int32.lt_iff_toInt_lt.mp (z_nle cz)
          omega
        have nx : ¬ 256 ≤ x := fun q => by
          have := Int32.le_iff_toInt_le.mp q
          have c : (256 : Int32).toInt = 256 := rfl
          omega
        refine zp2_ckr (zp2_ifr (fun q => absurd q cz) (fun _ => zp2_ckr (zp2_ckr ?_)))
        refine zp2_ifl (fun q => absurd q nx) (fun _ => zp2_ckl ?_)
        rw [e769]
        refine zp2_ifl (fun q => absurd q cz) (fun _ => ?_)
        have kst := z_clamp p3.1
        have tr : (3 * ((σ.1 42 768 + 0) &&& 255)).toInt = 3 * (σ.1 42 768).toInt := z_ring p3
        obtain ⟨w, ew⟩ : ∃ w, w = 3 * ((σ.1 42 768 + 0) &&& 255) := ⟨_, rfl⟩
        rw [← ew] at tr
        have rw0 : zr 0 765 w := ⟨by omega, by omega⟩
        have kw := z_clamp rw0.1
        have iw : w.toNatClampNeg = 3 * (σ.1 42 768).toNatClampNeg := by omega
        refine zp2_bil (P := fun r => r = (σ, w)) (by unfold fX1_placeOfPlan; exact zpc_ck (zpc_some (by rw [ew]; rfl))) (fun s2 v2 e2 => ?_)
        cases e2
        have w1 : (w + 1).toNatClampNeg = w.toNatClampNeg + 1 := by
          have ta := z_tadd rw0 (zr_c (lo := 1) (hi := 1) (x := 1) (by decide)) (by decide)
          have d1 : (1 : Int32).toInt = 1 := rfl
          have kk := z_clamp (x := w + 1) (by omega)
          omega
        have w2 : (w + 2).toNatClampNeg = w.toNatClampNeg + 2 := by
          have ta := z_tadd rw0 (zr_c (lo := 2) (hi := 2) (x := 2) (by decide)) (by decide)
          have d1 : (2 : Int32).toInt = 2 := rfl
          have kk := z_clamp (x := w + 2) (by omega)
          omega
        have md : ((σ.1 42 768).toNatClampNeg + 0) % 256 = (σ.1 42 768).toNatClampNeg := by omega
        have y0 : zgi σ 42 w.toNatClampNeg = zgi μ 3 (280 : Int32).toNatClampNeg := by
          have q := p4 0 0 (by omega) (by decide)
          rw [md] at q
          rw [iw]
          exact q
        have y1 : zgi σ 42 (w + 1).toNatClampNeg = zgi μ 3 (281 : Int32).toNatClampNeg := by
          have q := p4 0 1 (by omega) (by decide)
          rw [md] at q
          rw [w1, iw]
          exact q
        have y2 : zgi σ 42 (w + 2).toNatClampNeg = zgi μ 3 (282 : Int32).toNatClampNeg := by
          have q := p4 0 2 (by omega) (by decide)
          rw [md] at q
          rw [w2, iw]
          exact q
        obtain ⟨r1, r2, _⟩ := p5 0 (by omega)
        have r1 : zr 0 1 (zgi μ 3 (281 : Int32).toNatClampNeg) := r1
        have r2 : zr 0 63 (zgi μ 3 (282 : Int32).toNatClampNeg) := r2
        refine zp2_ckl ?_
        rw [y0, y1, y2]
        refine zp2_ifn (by rw [hv]; exact z_le0) (fun _ _ => ?_) (fun _ _ => zp2_some done)
        obtain ⟨P, eP⟩ : ∃ P, P = zgi μ 3 (281 : Int32).toNatClampNeg := ⟨_, rfl⟩
        obtain ⟨W, eW⟩ : ∃ W, W = zgi μ 3 (282 : Int32).toNatClampNeg := ⟨_, rfl⟩
        rw [← eP] at r1
        rw [← eW] at r2
        rw [← eP, ← eW]
        have mP : P &&& 1 = P := by
          obtain ⟨i, ei⟩ := z_F (m := 2) r1 (by decide)
          rw [ei]
          exact v_bit1 i
        have kP := z_clamp r1.1
        have P1 := r1.2
        have oC : (7 + (P &&& 1)).toNatClampNeg = 7 + P.toNatClampNeg := by rw [mP]; exact z_off r1 (k := 7) rfl (by decide)
        have oM : ((42 : Int32) + P).toNatClampNeg = 42 + P.toNatClampNeg := z_off r1 (k := 42) rfl (by decide)
        rw [oM]
        refine zp2_ckl (zp2_ckl (zp2_bul (P := fun r => r = zsi σ 34 (7 + P.toNatClampNeg) W) ?_ (fun s3 e3 => ?_)))
        · unfold fX4_holdButtons
          exact zpc_ck (zpc_bv (fun s4 e4 => zpc_some (by rw [e4, oC])))
        refine zp2_ckl (zp2_ckl (zp2_bvl (fun s4 e4 => zp2_ckl (zp2_ckl (zp2_bvl (fun s5 e5 => zp2_bvl (fun x6 e6 => ?_)))))))
        refine zp2_ckr (zp2_ckr (zp2_ckr (zp2_bvr (fun t3 g3 => zp2_ckr (zp2_ckr (zp2_bvr (fun t4 g4 => ?_)))))))
        subst e3
        have e4 : s4 = zsi (zsi σ 34 (7 + P.toNatClampNeg) W) 42 768 ((σ.1 42 768 + 1) &&& 255) := e4
        have e5 : s5 = zsi s4 42 769 (μ.1 3 171 - 1) := by rw [e5, show zgi s4 42 (769 : Int32).toNatClampNeg = μ.1 3 171 by rw [e4]; exact p1]; rfl
        have g4 : t4 = zsi (zsi μ 3 (42 + P.toNatClampNeg) W) 3 171 (μ.1 3 171 - 1) := by
          rw [g4, show zgi t3 3 (171 : Int32).toNatClampNeg = μ.1 3 171 by rw [g3]; show (zsi μ 3 (42 + P.toNatClampNeg) W).1 3 171 = _; rw [zsi_nj (by omega)], g3]
          rfl
        have c255 : zr 1 256 (μ.1 3 171) := ⟨cp, p2.2⟩
        have tc : (μ.1 3 171 - 1).toInt = (μ.1 3 171).toInt - 1 := z_tsub c255 (zr_c (lo := 1) (hi := 1) (x := 1) (by decide)) (by decide)
        have ts : (σ.1 42 768 + 1).toInt = (σ.1 42 768).toInt + 1 := z_tadd p3 (zr_c (lo := 1) (hi := 1) (x := 1) (by decide)) (by decide)
        have tm : ((σ.1 42 768 + 1) &&& 255).toInt = ((σ.1 42 768).toInt + 1) % 256 := by rw [z_mask (k := 8) (by omega) rfl (by decide), ts]; rfl
        have p2b := p2.2
        have tx : (x + 1).toInt = x.toInt + 1 := z_tadd hx (zr_c (lo := 1) (hi := 1) (x := 1) (by decide)) (by decide)
        subst e6
        refine t_down (c := μ.1 3 171 - 1) (o := t4) ⟨by omega, by omega⟩ zfuel t4 0 (zr_c (by decide)) (by rw [z0]; omega) (by rw [g4]; exact zsi_ej) (fun _ _ _ => rfl) (fun j hj => by rw [z0] at hj; omega) rfl (fun t q1 q2 q3 q4 => ?_)
        have a : zQ [34, 42] [] [] [] σ s5 := by rw [e5, e4]; exact zQ.wi (zQ.wi (zQ.wi zQ.rf rfl) rfl) rfl
        have a2 : zQ [42] [] [] [] (zsi σ 34 (7 + P.toNatClampNeg) W) s5 := by rw [e5, e4]; exact zQ.wi (zQ.wi zQ.rf rfl) rfl
        have sh : ∀ k j, zcv [] [(3, 171, 171), (3, 280, 1047)] k j = false → t.1 k j = t4.1 k j := fun k j z => by
          by_cases y : k = 3 ∧ 280 ≤ j ∧ (j : Int) < 280 + 3 * (μ.1 3 171 - 1).toInt
          · exfalso
            rw [y.1, zcv_m (a := 280) (b := 1047) (by decide) y.2.1 (by omega)] at z
            cases z
          · exact q2 k j y
        have b2 : zQ [] [(3, 171, 171), (3, 280, 1047)] [] [] (zsi μ 3 (42 + P.toNatClampNeg) W) t := by
          refine ⟨fun k j z => ?_, fun k j _ => by rw [q4, g4]; rfl⟩
          rw [sh k j z, g4, zsi_at, if_neg (fun y => ?_)]
          rw [y.1, y.2] at z
          exact absurd z (by decide)
        have bb : zQ [] [(3, 42, 43), (3, 171, 171), (3, 280, 1047)] [] [] μ t := (zQ.wi zQ.rf (zcv_m (a := 42) (b := 43) (by decide) (by omega) (by omega))).tr (b2.mono rfl rfl)
        have vv : zVe s5 t := by
          refine zVe.kp (h.2.2.2.1.w (z_pn34_7 (d := P.toNatClampNeg) (by omega)) rfl ?_ (by rw [z_an1])) a2 b2 (by decide +kernel) (by decide +kernel)
          obtain ⟨i, ei⟩ := z_F (m := 2) r1 (by decide)
          refine zGo.r (a := 0) (b := 63) ?_ r2
          rw [ei]
          exact zg_347 i
        have pl : zPlr s5 t := by
          have f768 : s5.1 42 768 = (σ.1 42 768 + 1) &&& 255 := by rw [e5, e4]; exact (zsi_nj (by decide)).trans zsi_ej
          have f171 : t.1 3 171 = μ.1 3 171 - 1 := q1
          have km := z_clamp (x := (σ.1 42 768 + 1) &&& 255) (by omega)
          have row : ∀ k r : Nat, (k : Int) < (μ.1 3 171 - 1).toInt → r < 3 → t.1 3 (280 + 3 * k + r) = μ.1 3 (280 + 3 * (k + 1) + r) := fun k r hk hr => by
            have z := q3 (3 * k + r) (by omega)
            rw [show 280 + 3 * k + r = 280 + (3 * k + r) by omega, z, g4, zsi_nj (by omega), zsi_nj (by omega), show 283 + (3 * k + r) = 280 + 3 * (k + 1) + r by omega]
          refine ⟨?_, ?_, ?_, fun k r hk hr => ?_, fun k hk => ?_⟩
          · rw [f171, e5]; exact zsi_ej
          · rw [f171]; exact ⟨by omega, by omega⟩
          · rw [f768]; exact z_r8 _
          · rw [f171] at hk
            rw [f768, row k r hk hr, e5, e4, zsi_nj (by omega), zsi_nj (by omega), zsi_ne (by decide), show ((((σ.1 42 768 + 1) &&& 255).toNatClampNeg + k) % 256) = (((σ.1 42 768).toNatClampNeg + (k + 1)) % 256) by omega]
            exact p4 (k + 1) r (by omega) hr
          · rw [f171] at hk
            rw [row k 1 hk (by decide), row k 2 hk (by decide), row k 0 hk (by decide)]
            exact p5 (k + 1) (by omega)
        have hI : zIb b B s5 t := by
          refine ⟨vv, pl, h.2.2.2.2.2.1.kp a bb rfl rfl rfl rfl, ?_, h.2.2.2.2.2.2.2.kp bb rfl rfl rfl⟩
          have zc := h.2.2.2.2.2.2.1
          unfold zCtb
          rw [a.rlo (k := 38) rfl, bb.rlo (k := 4) rfl]
          exact zc
        obtain ⟨k1, k2⟩ := h.kp hI a bb rfl rfl
        exact zp2_mono (ih m s5 t (x + 1) ⟨by omega, by omega⟩ (by rw [q1]; omega) (by rw [bb.rlo (k := 4) rfl]; exact hv) k1 (k2.f hF) (k2.w hW)) (fun r r' q => ⟨q.1, q.2.trans (bb.o (k := 3) (a := 66) (b := 66) rfl (by decide) (by decide))⟩)
end ZPL
end ZJN40
section ZJN41
/-! THE LINE'S END -/
/-- the painter of both, as it is wanted -/
noncomputable def zDr : Prop := ∀ s t : zSt, zVe s t → (s.1 23 20).toInt < (zht (s.1 23 0) (s.1 23 1)).toInt → zp2 (fX3_draw s ) (fX12_draws t (t.1 3 66)) (fun r r' => zVe r r' ∧ zQ [25, 27, 28, 29, 3] [(23, 15, 15)] [] [] s r ∧ zQ [22, 23, 24, 25, 9] [(3, 62, 62)] [] [] t r')
theorem zht_r (a b : Int32) : zr 192 240 (zht a b) := by
  unfold zht
  by_cases q1 : a &&& 4 = 0
  · rw [if_pos q1]; exact zr_c (by decide)
  · rw [if_neg q1]
    by_cases q2 : a &&& 2 = 0
    · rw [if_pos q2]; exact zr_c (by decide)
    · rw [if_neg q2]
      by_cases q3 : b &&& 16 = 0
      · rw [if_pos q3]
        by_cases q4 : b &&& 8 = 0
        · rw [if_pos q4]; exact zr_c (by decide)
        · rw [if_neg q4]; exact zr_c (by decide)
      · rw [if_neg q3]
        by_cases q4 : b &&& 8 = 0
        · rw [if_pos q4]; exact zr_c (by decide)
        · rw [if_neg q4]; exact zr_c (by decide)
section ZLE
variable {σ μ s t : zSt} {B : Int × Int × Int} {b : Int32}
noncomputable def zTl3 (b : Int32) (B : Int × Int × Int) (r r' : zSt) : Prop := zTT (zIb b B) r r' ∧ zF r r' ∧ zWzz r r'
theorem zTl3.ok (h : zTl3 b B σ μ) {C D : Int} (v : zVe s t) (a : zQ [23] [] [] [] σ s) (d : zQ [] [(3, 62, 66)] [] [] μ t) (h1 : B.2.1 ≤ C) (ms : zMs D t) : zTl3 b (B.1, C, D) s t := by
  obtain ⟨h, hF, hW⟩ := h
  have hI : zIb b (B.1, C, D) s t := by
    refine ⟨v, h.2.2.2.2.1.kp a d rfl rfl, h.2.2.2.2.2.1.kp a d rfl rfl rfl rfl, ?_, ms⟩
    obtain ⟨c0, c1, c2, c3, c4⟩ := h.2.2.2.2.2.2.1
    unfold zCtb
    rw [a.rlo (k := 38) rfl, d.rlo (k := 4) rfl]
    exact ⟨c0, c1, c2, c3, Int.le_trans c4 h1⟩
  obtain ⟨k1, k2⟩ := h.kp hI a d rfl rfl
  exact ⟨k1, k2.f hF, k2.w hW⟩
theorem zTl3.of (h : zTl3 b B σ μ) (v : zVe s t) (a : zQ [23] [] [] [] σ s) (d : zQ [] [(3, 62, 65)] [] [] μ t) : zTl3 b B s t := h.ok v a (d.mono rfl rfl) (Int.le_refl _) (h.1.2.2.2.2.2.2.2.kp d rfl rfl rfl)
theorem zTl3.up (h : zTl3 b B σ μ) {C D : Int} (h1 : B.2.1 ≤ C) (h2 : D ≤ B.2.2) : zTl3 b (B.1, C, D) σ μ := ⟨zIb.mono h.1 h1 h2, h.2⟩
theorem zTl3.m0 (h : zTl3 b B σ μ) : 0 ≤ (μ.2 4 2).toInt := h.1.2.2.2.2.2.2.1.2.2.2.1
theorem zTl3.v (h : zTl3 b B σ μ) : zVe σ μ := h.1.2.2.2.1
theorem zVe.v15 (h : zVe σ μ) {v w : Int32} (r : zr 0 255 v) (e : w = v) : zVe (zsi σ 23 15 v) (zsi μ 3 62 w) := h.w (z_pn23_0 (d := 15) (by decide)) rfl (zGo.r rfl r) (by rw [z_an1]; exact e)
theorem zVe.v16 (h : zVe σ μ) {v w : Int32} (r : zr 0 1 v) (e : w = v) : zVe (zsi σ 23 16 v) (zsi μ 3 63 w) := h.w (z_pn23_0 (d := 16) (by decide)) rfl (zGo.r rfl r) (by rw [z_an1]; exact e)
theorem zVe.v18 (h : zVe σ μ) {v w : Int32} (r : zr (-1) 255 v) (e : w = v) : zVe (zsi σ 23 18 v) (zsi μ 3 64 w) := h.w (z_pn23_18 (d := 0) (by decide)) rfl (zGo.r rfl r) (by rw [z_an1]; exact e)
theorem zVe.v19 (h : zVe σ μ) {v w : Int32} (r : zr 0 255 v) (e : w = v) : zVe (zsi σ 23 19 v) (zsi μ 3 65 w) := h.w (z_pn23_18 (d := 1) (by decide)) rfl (zGo.r rfl r) (by rw [z_an1]; exact e)
theorem zVe.v20 (h : zVe σ μ) {v w : Int32} (r : zr 0 312 v) (l : v.toInt < (σ.1 2 1).toInt) (e : w = v) : zVe (zsi σ 23 20 v) (zsi μ 3 66 w) := by
  refine ⟨h.1.wr (z_pn23_18 (d := 2) (by decide)) (by rw [z_an1]; exact e), h.2.1.w (zGo.r rfl r), h.2.2.1, ?_⟩
  show ((zsi σ 23 20 v).1 23 20).toInt < (σ.1 2 1).toInt
  rw [zsi_ej]
  exact l
theorem zVe.e18 (h : zVe σ μ) : μ.1 3 64 = σ.1 23 18 := h.1.e (z_pn23_18 (d := 0) (by decide))
theorem zp2_subr {α β : Type} {o : Option α} {p p' : Option β} {Q : α → β → Prop} (hs : zpc p (fun r => p' = some r)) (h : zp2 o p' Q) : zp2 o p Q := fun a b ea eb => h a b ea (hs b eb)
/-- the status at the line below the picture -/
theorem t_133 (h : zTl3 b B s t) {ht : Int32} : zp2 (zbi (fX9_goesToNextLine_133 s ht 0) (fun σ1 v2 => if v2 = 0 then fX11_endLine_62 σ1 else zbu (fX0_countPicture σ1 ) (fun σ3 => zbl (fX0_count σ3 2) (fun σ4 v5 => zbu (fX1_carryOutPlans σ4 v5) (fun σ6 => fX11_endLine_62 σ6))))) (fX12_ends_169 t ht) (zTl3 b B) := by
  have hv := h.v
  unfold fX9_goesToNextLine_133 fX9_goesToNextLine_159 fX12_ends_169 fX12_ends_195 fX11_endLine_62
  rw [z_ick]
  refine zp2_ckl (zp2_ckr ?_)
  have e20 : zgi t 3 (66 : Int32).toNatClampNeg = zgi s 23 (20 : Int32).toNatClampNeg := hv.e20
  have e15 : zgi t 3 (62 : Int32).toNatClampNeg = zgi s 23 (15 : Int32).toNatClampNeg := hv.e15
  have r15 : zr 0 255 (zgi s 23 (15 : Int32).toNatClampNeg) := hv.2.1.at (k := 23) (j := 15) rfl
  rw [e20]
  by_cases q : zgi s 23 (20 : Int32).toNatClampNeg = ht + 1
  · rw [if_pos q, if_pos q]
    refine zp2_bil (P := fun r => r = (zsi s 23 15 (zgi s 23 (15 : Int32).toNatClampNeg ||| 128), 0)) (zpc_ck (zpc_ck (zpc_bv (fun s1 f1 => zpc_ck (zpc_some (by rw [f1]; rfl)))))) (fun s1 v1 e1 => ?_)
    cases e1
    refine zp2_ckr (zp2_ckr (zp2_bvr (fun t1 g1 => ?_)))
    rw [e15] at g1
    refine zp2_ifl (fun _ => zp2_some ?_) (fun q => absurd rfl q)
    rw [g1]
    exact h.of (hv.v15 (zr_or (lo := 0) (hi := 255) 8 r15 (zr_c (lo := 128) (hi := 128) (x := 128) (by decide)) (by decide)) rfl) (zQ.wi zQ.rf rfl) (zQ.wi zQ.rf rfl)
  · rw [if_neg q, if_neg q]
    refine zp2_bil (P := fun r => r = (s, 0)) (zpc_ck (zpc_some rfl)) (fun s1 v1 e1 => ?_)
    cases e1
    exact zp2_ifl (fun _ => zp2_some h) (fun q => absurd rfl q)
/-- the next line -/
theorem t_76 (hP : B.2.1 ≤ 1000000000000000) (h : zTl3 b B s t) {ht : Int32} (hh : zr 192 240 ht) : zp2 (zbi (fX9_goesToNextLine_76 s ht) (fun σ1 v2 => if v2 = 0 then fX11_endLine_62 σ1 else zbu (fX0_countPicture σ1 ) (fun σ3 => zbl (fX0_count σ3 2) (fun σ4 v5 => zbu (fX1_carryOutPlans σ4 v5) (fun σ6 => fX11_endLine_62 σ6))))) (fX12_ends_96 t ht) (zTl3 b (B.1, B.2.1 + 1, B.2.2 + 228)) := by
  have hv := h.v
  have e20 : zgi t 3 (66 : Int32).toNatClampNeg = s.1 23 20 := hv.e20
  have r20 : zr 0 312 (s.1 23 20) := hv.2.1.at (k := 23) (j := 20) rfl
  have ta : (s.1 23 20 + 1).toInt = (s.1 23 20).toInt + 1 := z_tadd r20 (zr_c (lo := 1) (hi := 1) (x := 1) (by decide)) (by decide)
  obtain ⟨k0, k1, k2, k3, k4, k5⟩ := hv.2.2.1
  have ln : (s.1 23 20).toInt < (s.1 2 1).toInt := hv.2.2.2
  have h0 := hh.1
  have r0 := r20.1
  have r1 := r20.2
  -- how many lines
  obtain ⟨N, eN, rN⟩ : ∃ N : Int32, s.1 2 1 = N ∧ (t.1 0 3 = 1 → N = 313) ∧ (¬ t.1 0 3 = 1 → N = 262) := ⟨s.1 2 1, rfl, fun q => by rw [k5, if_pos q], fun q => by rw [k5, if_neg q]⟩
  unfold fX12_ends_96
  refine zp2_ckr (zp2_ckr (zp2_bvr (fun t1 g1 => zp2_ckr ?_)))
  rw [e20] at g1
  have g1 : t1 = zsi t 3 66 (s.1 23 20 + 1) := g1
  have c66 : zgi t1 3 (66 : Int32).toNatClampNeg = s.1 23 20 + 1 := by rw [g1]; exact zsi_ej
  have c03 : zgi t1 0 3 = t.1 0 3 := by rw [g1]; rfl
  rw [c66, c03]
  refine zp2_subr (p' := fX12_ends_131 t1 ht N (s.1 23 20 + 1)) (zpc_if (fun q => ?_) (fun q => ?_)) ?_
  · rw [rN.1 q]; exact fun r er => er
  · rw [rN.2 q]; exact fun r er => er
  unfold fX12_ends_131
  rw [eN] at ln
  by_cases w : s.1 23 20 + 1 = N
  · -- a new picture
    refine zp2_ifr (fun _ => zp2_ckr (zp2_bvr (fun t2 g2 => ?_))) (fun q => absurd w q)
    have g2 : t2 = zsi t 3 66 0 := by rw [g2, g1]; exact zsi_ow
    have hv2 : zVe (zsi s 23 20 0) t2 := by
      rw [g2]
      exact hv.v20 (zr_c (by decide)) (by rw [eN, show (0 : Int32).toInt = 0 from rfl]; omega) rfl
    have e9 : t2.1 3 56 = s.1 23 9 := hv2.e9
    have hv3 : zVe (zsi (zsi s 23 20 0) 23 19 (s.1 23 9)) (zsi t2 3 65 (s.1 23 9)) := hv2.v19 hv.r9 rfl
    have q67 : (zsi t2 3 65 (s.1 23 9)).1 3 67 = t.1 3 67 := by rw [g2]; rfl
    have q66 : (zsi t2 3 65 (s.1 23 9)).1 3 66 = 0 := by rw [g2]; rfl
    have q42 : (zsi t2 3 65 (s.1 23 9)).2 4 2 = t.2 4 2 := by rw [g2]; rfl
    have q03 : (zsi t2 3 65 (s.1 23 9)).1 0 3 = t.1 0 3 := by rw [g2]; rfl
    have b67 : 0 ≤ (t.1 3 67).toInt := by rw [hv.e21]; exact (hv.2.1.at (k := 23) (j := 21) rfl).1
    have p42 := h.m0
    have h3 : zTl3 b (B.1, B.2.1, 0) (zsi (zsi s 23 20 0) 23 19 (s.1 23 9)) (zsi t2 3 65 (s.1 23 9)) := by
      refine h.ok hv3 (zQ.wi (zQ.wi zQ.rf rfl) rfl) (by rw [g2]; exact zQ.wi (zQ.wi zQ.rf rfl) rfl) (Int.le_refl _) ?_
      unfold zMs zMt
      rw [q67, q66, q42, q03, show (0 : Int32).toInt = 0 from rfl]
      by_cases q : t.1 0 3 = 1
      · rw [if_pos q]; omega
      · rw [if_neg q]; omega
    have ms0 : zMs B.2.2 t := h.1.2.2.2.2.2.2.2
    refine zp2_bil (P := fun r => r = (zsi (zsi s 23 20 0) 23 19 (s.1 23 9), 1)) ?_ (fun s1 v1 e1 => ?_)
    · unfold fX9_goesToNextLine_76 fX9_goesToNextLine_106 fX9_goesToNextLine_133 fX9_goesToNextLine_159
      refine zpc_ck (zpc_ck (zpc_bv (fun s1 f1 => zpc_ck (zpc_if (fun q => ?_) (fun _ => zpc_if (fun q => absurd q (by decide)) (fun _ => zpc_ck (zpc_bv (fun s2 f2 => zpc_ck (zpc_ck (zpc_bv (fun s3 f3 => zpc_ck ?_)))))))))))
      · have q : s.1 23 20 + 1 < s.1 2 1 := by rw [f1] at q; exact q
        rw [w, eN] at q
        exact absurd q Int32.lt_irrefl
      · have f2 : s2 = zsi s 23 20 0 := by rw [f2, f1]; exact zsi_ow
        have f3 : s3 = zsi (zsi s 23 20 0) 23 19 (s.1 23 9) := by rw [f3, f2]; rfl
        refine zpc_if (fun q => ?_) (fun _ => zpc_ck (zpc_some (by rw [f3])))
        have q : (0 : Int32) = ht + 1 := by rw [f3] at q; exact q
        have tb := z_tadd hh (zr_c (lo := 1) (hi := 1) (x := 1) (by decide)) (by decide)
        rw [← q] at tb
        have d1 : (1 : Int32).toInt = 1 := rfl
        have d0 : (0 : Int32).toInt = 0 := rfl
        exfalso
        omega
    cases e1
    refine zp2_ifl (fun q => absurd q (by decide)) (fun _ => ?_)
    unfold fX12_reg
    refine zp2_bir (P := fun r => r = (t2, s.1 23 9)) (zpc_ck (zpc_some (by rw [← e9]; rfl))) (fun t3 v3 e3 => zp2_ckr (zp2_bvr (fun t5 g5 => zp2_ckr (zp2_ckr (zp2_bvr (fun t6 g6 => ?_))))))
    cases e3
    have g5 : t5 = zsi t2 3 65 (s.1 23 9) := g5
    subst g5
    have g6 : t6 = zsl (zsi t2 3 65 (s.1 23 9)) 4 2 ((zsi t2 3 65 (s.1 23 9)).2 4 2 + 1) := g6
    obtain ⟨S, eS⟩ : ∃ S, S = zsi (zsi s 23 20 0) 23 19 (s.1 23 9) := ⟨_, rfl⟩
    obtain ⟨T, eT⟩ : ∃ T, T = zsi t2 3 65 (s.1 23 9) := ⟨_, rfl⟩
    rw [← eS, ← eT] at h3
    rw [← eT] at g6
    rw [← eS]
    refine zp2_bul (P := fun r => r = zsl S 38 2 (S.2 38 2 + 1)) (by unfold fX0_countPicture; exact zpc_ck (zpc_ck (zpc_bv (fun s1 f1 => zpc_some f1)))) (fun S1 eS1 => ?_)
    obtain ⟨q1, qF, qW⟩ := h3
    have a4 : zQ [] [] [] [(38, 2, 2)] S S1 := by rw [eS1]; exact zQ.wl zQ.rf rfl
    have d4 : zQ [] [] [] [(4, 2, 2)] T t6 := by rw [g6]; exact zQ.wl zQ.rf rfl
    have hI : zIb b (B.1, B.2.1 + 1, B.2.2 + 228) S1 t6 := by
      obtain ⟨⟨c0, c1, c2, c3, c4⟩, ms⟩ := q1.2.2.2.2.2.2
      have en : (t6.2 4 2).toInt = (T.2 4 2).toInt + 1 := by
        rw [g6, zsl_at, if_pos ⟨rfl, rfl⟩]
        exact z_tladd (a := 0) (b := 1000000000000000) ⟨c3, by have : (T.2 4 2).toInt ≤ B.2.1 := c4; omega⟩ (zrl_c (lo := 1) (hi := 1) (x := 1) (by decide)) (by decide)
      refine ⟨q1.2.2.2.1.kp a4 d4 (by decide +kernel) (by decide +kernel), q1.2.2.2.2.1.kp a4 d4 rfl rfl, q1.2.2.2.2.2.1.kp a4 d4 rfl rfl rfl rfl, ⟨?_, ?_, ?_, ?_, ?_⟩, ?_⟩
      · rw [a4.lo (k := 38) (a := 0) (b := 1) rfl (j := 0) (by decide) (by decide), d4.lo (k := 4) (a := 0) (b := 1) rfl (j := 0) (by decide) (by decide)]; exact c0
      · rw [a4.lo (k := 38) (a := 0) (b := 1) rfl (j := 1) (by decide) (by decide), d4.lo (k := 4) (a := 0) (b := 1) rfl (j := 1) (by decide) (by decide)]; exact c1
      · rw [eS1, g6, zsl_at, zsl_at, if_pos ⟨rfl, rfl⟩, if_pos ⟨rfl, rfl⟩, c2]
      · rw [en]; omega
      · rw [en]; have : (T.2 4 2).toInt ≤ B.2.1 := c4; show (T.2 4 2).toInt + 1 ≤ B.2.1 + 1; omega
      · have x67 : t6.1 3 67 = t.1 3 67 := by rw [g6]; show T.1 3 67 = _; rw [eT]; exact q67
        have x66 : t6.1 3 66 = 0 := by rw [g6]; show T.1 3 66 = _; rw [eT]; exact q66
        have x03 : t6.1 0 3 = t.1 0 3 := by rw [g6]; show T.1 0 3 = _; rw [eT]; exact q03
        have xT : T.2 4 2 = t.2 4 2 := by rw [eT]; exact q42
        have z66 : t.1 3 66 = s.1 23 20 := hv.e20
        unfold zMs zMt at ms0 ⊢
        rw [x67, x66, x03, en, xT, show (0 : Int32).toInt = 0 from rfl]
        rw [z66] at ms0
        have wl : (s.1 23 20).toInt + 1 = N.toInt := by rw [← ta, w]
        show B.2.2 + 228 ≤ _
        by_cases q : t.1 0 3 = 1
        · rw [if_pos q] at ms0 ⊢
          rw [rN.1 q, show (313 : Int32).toInt = 313 from rfl] at wl
          omega
        · rw [if_neg q] at ms0 ⊢
          rw [rN.2 q, show (262 : Int32).toInt = 262 from rfl] at wl
          omega
    obtain ⟨z1, z2⟩ := q1.kp hI a4 d4 rfl rfl
    refine zp2_bll (P := fun r => r = (S1, S1.2 38 2)) ?_ (fun S2 v5 e5 => ?_)
    · unfold fX0_count fX0_count_20
      exact zpc_if (fun q => absurd q (by decide)) (fun _ => zpc_if (fun q => absurd q (by decide)) (fun _ => zpc_ck (zpc_some rfl)))
    cases e5
    unfold fX1_carryOutPlans fX11_endLine_62
    have e38 : S1.2 38 2 = t6.2 4 2 := hI.2.2.2.1.2.2.1.symm
    rw [e38]
    refine zp2_buu (t_plans zfuel zfuel S1 t6 0 (zr_c (by decide)) ?_ rfl z1 (z2.f qF) (z2.w qW)) (fun r r' q => ?_)
    · have := hI.2.1.2.1.2
      rw [show (0 : Int32).toInt = 0 from rfl]
      omega
    · -- the line is 0: no status
      unfold fX12_ends_169 fX12_ends_195
      refine zp2_ckr (zp2_ifr (fun z => ?_) (fun _ => zp2_some q.1))
      have y : r'.1 3 66 = 0 := by
        rw [q.2, g6]
        show T.1 3 66 = 0
        rw [eT, g2]
        rfl
      have z : r'.1 3 66 = ht + 1 := z
      rw [y] at z
      have tb := z_tadd hh (zr_c (lo := 1) (hi := 1) (x := 1) (by decide)) (by decide)
      rw [← z] at tb
      have d1 : (1 : Int32).toInt = 1 := rfl
      have d0 : (0 : Int32).toInt = 0 := rfl
      exfalso
      omega
  · refine zp2_ifr (fun q => absurd q w) (fun _ => ?_)
    have lt : s.1 23 20 + 1 < N := Int32.lt_iff_toInt_lt.mpr (by
      have : ¬ (s.1 23 20 + 1).toInt = N.toInt := fun q => w (Int32.toInt_inj.mp q)
      omega)
    have ltn := Int32.lt_iff_toInt_lt.mp lt
    have nb : N.toInt ≤ 313 := by
      by_cases q : t.1 0 3 = 1
      · rw [rN.1 q]; decide
      · rw [rN.2 q]; decide
    have hv2 : zVe (zsi s 23 20 (s.1 23 20 + 1)) t1 := by
      rw [g1]
      exact hv.v20 ⟨by omega, by omega⟩ (by rw [eN]; exact ltn) rfl
    have h2 : zTl3 b (B.1, B.2.1 + 1, B.2.2 + 228) (zsi s 23 20 (s.1 23 20 + 1)) t1 := by
      refine h.ok hv2 (zQ.wi zQ.rf rfl) (by rw [g1]; exact zQ.wi zQ.rf rfl) (by omega) ?_
      have ms0 : zMs B.2.2 t := h.1.2.2.2.2.2.2.2
      have z66 : t.1 3 66 = s.1 23 20 := hv.e20
      have x67 : t1.1 3 67 = t.1 3 67 := by rw [g1]; rfl
      have x66 : t1.1 3 66 = s.1 23 20 + 1 := by rw [g1]; exact zsi_ej
      have x03 : t1.1 0 3 = t.1 0 3 := by rw [g1]; rfl
      have x42 : t1.2 4 2 = t.2 4 2 := by rw [g1]; rfl
      unfold zMs zMt at ms0 ⊢
      rw [x67, x66, x03, x42, ta]
      rw [z66] at ms0
      omega
    refine zp2_sub (o' := fX9_goesToNextLine_133 (zsi s 23 20 (s.1 23 20 + 1)) ht 0) ?_ (t_133 h2)
    unfold fX9_goesToNextLine_76 fX9_goesToNextLine_106
    refine zpc_ck (zpc_ck (zpc_bv (fun s1 f1 => zpc_ck (zpc_if (fun _ => zpc_if (fun _ => ?_) (fun q => absurd rfl q)) (fun q => ?_)))))
    · have f1 : s1 = zsi s 23 20 (s.1 23 20 + 1) := f1
      rw [f1]
      exact fun r er => er
    · exfalso
      refine q ?_
      rw [f1]
      show s.1 23 20 + 1 < s.1 2 1
      rw [eN]
      exact lt
theorem t_26 (hP : B.2.1 ≤ 1000000000000000) (h : zTl3 b B s t) : zp2 (fX11_endLine_26 s ) (fX12_ends_27 t (zht (s.1 23 0) (s.1 23 1))) (zTl3 b (B.1, B.2.1 + 1, B.2.2 + 228)) := by
  have hv := h.v
  have hh := zht_r (s.1 23 0) (s.1 23 1)
  obtain ⟨ht, eh⟩ : ∃ ht, ht = zht (s.1 23 0) (s.1 23 1) := ⟨_, rfl⟩
  rw [← eh] at hh
  have pC : zpc (fX9_height s ) (fun r => r = (s, ht)) := by rw [eh]; exact p_heightC hv.r0 hv.r1
  rw [← eh]
  have e20 : zgi t 3 (66 : Int32).toNatClampNeg = zgi s 23 (20 : Int32).toNatClampNeg := hv.e20
  have e18 : zgi t 3 (64 : Int32).toNatClampNeg = zgi s 23 (18 : Int32).toNatClampNeg := hv.e18
  have e10 : t.1 3 57 = s.1 23 10 := hv.e10
  have r18 : zr (-1) 255 (s.1 23 18) := hv.2.1.at (k := 23) (j := 18) rfl
  unfold fX11_endLine_26 fX12_ends_27 fX12_reg
  refine zp2_ckr ?_
  rw [e20]
  by_cases q : zgi s 23 (20 : Int32).toNatClampNeg ≤ ht
  · have nq : ¬ ht < zgi s 23 (20 : Int32).toNatClampNeg := fun r => by have := Int32.le_iff_toInt_le.mp q; have := Int32.lt_iff_toInt_lt.mp r; omega
    refine zp2_ifr (fun r => absurd r nq) (fun _ => zp2_ckr (zp2_ckr (zp2_bvr (fun t1 g1 => zp2_ckr ?_))))
    rw [e18] at g1
    have c64 : zgi t1 3 (64 : Int32).toNatClampNeg = s.1 23 18 - 1 := by rw [g1]; exact zsi_ej
    rw [c64]
    by_cases p : 0 ≤ s.1 23 18 - 1
    · refine zp2_ifr (fun _ => ?_) (fun r => absurd p r)
      have ts : (s.1 23 18 - 1).toInt = (s.1 23 18).toInt - 1 ∨ True := Or.inr trivial
      have r18b : zr (-2) 254 (s.1 23 18 - 1) := zr_sub r18 (zr_c (lo := 1) (hi := 1) (x := 1) (by decide)) (by decide)
      have h1 : zTl3 b B (zsi s 23 18 (s.1 23 18 - 1)) t1 := by
        rw [g1]
        exact h.of (hv.v18 ⟨by have := Int32.le_iff_toInt_le.mp p; have c : (0 : Int32).toInt = 0 := rfl; omega, by have := r18b.2; omega⟩ rfl) (zQ.wi zQ.rf rfl) (zQ.wi zQ.rf rfl)
      refine zp2_sub (o' := fX9_goesToNextLine_76 (zsi s 23 18 (s.1 23 18 - 1)) ht) ?_ (t_76 hP h1 hh)
      unfold fX9_goesToNextLine
      refine zpc_bi pC (fun s1 v1 e1 => ?_)
      cases e1
      refine zpc_ck (zpc_if (fun _ => zpc_ck (zpc_ck (zpc_bv (fun s2 f2 => zpc_ck (zpc_if (fun _ => ?_) (fun r => ?_)))))) (fun r => absurd q r))
      · have f2 : s2 = zsi s 23 18 (s.1 23 18 - 1) := f2
        rw [f2]
        exact fun r er => er
      · exfalso
        refine r ?_
        rw [f2]
        show 0 ≤ (zsi s 23 18 (s.1 23 18 - 1)).1 23 18
        rw [zsi_ej]
        exact p
    · refine zp2_ifr (fun r => absurd r p) (fun _ => ?_)
      refine zp2_bir (P := fun r => r = (t1, s.1 23 10)) (zpc_ck (zpc_some (by rw [g1, ← e10]; rfl))) (fun t2 v2 e2 => zp2_ckr (zp2_bvr (fun t3 g3 => zp2_ckr (zp2_bvr (fun t4 g4 => ?_)))))
      cases e2
      have g3 : t3 = zsi t 3 64 (s.1 23 10) := by rw [g3, g1]; exact zsi_ow
      have r10 := hv.r10
      have h1 : zTl3 b B (zsi (zsi s 23 18 (s.1 23 10)) 23 16 1) t4 := by
        rw [g4, g3]
        exact h.of ((hv.v18 (zr_w r10 (by decide)) rfl).v16 (zr_c (by decide)) rfl) (zQ.wi (zQ.wi zQ.rf rfl) rfl) (zQ.wi (zQ.wi zQ.rf rfl) rfl)
      refine zp2_sub (o' := fX9_goesToNextLine_76 (zsi (zsi s 23 18 (s.1 23 10)) 23 16 1) ht) ?_ (t_76 hP h1 hh)
      unfold fX9_goesToNextLine
      refine zpc_bi pC (fun s1 v1 e1 => ?_)
      cases e1
      refine zpc_ck (zpc_if (fun _ => zpc_ck (zpc_ck (zpc_bv (fun s2 f2 => zpc_ck (zpc_if (fun r => ?_) (fun _ => zpc_ck (zpc_ck (zpc_bv (fun s3 f3 => zpc_ck (zpc_bv (fun s4 f4 => ?_))))))))))) (fun r => absurd q r))
      · exfalso
        refine p ?_
        rw [f2] at r
        have r : 0 ≤ (zsi s 23 18 (s.1 23 18 - 1)).1 23 18 := r
        rw [zsi_ej] at r
        exact r
      · have f3 : s3 = zsi s 23 18 (s.1 23 10) := by
          rw [f3, f2]
          exact zsi_ow
        have f4 : s4 = zsi (zsi s 23 18 (s.1 23 10)) 23 16 1 := by rw [f4, f3]; rfl
        rw [f4]
        exact fun r er => er
  · have lt : ht < zgi s 23 (20 : Int32).toNatClampNeg := z_nle q
    refine zp2_ifr (fun _ => ?_) (fun r => absurd lt r)
    refine zp2_bir (P := fun r => r = (t, s.1 23 10)) (zpc_ck (zpc_some (by rw [← e10]; rfl))) (fun t2 v2 e2 => zp2_ckr (zp2_bvr (fun t3 g3 => ?_)))
    cases e2
    have g3 : t3 = zsi t 3 64 (s.1 23 10) := g3
    have h1 : zTl3 b B (zsi s 23 18 (s.1 23 10)) t3 := by
      rw [g3]
      exact h.of (hv.v18 (zr_w hv.r10 (by decide)) rfl) (zQ.wi zQ.rf rfl) (zQ.wi zQ.rf rfl)
    refine zp2_sub (o' := fX9_goesToNextLine_76 (zsi s 23 18 (s.1 23 10)) ht) ?_ (t_76 hP h1 hh)
    unfold fX9_goesToNextLine
    refine zpc_bi pC (fun s1 v1 e1 => ?_)
    cases e1
    refine zpc_ck (zpc_if (fun r => absurd r q) (fun _ => zpc_ck (zpc_ck (zpc_bv (fun s2 f2 => ?_)))))
    have f2 : s2 = zsi s 23 18 (s.1 23 10) := f2
    rw [f2]
    exact fun r er => er
theorem zLe_of (hD : zDr) : zLe := fun b B s t hP h hF hW => by
  have h3 : zTl3 b B s t := ⟨h, hF, hW⟩
  have hv := h3.v
  unfold fX11_endLine fX12_ends
  refine zp2_bil (P := fun r => r = (s, s.1 23 20)) ?_ (fun s1 v1 e1 => ?_)
  · unfold fX9_held fX9_held_20
    exact zpc_if (fun q => absurd q (by decide)) (fun _ => zpc_if (fun q => absurd q (by decide)) (fun _ => zpc_ck (zpc_some rfl)))
  cases e1
  refine zp2_bil (p_heightC hv.r0 hv.r1) (fun s2 v2 e2 => ?_)
  cases e2
  have pM := p_heightM (μ := t) (by rw [hv.e0]; exact hv.r0) (by rw [hv.e1]; exact hv.r1)
  rw [hv.e0, hv.e1] at pM
  refine zp2_bir pM (fun t2 v2 e2 => zp2_ckr ?_)
  cases e2
  have e20 : zgi t 3 (66 : Int32).toNatClampNeg = s.1 23 20 := hv.e20
  rw [e20]
  refine zp2_if (fun _ => t_26 hP h3) (fun q => zp2_ckr ?_)
  have lt := Int32.lt_iff_toInt_lt.mp (z_nle q)
  have d := hD s t hv lt
  rw [hv.e20] at d
  refine zp2_buu d (fun r r' q => ?_)
  obtain ⟨q1, q2, q3⟩ := q
  have hI : zIb b B r r' := by
    refine ⟨q1, h.2.2.2.2.1.kp q2 q3 rfl rfl, h.2.2.2.2.2.1.kp q2 q3 rfl rfl rfl rfl, ?_, h.2.2.2.2.2.2.2.kp q3 rfl rfl rfl⟩
    unfold zCtb
    rw [q2.rlo (k := 38) rfl, q3.rlo (k := 4) rfl]
    exact h.2.2.2.2.2.2.1
  obtain ⟨k1, k2⟩ := h.kp hI q2 q3 rfl rfl
  have h4 : zTl3 b B r r' := ⟨k1, k2.f hF, k2.w hW⟩
  have z := t_26 hP h4
  rw [q2.o (k := 23) (a := 0) (b := 1) rfl (j := 0) (by decide) (by decide), q2.o (k := 23) (a := 0) (b := 1) rfl (j := 1) (by decide) (by decide)] at z
  exact z
end ZLE
end ZJN41
section ZJN42
/-! THE PAINTER, 1 -/
theorem zbt_l2 : ∀ i, i < 32 → ((4 : Int32).toBitVec.getLsbD i = decide (i = 2)) := by decide
theorem zbt_m2 {x : Int32} : x &&& 4 = bif zbt 2 x then 4 else 0 := by
  refine Int32.toBitVec_inj.1 (BitVec.eq_of_getLsbD_eq (fun i hi => ?_))
  rw [Int32.toBitVec_and, BitVec.getLsbD_and, zbt_l2 i hi]
  unfold zbt
  by_cases q : i = 2
  · subst q
    cases h : x.toBitVec.getLsbD 2 <;> rfl
  · rw [decide_eq_false q, Bool.and_false]
    cases h : x.toBitVec.getLsbD 2
    · exact (BitVec.getLsbD_zero (w := 32)).symm
    · exact ((zbt_l2 i hi).trans (decide_eq_false q)).symm
theorem zbt_or {k : Nat} {x y : Int32} : zbt k (x ||| y) = (zbt k x || zbt k y) := by
  unfold zbt
  rw [Int32.toBitVec_or, BitVec.getLsbD_or]
theorem zbt_shl {i n : Nat} {x s : Int32} (hs : (s.toBitVec.smod 32).toNat = n) (hi : i < 32) : zbt i (x <<< s) = (!decide (i < n) && zbt (i - n) x) := by
  unfold zbt
  have e : (x <<< s).toBitVec = x.toBitVec <<< (s.toBitVec.smod 32).toNat := rfl
  rw [e, hs, BitVec.getLsbD_shiftLeft, decide_eq_true hi, Bool.true_and]
theorem zbt_ush {k n : Nat} {x s : Int32} (hs : (UInt32.mod (s.toUInt32 &&& Int32.toUInt32 31) 32).toBitVec.toNat = n) : zbt k (zush x s) = zbt (n + k) x := by
  unfold zbt
  have e : (zush x s).toBitVec = x.toBitVec >>> (UInt32.mod (s.toUInt32 &&& Int32.toUInt32 31) 32).toBitVec.toNat := rfl
  rw [e, hs, BitVec.getLsbD_ushiftRight]
theorem zbt_by {b : Int32} (h : zr 0 255 b) {i : Nat} (h8 : 8 ≤ i) (hi : i < 32) : zbt i b = false := by
  have e : b = b &&& 255 := (z_m255 h).symm
  rw [e, zbt_and]
  have z : zbt i 255 = decide (i < 8) := v_255 i hi
  rw [z, decide_eq_false (by omega), Bool.and_false]
noncomputable def pl4 (a b c d : Int32) : Int32 := ((a ||| (b <<< ((8 : Int32) &&& 31))) ||| (c <<< ((16 : Int32) &&& 31))) ||| (d <<< ((24 : Int32) &&& 31))
section ZPB
variable {a b c d p : Int32}
theorem zbt_pl (ha : zr 0 255 a) (hb : zr 0 255 b) (hc : zr 0 255 c) (hd : zr 0 255 d) {q : Nat} (hq : q < 8) : zbt q (pl4 a b c d) = zbt q a ∧ zbt (q + 8) (pl4 a b c d) = zbt q b ∧ zbt (q + 16) (pl4 a b c d) = zbt q c ∧ zbt (q + 24) (pl4 a b c d) = zbt q d := by
  have sh : ∀ (x : Int32) (k : Nat), q + k < 32 → zbt (q + k) (x <<< ((8 : Int32) &&& 31)) = (!decide (q + k < 8) && zbt (q + k - 8) x) ∧ zbt (q + k) (x <<< ((16 : Int32) &&& 31)) = (!decide (q + k < 16) && zbt (q + k - 16) x) ∧ zbt (q + k) (x <<< ((24 : Int32) &&& 31)) = (!decide (q + k < 24) && zbt (q + k - 24) x) := fun x k hk => ⟨zbt_shl rfl hk, zbt_shl rfl hk, zbt_shl rfl hk⟩
  have or4 : ∀ i, zbt i (pl4 a b c d) = (((zbt i a || zbt i (b <<< ((8 : Int32) &&& 31))) || zbt i (c <<< ((16 : Int32) &&& 31))) || zbt i (d <<< ((24 : Int32) &&& 31))) := fun i => by
    unfold pl4
    rw [zbt_or, zbt_or, zbt_or]
  have T : ∀ k, k < q + 1 → ¬ q + 8 < k := fun k hk => by omega
  refine ⟨?_, ?_, ?_, ?_⟩
  · have s0 := sh b 0 (by omega)
    have s1 := sh c 0 (by omega)
    have s2 := sh d 0 (by omega)
    rw [Nat.add_zero] at s0 s1 s2
    rw [or4, s0.1, s1.2.1, s2.2.2, decide_eq_true (by omega), decide_eq_true (by omega), decide_eq_true (by omega)]
    cases zbt q a <;> rfl
  · rw [or4, (sh b 8 (by omega)).1, (sh c 8 (by omega)).2.1, (sh d 8 (by omega)).2.2, zbt_by ha (by omega) (by omega), decide_eq_false (show ¬ q + 8 < 8 by omega), decide_eq_true (show q + 8 < 16 by omega), decide_eq_true (show q + 8 < 24 by omega), show q + 8 - 8 = q by omega]
    cases zbt q b <;> rfl
  · rw [or4, (sh b 16 (by omega)).1, (sh c 16 (by omega)).2.1, (sh d 16 (by omega)).2.2, zbt_by ha (by omega) (by omega), decide_eq_false (show ¬ q + 16 < 8 by omega), decide_eq_false (show ¬ q + 16 < 16 by omega), decide_eq_true (show q + 16 < 24 by omega), show q + 16 - 16 = q by omega, zbt_by hb (i := q + 16 - 8) (by omega) (by omega)]
    cases zbt q c <;> rfl
  · rw [or4, (sh b 24 (by omega)).1, (sh c 24 (by omega)).2.1, (sh d 24 (by omega)).2.2, zbt_by ha (by omega) (by omega), decide_eq_false (show ¬ q + 24 < 8 by omega), decide_eq_false (show ¬ q + 24 < 16 by omega), decide_eq_false (show ¬ q + 24 < 24 by omega), show q + 24 - 24 = q by omega, zbt_by hb (i := q + 24 - 8) (by omega) (by omega), zbt_by hc (i := q + 24 - 16) (by omega) (by omega)]
    cases zbt q d <;> rfl
/-- the class's number -/
noncomputable def nIn (x p : Int32) : Int32 := (((((zush x (7 - p)) &&& 16843009) &&& 1) ||| ((((zush x (7 - p)) &&& 16843009) >>> ((7 : Int32) &&& 31)) &&& 2)) ||| ((((zush x (7 - p)) &&& 16843009) >>> ((14 : Int32) &&& 31)) &&& 4)) ||| ((((zush x (7 - p)) &&& 16843009) >>> ((21 : Int32) &&& 31)) &&& 8)
/-- the reference's -/
noncomputable def bIn (x p : Int32) : Int32 := (x >>> ((7 - p) &&& 31)) &&& 1
noncomputable def tIn (a b c d p : Int32) : Int32 := (((0 ||| ((bIn a p) <<< ((0 : Int32) &&& 31))) ||| ((bIn b p) <<< ((0 + 1 : Int32) &&& 31))) ||| ((bIn c p) <<< ((0 + 1 + 1 : Int32) &&& 31))) ||| ((bIn d p) <<< ((0 + 1 + 1 + 1 : Int32) &&& 31))
theorem v_s7u : ∀ i : Fin 8, (UInt32.mod ((7 - Int32.ofNat i.val).toUInt32 &&& Int32.toUInt32 31) 32).toBitVec.toNat = 7 - i.val := by decide +kernel
theorem v_s7s : ∀ i : Fin 8, (((7 - Int32.ofNat i.val) &&& 31).toBitVec.smod 32).toNat = 7 - i.val := by decide +kernel
noncomputable def fb4 (x y z w : Bool) : Int32 := (((bif x then 1 else 0) ||| (bif y then 2 else 0)) ||| (bif z then 4 else 0)) ||| (bif w then 8 else 0)
theorem z_nIn (ha : zr 0 255 a) (hb : zr 0 255 b) (hc : zr 0 255 c) (hd : zr 0 255 d) (hp : zr 0 7 p) : nIn (pl4 a b c d) p = tIn a b c d p ∧ zr 0 15 (tIn a b c d p) := by
  obtain ⟨i, ei⟩ := z_F (m := 8) hp (by decide)
  obtain ⟨q, hq8, hqu, hqs⟩ : ∃ q : Nat, q < 8 ∧ (UInt32.mod ((7 - p).toUInt32 &&& Int32.toUInt32 31) 32).toBitVec.toNat = q ∧ (((7 - p) &&& 31).toBitVec.smod 32).toNat = q := ⟨7 - i.val, by omega, by rw [ei]; exact v_s7u i, by rw [ei]; exact v_s7s i⟩
  obtain ⟨z0, z1, z2, z3⟩ := zbt_pl ha hb hc hd hq8
  have bb : ∀ x : Int32, bIn x p = bif zbt q x then 1 else 0 := fun x => by
    unfold bIn
    rw [zbt_m0, zbt_sar hqs (by omega), Nat.add_zero]
  have hR : tIn a b c d p = fb4 (zbt q a) (zbt q b) (zbt q c) (zbt q d) := by
    unfold tIn
    rw [bb, bb, bb, bb]
    cases zbt q a <;> cases zbt q b <;> cases zbt q c <;> cases zbt q d <;> rfl
  have hL : nIn (pl4 a b c d) p = fb4 (zbt q a) (zbt q b) (zbt q c) (zbt q d) := by
    unfold nIn
    rw [zbt_m0, zbt_m1, zbt_m2, zbt_m3, zbt_sar (n := 7) rfl (by decide), zbt_sar (n := 14) rfl (by decide), zbt_sar (n := 21) rfl (by decide), zbt_and, zbt_and, zbt_and, zbt_and, zbt_ush hqu, zbt_ush hqu, zbt_ush hqu, zbt_ush hqu, show zbt 0 16843009 = true from rfl, show zbt (7 + 1) 16843009 = true from rfl, show zbt (14 + 2) 16843009 = true from rfl, show zbt (21 + 3) 16843009 = true from rfl, Bool.and_true, Bool.and_true, Bool.and_true, Bool.and_true, Nat.add_zero, z0]
    have y1 : zbt (q + (7 + 1)) (pl4 a b c d) = zbt q b := z1
    have y2 : zbt (q + (14 + 2)) (pl4 a b c d) = zbt q c := z2
    have y3 : zbt (q + (21 + 3)) (pl4 a b c d) = zbt q d := z3
    rw [y1, y2, y3]
    rfl
  refine ⟨hL.trans hR.symm, ?_⟩
  rw [hR]
  cases zbt q a <;> cases zbt q b <;> cases zbt q c <;> cases zbt q d <;> exact zr_c (by decide)
end ZPB
/-! bytes of the video memory -/
noncomputable def vb (σ : zSt) (x : Int32) : Int32 := σ.1 21 (x &&& 16383).toNatClampNeg
section ZVB
variable {σ μ s t : zSt}
theorem p_vb {x : Int32} : zpc (fX9_vramByte σ x) (fun r => r = (σ, vb σ x)) := by
  unfold fX9_vramByte
  exact zpc_ck (zpc_some rfl)
theorem z_v14 (x : Int32) : (x &&& 16383).toNatClampNeg < 16384 := by
  have r := z_r14 x
  have := z_clamp r.1
  have := r.2
  omega
theorem p_v8 (h : zE σ μ) (e : t.1 7 = μ.1 7) {x : Int32} : zpc (fX12_video8 t x) (fun r => r = (t, vb σ x)) := by
  unfold fX12_video8
  refine zpc_ck (zpc_some ?_)
  show (t, t.1 7 (x &&& 16383).toNatClampNeg &&& 255) = _
  rw [e, z_vr h (z_v14 x)]
  rfl
theorem vb_r (h : zE σ μ) (x : Int32) : zr 0 255 (vb σ x) := by
  unfold vb
  rw [← z_vr h (z_v14 x)]
  exact z_r8 _
theorem vb_of (e : s.1 21 = σ.1 21) (x : Int32) : vb s x = vb σ x := by
  unfold vb
  rw [e]
theorem p_numC {x p : Int32} : zpc (fX3_numberIn σ x p) (fun r => r = (σ, nIn x p)) := by
  unfold fX3_numberIn
  exact zpc_bv (fun v e => zpc_some (by rw [e]; rfl))
/-- four bytes -/
noncomputable def gPl (σ : zSt) (x : Int32) : Int32 := pl4 (vb σ x) (vb σ (x + 1)) (vb σ (x + 2)) (vb σ (x + 3))
noncomputable def gTd (σ : zSt) (x p : Int32) : Int32 := tIn (vb σ x) (vb σ (x + 1)) (vb σ (x + 2)) (vb σ (x + 3)) p
theorem z_gnum (h : zE σ μ) {x p : Int32} (hp : zr 0 7 p) : nIn (gPl σ x) p = gTd σ x p ∧ zr 0 15 (gTd σ x p) := z_nIn (vb_r h _) (vb_r h _) (vb_r h _) (vb_r h _) hp
theorem p_planes {x : Int32} : zpc (fX3_takePlanes σ x) (fun r => r = zsi σ 3 7 (gPl σ x)) := by
  unfold fX3_takePlanes
  refine zpc_bi p_vb (fun s v e => ?_)
  cases e
  refine zpc_bi p_vb (fun s v e => ?_)
  cases e
  refine zpc_bi p_vb (fun s v e => ?_)
  cases e
  refine zpc_bi p_vb (fun s v e => ?_)
  cases e
  exact zpc_bv (fun s e => zpc_some (by rw [e]; rfl))
/-- a dot of a tile -/
theorem p_tdot (h : zE σ μ) (e : t.1 7 = μ.1 7) {x1 x2 x3 : Int32} : zpc (fX12_tileDot t x1 x2 x3) (fun r => r = (t, gTd σ ((32 * x1) + (4 * x3)) x2)) := by
  unfold fX12_tileDot
  show zpc (fX12_tileDot_6_body (fX12_tileDot_6 1999999) t x1 x2 x3 0 0) _
  unfold fX12_tileDot_6_body
  refine zpc_if (fun q => absurd q (by decide)) (fun _ => zpc_bi (p_v8 h e) (fun s v es => zpc_bv (fun v3 e3 => zpc_bv (fun v4 e4 => ?_))))
  cases es
  subst e4
  show zpc (fX12_tileDot_6_body (fX12_tileDot_6 1999998) t x1 x2 x3 v3 (0 + 1)) _
  unfold fX12_tileDot_6_body
  refine zpc_if (fun q => absurd q (by decide)) (fun _ => zpc_bi (p_v8 h e) (fun s v es => zpc_bv (fun w3 f3 => zpc_bv (fun v4 e4 => ?_))))
  cases es
  subst e4
  show zpc (fX12_tileDot_6_body (fX12_tileDot_6 1999997) t x1 x2 x3 w3 (0 + 1 + 1)) _
  unfold fX12_tileDot_6_body
  refine zpc_if (fun q => absurd q (by decide)) (fun _ => zpc_bi (p_v8 h e) (fun s v es => zpc_bv (fun y3 g3 => zpc_bv (fun v4 e4 => ?_))))
  cases es
  subst e4
  show zpc (fX12_tileDot_6_body (fX12_tileDot_6 1999996) t x1 x2 x3 y3 (0 + 1 + 1 + 1)) _
  unfold fX12_tileDot_6_body
  refine zpc_if (fun q => absurd q (by decide)) (fun _ => zpc_bi (p_v8 h e) (fun s v es => zpc_bv (fun z3 h3 => zpc_bv (fun v4 e4 => ?_))))
  cases es
  subst e4
  show zpc (fX12_tileDot_6_body (fX12_tileDot_6 1999995) t x1 x2 x3 z3 (0 + 1 + 1 + 1 + 1)) _
  unfold fX12_tileDot_6_body
  refine zpc_if (fun _ => zpc_some ?_) (fun q => absurd (by decide) q)
  rw [h3, g3, f3, e3]
  have a0 : (32 * x1 + 4 * x3) + 0 = 32 * x1 + 4 * x3 := Int32.add_zero _
  rw [a0]
  rfl
end ZVB
end ZJN42
section ZJN43
/-! THE PAINTER, 2: TILES -/
theorem z_ofI {i : Nat} (h : i < 100000) : (Int32.ofNat i).toInt = i := Int32.toInt_ofNat_of_lt (by omega)
theorem z_ofC {i : Nat} (h : i < 100000) : (Int32.ofNat i).toNatClampNeg = i := by
  have e := z_ofI h
  have k := z_clamp (x := Int32.ofNat i) (by omega)
  omega
theorem z_ofS {i : Nat} (h : i < 100000) : Int32.ofNat i + 1 = Int32.ofNat (i + 1) := by
  have e := z_ofI h
  refine z_ofN ?_
  have t := z_tadd (x := Int32.ofNat i) (y := 1) (a := 0) (b := 100000) (c := 1) (d := 1) ⟨by omega, by omega⟩ (zr_c (by decide)) (by decide)
  rw [t, e, show (1 : Int32).toInt = 1 from rfl]
  omega
theorem z_ofL {i : Nat} {c : Int32} {k : Nat} (h : i < 100000) (hc : c.toInt = k) : c ≤ Int32.ofNat i ↔ k ≤ i := by
  rw [Int32.le_iff_toInt_le, z_ofI h, hc]
  omega
theorem z_ofr {i : Nat} {b : Int} (h : i < 100000) (hb : (i : Int) ≤ b) : zr 0 b (Int32.ofNat i) := ⟨by rw [z_ofI h]; omega, by rw [z_ofI h]; exact hb⟩
section ZT2
variable {σ μ s t : zSt}
theorem p_held {x : Int32} (hx : zr 0 95 x) : zpc (fX9_held s x) (fun r => r = (s, s.1 23 x.toNatClampNeg)) := by
  unfold fX9_held fX9_held_20
  exact zpc_if (fun q => absurd q (zq_lt hx rfl (by decide))) (fun _ => zpc_if (fun q => absurd q (zq_gef hx rfl (by decide))) (fun _ => zpc_ck (zpc_some rfl)))
theorem p_reg {x : Int32} : zpc (fX12_reg t x) (fun r => r = (t, t.1 3 (47 + x).toNatClampNeg)) := by
  unfold fX12_reg
  exact zpc_ck (zpc_some rfl)
/-- what the painter may touch -/
noncomputable def zdC (σ s : zSt) : Prop := zQ [25, 27, 28, 29] [(3, 7, 8), (23, 15, 15)] [] [] σ s
noncomputable def zdM (μ t : zSt) : Prop := zQ [22, 23, 24, 25, 9] [(3, 62, 62)] [] [] μ t
theorem zdC.v (h : zdC σ s) : s.1 21 = σ.1 21 := zQ.ro h (k := 21) rfl
theorem zdC.r (h : zdC σ s) {j : Nat} (hj : j ≤ 14) : s.1 23 j = σ.1 23 j := zQ.o h (k := 23) (a := 0) (b := 14) rfl (by omega) hj
theorem zdC.r2 (h : zdC σ s) {j : Nat} (h1 : 16 ≤ j) (h2 : j ≤ 95) : s.1 23 j = σ.1 23 j := zQ.o h (k := 23) (a := 16) (b := 95) rfl h1 h2
theorem zdM.v (h : zdM μ t) : t.1 7 = μ.1 7 := zQ.ro h (k := 7) rfl
theorem zdM.r (h : zdM μ t) {j : Nat} (hj : j ≤ 61) : t.1 3 j = μ.1 3 j := zQ.o h (k := 3) (a := 0) (b := 61) rfl (by omega) hj
theorem zdM.r2 (h : zdM μ t) {j : Nat} (h1 : 63 ≤ j) (h2 : j ≤ 1047) : t.1 3 j = μ.1 3 j := zQ.o h (k := 3) (a := 63) (b := 1047) rfl h1 h2
/-- a tile's word -/
noncomputable def gTb (σ : zSt) (x : Int32) : Int32 := vb σ x ||| (vb σ (x + 1) <<< ((8 : Int32) &&& 31))
noncomputable def tRw (w row : Int32) : Int32 := if w &&& 1024 = 0 then row &&& 7 else 7 - (row &&& 7)
noncomputable def tAd (w row : Int32) : Int32 := (32 * (w &&& 511)) + (4 * tRw w row)
noncomputable def tPc (w col : Int32) : Int32 := if w &&& 512 = 0 then col &&& 7 else 7 - (col &&& 7)
noncomputable def tCo (a i : Int32) : Int32 := (i - a) &&& 255
noncomputable def tRo (st d L i : Int32) : Int32 := if st = 0 then d else if i < 192 then d else L
noncomputable def tBi (σ : zSt) (nm a st d L i : Int32) : Int32 := gTb σ ((nm + (2 * ((tCo a i) >>> ((3 : Int32) &&& 31)))) + (64 * ((tRo st d L i) >>> ((3 : Int32) &&& 31))))
noncomputable def tNu (σ : zSt) (nm a st d L i : Int32) : Int32 := gTd σ (tAd (tBi σ nm a st d L i) (tRo st d L i)) (tPc (tBi σ nm a st d L i) (tCo a i))
noncomputable def o16 (w : Int32) : Int32 := if w &&& 2048 = 0 then 0 else 16
noncomputable def oAh (n w : Int32) : Int32 := if n ≤ 0 then 0 else if w &&& 4096 = 0 then 0 else 1
noncomputable def oC (n w : Int32) : Int32 := (n + o16 w) + (if oAh n w = 0 then 0 else 256)
theorem p_take {x1 x2 : Int32} : zpc (fX3_takeTile s x1 x2) (fun r => r = zsi (zsi s 3 8 (gTb s (x1 + (64 * (x2 >>> ((3 : Int32) &&& 31)))))) 3 7 (gPl s (tAd (gTb s (x1 + (64 * (x2 >>> ((3 : Int32) &&& 31))))) x2))) := by
  unfold fX3_takeTile
  refine zpc_bv (fun v2 e2 => zpc_bi p_vb (fun s1 v e => ?_))
  cases e
  refine zpc_bi p_vb (fun s1 v e => zpc_bv (fun s7 e7 => ?_))
  cases e
  subst e2
  have e7 : s7 = zsi s 3 8 (gTb s (x1 + (64 * (x2 >>> ((3 : Int32) &&& 31))))) := e7
  obtain ⟨w, ew⟩ : ∃ w, w = gTb s (x1 + (64 * (x2 >>> ((3 : Int32) &&& 31)))) := ⟨_, rfl⟩
  rw [← ew] at e7
  rw [← ew]
  have c8 : zgi s7 3 8 = w := by rw [e7]; exact zsi_ej
  rw [c8]
  have go : ∀ y, y = tRw w x2 → zpc (fX3_takeTile_60 s7 y) (fun r => r = zsi (zsi s 3 8 w) 3 7 (gPl s (tAd w x2))) := fun y ey => by
    unfold fX3_takeTile_60
    rw [c8]
    refine zpc_bu p_planes (fun s8 e8 => zpc_some ?_)
    rw [e8, ey, e7]
    rfl
  refine zpc_if (fun q => go _ ?_) (fun q => go _ ?_)
  · unfold tRw; rw [if_pos q]
  · unfold tRw; rw [if_neg q]
noncomputable abbrev zK7 := zSt → Int32 → Int32 → Int32 → Int32 → Int32 → Int32 → Option zSt
/-- the class: one dot, its tile at hand -/
theorem c_215 {k : zK7} {Q : zSt → Prop} {L nm a d st i v w row : Int32} (h : zE σ μ) (hw : s.1 3 8 = w) (hp : s.1 3 7 = gPl σ (tAd w row)) (K : zpc (k (zsi s 27 i.toNatClampNeg (oC (gTd σ (tAd w row) (tPc w v)) w)) L nm a d st (i + 1)) Q) : zpc (fX3_drawTiles_215 k s L nm a d st i v) Q := by
  have l316 : ∀ x y : Int32, y + x = oC (gTd σ (tAd w row) (tPc w v)) w → zpc (fX3_drawTiles_316 k s L nm a d st i x y i) Q := fun x y e => by
    unfold fX3_drawTiles_316
    refine zpc_ck (zpc_bv (fun s1 e1 => zpc_bv (fun v1 ev => ?_)))
    rw [ev, e1, e]
    exact K
  have rp : zr 0 7 (tPc w v) := by
    have r7 : zr 0 7 (v &&& 7) := zr_andr (lo := 0) (hi := 7) (zr_c (lo := 7) (hi := 7) (by decide)) (by decide)
    unfold tPc
    by_cases q : w &&& 512 = 0
    · rw [if_pos q]; exact r7
    · rw [if_neg q]; exact zr_sub (lo := 0) (hi := 7) (zr_c (lo := 7) (hi := 7) (x := 7) (by decide)) r7 (by decide)
  obtain ⟨N, eN⟩ : ∃ N, N = gTd σ (tAd w row) (tPc w v) := ⟨_, rfl⟩
  rw [← eN] at l316
  have l303 : ∀ x13, x13 = oAh N w → zpc (fX3_drawTiles_276 k s L nm a d st i N x13) Q := fun x13 e => by
    unfold fX3_drawTiles_276 fX3_drawTiles_303
    rw [show zgi s 3 8 = w from hw]
    unfold oC at l316
    refine zpc_if (fun q => zpc_if (fun q2 => l316 _ _ ?_) (fun q2 => l316 _ _ ?_)) (fun q => zpc_if (fun q2 => l316 _ _ ?_) (fun q2 => l316 _ _ ?_))
    · rw [e] at q2; rw [if_pos q2]; unfold o16; rw [if_pos q]
    · rw [e] at q2; rw [if_neg q2]; unfold o16; rw [if_pos q]
    · rw [e] at q2; rw [if_pos q2]; unfold o16; rw [if_neg q]
    · rw [e] at q2; rw [if_neg q2]; unfold o16; rw [if_neg q]
  have l242 : ∀ y, y = tPc w v → zpc (fX3_drawTiles_242 k s L nm a d st i y) Q := fun y e => by
    unfold fX3_drawTiles_242 fX3_drawTiles_275
    refine zpc_bi p_numC (fun s1 v1 e1 => ?_)
    cases e1
    have en : nIn (zgi s 3 7) y = N := by
      rw [show zgi s 3 7 = gPl σ (tAd w row) from hp, e, eN]
      exact (z_gnum h rp).1
    rw [en, show zgi s 3 8 = w from hw]
    refine zpc_if (fun q => l303 0 ?_) (fun q => zpc_if (fun q2 => l303 0 ?_) (fun q2 => l303 1 ?_))
    · unfold oAh; rw [if_pos q]
    · unfold oAh; rw [if_neg q, if_pos q2]
    · unfold oAh; rw [if_neg q, if_neg q2]
  unfold fX3_drawTiles_215
  rw [show zgi s 3 8 = w from hw]
  refine zpc_if (fun q => l242 _ ?_) (fun q => l242 _ ?_)
  · unfold tPc; rw [if_pos q]
  · unfold tPc; rw [if_neg q]
theorem v_col : ∀ c : Fin 256, ¬ ((Int32.ofNat c.val + 1) &&& 255) &&& 7 = 0 → ((Int32.ofNat c.val + 1) &&& 255) >>> ((3 : Int32) &&& 31) = (Int32.ofNat c.val) >>> ((3 : Int32) &&& 31) := by decide +kernel
theorem z_and8 {x y : Int32} : ((x &&& 255) + y) &&& 255 = (x + y) &&& 255 := by
  refine z_and255 (fun i hi => ?_)
  have Z : ∀ X Y : Nat, (X % 2 ^ 8 + Y) % 2 ^ 32 / 2 ^ i % 2 = (X + Y) % 2 ^ 32 / 2 ^ i % 2 := fun X Y => by
    rcases (show i = 0 ∨ i = 1 ∨ i = 2 ∨ i = 3 ∨ i = 4 ∨ i = 5 ∨ i = 6 ∨ i = 7 by omega) with h | h | h | h | h | h | h | h <;> subst h <;> omega
  rw [Int32.toBitVec_add, Int32.toBitVec_add, Int32.toBitVec_and, ← BitVec.testBit_toNat, ← BitVec.testBit_toNat, BitVec.toNat_add, BitVec.toNat_add, BitVec.toNat_and]
  have e : (255 : Int32).toBitVec.toNat = 2 ^ 8 - 1 := rfl
  rw [e, Nat.and_two_pow_sub_one_eq_mod, Nat.testBit_eq_decide_div_mod_eq, Nat.testBit_eq_decide_div_mod_eq, Z]
/-- the next dot lies in the same tile -/
theorem z_same {a i : Int32} (q : ¬ (tCo a (i + 1)) &&& 7 = 0) : (tCo a (i + 1)) >>> ((3 : Int32) &&& 31) = (tCo a i) >>> ((3 : Int32) &&& 31) := by
  have e0 : (i - a) + 1 = (i + 1) - a := by rw [Int32.sub_eq_add_neg, Int32.sub_eq_add_neg, Int32.add_assoc, Int32.add_assoc, Int32.add_comm (-a) 1]
  have e : tCo a (i + 1) = ((tCo a i) + 1) &&& 255 := by
    unfold tCo
    rw [z_and8, e0]
  have r : zr 0 255 (tCo a i) := z_r8 _
  obtain ⟨c, ec⟩ := z_byteF r
  rw [e, ec] at q ⊢
  exact v_col c q
/-- the class's loop over a line's tiles -/
theorem c_143 {L nm a d st : Int32} {o : zSt} (h : zE σ μ) : ∀ (n i : Nat) (s : zSt), i ≤ 256 → zdC σ s → s.1 25 = o.1 25 → s.1 23 = o.1 23 → (∀ j : Nat, j < i → s.1 27 j = oC (tNu σ nm a st d L (Int32.ofNat j)) (tBi σ nm a st d L (Int32.ofNat j))) → (1 ≤ i → s.1 3 8 = tBi σ nm a st d L (Int32.ofNat (i - 1)) ∧ s.1 3 7 = gPl σ (tAd (tBi σ nm a st d L (Int32.ofNat (i - 1))) (tRo st d L (Int32.ofNat (i - 1))))) → zpc (fX3_drawTiles_143 n s L nm a d st (Int32.ofNat i)) (fun r => (zdC σ r ∧ r.1 25 = o.1 25 ∧ r.1 23 = o.1 23) ∧ ∀ j : Nat, j < 256 → r.1 27 j = oC (tNu σ nm a st d L (Int32.ofNat j)) (tBi σ nm a st d L (Int32.ofNat j))) := by
  intro n
  induction n with
  | zero => intro i s _ _ _ _ _ _; exact zpc_none
  | succ n ih =>
    intro i s hi hd e25 e23 hin hca
    show zpc (fX3_drawTiles_143_body (fX3_drawTiles_143 n) s L nm a d st (Int32.ofNat i)) _
    unfold fX3_drawTiles_143_body
    refine zpc_if (fun q => zpc_some ?_) (fun q => ?_)
    · have := (z_ofL (k := 256) (by omega) rfl).mp q
      exact ⟨⟨hd, e25, e23⟩, fun j hj => hin j (by omega)⟩
    have hi2 : i < 256 := by
      have : ¬ 256 ≤ i := fun z => q ((z_ofL (c := 256) (k := 256) (i := i) (by omega) rfl).mpr z)
      omega
    obtain ⟨w, ew⟩ : ∃ w, w = tBi σ nm a st d L (Int32.ofNat i) := ⟨_, rfl⟩
    have fin : ∀ s1 : zSt, zdC σ s1 → s1.1 27 = s.1 27 → s1.1 25 = s.1 25 → s1.1 23 = s.1 23 → s1.1 3 8 = w → s1.1 3 7 = gPl σ (tAd w (tRo st d L (Int32.ofNat i))) → zpc (fX3_drawTiles_215 (fX3_drawTiles_143 n) s1 L nm a d st (Int32.ofNat i) (tCo a (Int32.ofNat i))) (fun r => (zdC σ r ∧ r.1 25 = o.1 25 ∧ r.1 23 = o.1 23) ∧ ∀ j : Nat, j < 256 → r.1 27 j = oC (tNu σ nm a st d L (Int32.ofNat j)) (tBi σ nm a st d L (Int32.ofNat j))) := fun s1 q1 q2 qa qb q3 q4 => by
      refine c_215 h q3 q4 ?_
      rw [z_ofS (by omega), z_ofC (by omega)]
      refine ih (i + 1) _ (by omega) (zQ.wi q1 rfl) (by rw [zsi_ne (by decide), qa]; exact e25) (by rw [zsi_ne (by decide), qb]; exact e23) (fun j hj => ?_) (fun _ => ?_)
      · by_cases z : j = i
        · subst z
          rw [zsi_ej, ew]
          rfl
        · rw [zsi_nj z, q2]
          exact hin j (by omega)
      · rw [show i + 1 - 1 = i by omega, zsi_ne (by decide), q3, q4, ew]
        exact ⟨rfl, rfl⟩
    have take : zpc (fX3_drawTiles_183 (fX3_drawTiles_143 n) s L nm a d st (Int32.ofNat i) (tCo a (Int32.ofNat i))) (fun r => (zdC σ r ∧ r.1 25 = o.1 25 ∧ r.1 23 = o.1 23) ∧ ∀ j : Nat, j < 256 → r.1 27 j = oC (tNu σ nm a st d L (Int32.ofNat j)) (tBi σ nm a st d L (Int32.ofNat j))) := by
      have g : ∀ y, y = tRo st d L (Int32.ofNat i) → zpc (fX3_drawTiles_212 (fX3_drawTiles_143 n) s L nm a d st (Int32.ofNat i) (tCo a (Int32.ofNat i)) y (nm + (2 * ((tCo a (Int32.ofNat i)) >>> ((3 : Int32) &&& 31))))) (fun r => (zdC σ r ∧ r.1 25 = o.1 25 ∧ r.1 23 = o.1 23) ∧ ∀ j : Nat, j < 256 → r.1 27 j = oC (tNu σ nm a st d L (Int32.ofNat j)) (tBi σ nm a st d L (Int32.ofNat j))) := fun y ey => by
        unfold fX3_drawTiles_212
        refine zpc_bu p_take (fun s1 e1 => ?_)
        have v := hd.v
        have eT : ∀ x, gTb s x = gTb σ x := fun x => by unfold gTb; rw [vb_of v, vb_of v]
        have eP : ∀ x, gPl s x = gPl σ x := fun x => by unfold gPl; rw [vb_of v, vb_of v, vb_of v, vb_of v]
        rw [eT, eP, ey] at e1
        have e1 : s1 = zsi (zsi s 3 8 w) 3 7 (gPl σ (tAd w (tRo st d L (Int32.ofNat i)))) := by rw [e1, ew]; rfl
        refine fin s1 ?_ ?_ ?_ ?_ ?_ ?_
        · rw [e1]; exact zQ.wi (zQ.wi hd rfl) rfl
        · rw [e1, zsi_ne (by decide), zsi_ne (by decide)]
        · rw [e1, zsi_ne (by decide), zsi_ne (by decide)]
        · rw [e1, zsi_ne (by decide), zsi_ne (by decide)]
        · rw [e1, zsi_nj (by decide)]; exact zsi_ej
        · rw [e1]; exact zsi_ej
      unfold fX3_drawTiles_183 fX3_drawTiles_210
      refine zpc_if (fun z => g _ ?_) (fun z => zpc_if (fun y => g _ ?_) (fun y => g _ ?_))
      · unfold tRo; rw [if_pos z]
      · unfold tRo; rw [if_neg z, if_pos y]
      · unfold tRo; rw [if_neg z, if_neg y]
    refine zpc_bv (fun v6 e6 => ?_)
    have e6 : v6 = tCo a (Int32.ofNat i) := e6
    subst e6
    refine zpc_if (fun _ => take) (fun n0 => zpc_if (fun _ => take) (fun n192 => zpc_if (fun _ => take) (fun n7 => ?_)))
    have hi0 : 1 ≤ i := by
      have : ¬ i = 0 := fun z => n0 (by rw [z]; rfl)
      omega
    have hi1 : ¬ i = 192 := fun z => n192 (by rw [z]; rfl)
    obtain ⟨j, ej⟩ : ∃ j, i = j + 1 := ⟨i - 1, by omega⟩
    subst ej
    obtain ⟨c1, c2⟩ := hca hi0
    rw [show j + 1 - 1 = j by omega] at c1 c2
    have er : tRo st d L (Int32.ofNat (j + 1)) = tRo st d L (Int32.ofNat j) := by
      unfold tRo
      have z : Int32.ofNat (j + 1) < 192 ↔ Int32.ofNat j < 192 := by
        rw [Int32.lt_iff_toInt_lt, Int32.lt_iff_toInt_lt, z_ofI (by omega), z_ofI (by omega), show (192 : Int32).toInt = 192 from rfl]
        omega
      by_cases y : st = 0
      · rw [if_pos y, if_pos y]
      · rw [if_neg y, if_neg y]
        by_cases x : Int32.ofNat j < 192
        · rw [if_pos x, if_pos (z.mpr x)]
        · rw [if_neg x, if_neg (fun r => x (z.mp r))]
    have ec : (tCo a (Int32.ofNat (j + 1))) >>> ((3 : Int32) &&& 31) = (tCo a (Int32.ofNat j)) >>> ((3 : Int32) &&& 31) := by
      rw [← z_ofS (by omega)] at n7 ⊢
      exact z_same n7
    have eb : w = tBi σ nm a st d L (Int32.ofNat j) := by
      rw [ew]
      unfold tBi
      rw [er, ec]
    refine fin s hd rfl rfl rfl (c1.trans eb.symm) ?_
    rw [c2, eb, er]
end ZT2
end ZJN43
section ZJN44
/-! THE PAINTER, 3: THE REFERENCE'S TILES -/
noncomputable def tNm (σ : zSt) : Int32 := if zht (σ.1 23 0) (σ.1 23 1) = 192 then 1024 * (σ.1 23 2 &&& 14) else (4096 * ((σ.1 23 2 >>> ((2 : Int32) &&& 31)) &&& 3)) + 1792
noncomputable def tAc (σ : zSt) (L : Int32) : Int32 := if 16 ≤ L then σ.1 23 8 else if σ.1 23 0 &&& 64 = 0 then σ.1 23 8 else 0
noncomputable def tDn (σ : zSt) (L : Int32) : Int32 := zrem (L + σ.1 23 19) (if zht (σ.1 23 0) (σ.1 23 1) = 192 then 224 else 256)
noncomputable def tSt (σ : zSt) : Int32 := if σ.1 23 0 &&& 128 = 0 then 0 else 1
theorem v_d8 : ∀ c : Fin 256, Int32.ofNat c.val / 8 = Int32.ofNat c.val >>> ((3 : Int32) &&& 31) ∧ zrem (Int32.ofNat c.val) 8 = Int32.ofNat c.val &&& 7 := by decide +kernel
theorem z_d8 {x : Int32} (h : zr 0 255 x) : x / 8 = x >>> ((3 : Int32) &&& 31) ∧ zrem x 8 = x &&& 7 := by
  obtain ⟨c, e⟩ := z_byteF h
  rw [e]
  exact v_d8 c
theorem v_nm : ∀ c : Fin 256, 1024 * ((zrem (Int32.ofNat c.val) 16) &&& 14) = 1024 * (Int32.ofNat c.val &&& 14) ∧ (4096 * (zrem (Int32.ofNat c.val / 4) 4)) + 1792 = (4096 * ((Int32.ofNat c.val >>> ((2 : Int32) &&& 31)) &&& 3)) + 1792 := by decide +kernel
theorem z_nm {x : Int32} (h : zr 0 255 x) : 1024 * ((zrem x 16) &&& 14) = 1024 * (x &&& 14) ∧ (4096 * (zrem (x / 4) 4)) + 1792 = (4096 * ((x >>> ((2 : Int32) &&& 31)) &&& 3)) + 1792 := by
  obtain ⟨c, e⟩ := z_byteF h
  rw [e]
  exact v_nm c
section ZT3
variable {σ μ s t : zSt}
theorem zVe.rj (h : zVe σ μ) {j : Nat} (hj : j ≤ 10) : zr 0 255 (σ.1 23 j) := h.2.1.at (zg_23r ⟨j, by omega⟩)
theorem zVe.ej (h : zVe σ μ) (hd : zdM μ t) {j : Nat} (hj : j ≤ 14) : t.1 3 (47 + j) = σ.1 23 j := by
  have p := z_pn23_0 (d := j) (by omega)
  rw [Nat.zero_add] at p
  rw [hd.r (by omega)]
  exact h.1.e p
theorem zVe.e19 (h : zVe σ μ) : μ.1 3 65 = σ.1 23 19 := h.1.e (z_pn23_18 (d := 1) (by decide))
theorem tDn_r (h : zVe σ μ) {L : Int32} (hL : zr 0 239 L) : zr 0 255 (tDn σ L) := by
  have r19 : zr 0 255 (σ.1 23 19) := h.2.1.at (k := 23) (j := 19) rfl
  have ra : zr 0 494 (L + σ.1 23 19) := zr_add hL r19 (by decide)
  unfold tDn
  by_cases q : zht (σ.1 23 0) (σ.1 23 1) = 192
  · rw [if_pos q]
    have e := z_trem 224 (y := 224) rfl ra (by decide)
    exact ⟨by rw [e]; exact Int.emod_nonneg _ (by decide), by rw [e]; have := Int.emod_lt_of_pos (L + σ.1 23 19).toInt (b := 224) (by decide); omega⟩
  · rw [if_neg q]
    have e := z_trem 256 (y := 256) rfl ra (by decide)
    exact ⟨by rw [e]; exact Int.emod_nonneg _ (by decide), by rw [e]; have := Int.emod_lt_of_pos (L + σ.1 23 19).toInt (b := 256) (by decide); omega⟩
theorem tRo_r {st d L i : Int32} (hd : zr 0 255 d) (hL : zr 0 239 L) : zr 0 255 (tRo st d L i) := by
  unfold tRo
  by_cases q : st = 0
  · rw [if_pos q]; exact hd
  · rw [if_neg q]
    by_cases p : i < 192
    · rw [if_pos p]; exact hd
    · rw [if_neg p]; exact zr_w hL (by decide)
/-- the reference's dot of a tile's row -/
theorem m_141 (h : zVe σ μ) (hd : zdM μ t) {x nm c R : Int32} (rc : zr 0 255 c) (rR : zr 0 255 R) : zpc (fX12_tile_141 t x nm c R) (fun r => r = zsi (zsi t 22 x.toNatClampNeg (gTd σ (tAd (gTb σ ((nm + (2 * (c >>> ((3 : Int32) &&& 31)))) + (64 * (R >>> ((3 : Int32) &&& 31))))) R) (tPc (gTb σ ((nm + (2 * (c >>> ((3 : Int32) &&& 31)))) + (64 * (R >>> ((3 : Int32) &&& 31))))) c) + o16 (gTb σ ((nm + (2 * (c >>> ((3 : Int32) &&& 31)))) + (64 * (R >>> ((3 : Int32) &&& 31))))))) 23 x.toNatClampNeg (oAh (gTd σ (tAd (gTb σ ((nm + (2 * (c >>> ((3 : Int32) &&& 31)))) + (64 * (R >>> ((3 : Int32) &&& 31))))) R) (tPc (gTb σ ((nm + (2 * (c >>> ((3 : Int32) &&& 31)))) + (64 * (R >>> ((3 : Int32) &&& 31))))) c)) (gTb σ ((nm + (2 * (c >>> ((3 : Int32) &&& 31)))) + (64 * (R >>> ((3 : Int32) &&& 31))))))) := by
  obtain ⟨A, eA⟩ : ∃ A, A = (nm + (2 * (c >>> ((3 : Int32) &&& 31)))) + (64 * (R >>> ((3 : Int32) &&& 31))) := ⟨_, rfl⟩
  rw [← eA]
  obtain ⟨w, ew⟩ : ∃ w, w = gTb σ A := ⟨_, rfl⟩
  rw [← ew]
  unfold fX12_tile_141
  rw [(z_d8 rc).1, (z_d8 rc).2, (z_d8 rR).1, show (nm + (64 * (R >>> ((3 : Int32) &&& 31)))) + (2 * (c >>> ((3 : Int32) &&& 31))) = A by rw [eA, Int32.add_assoc, Int32.add_assoc, Int32.add_comm (64 * (R >>> ((3 : Int32) &&& 31)))]]
  refine zpc_ck (zpc_ck (zpc_bv (fun v5 e5 => zpc_bi (p_v8 h.1 hd.v) (fun t1 v e => ?_))))
  cases e
  subst e5
  refine zpc_bi (p_v8 h.1 hd.v) (fun t1 v e => zpc_bv (fun v10 e10 => ?_))
  cases e
  have e10 : v10 = w := by rw [e10, ew]; rfl
  subst e10
  obtain ⟨N, eN⟩ : ∃ N, N = gTd σ (tAd v10 R) (tPc v10 c) := ⟨_, rfl⟩
  rw [← eN]
  have l302 : ∀ y : Int32, ∀ t1 : zSt, vp_nar .boolean y = oAh N v10 → t1 = zsi t 22 x.toNatClampNeg (N + o16 v10) → zpc (fX12_tile_302 t1 y x) (fun r => r = zsi (zsi t 22 x.toNatClampNeg (N + o16 v10)) 23 x.toNatClampNeg (oAh N v10)) := fun y t1 e1 e2 => by
    unfold fX12_tile_302
    exact zpc_ck (zpc_bv (fun t2 g2 => zpc_some (by rw [g2, e1, e2])))
  have l276 : ∀ y : Int32, y = o16 v10 → zpc (fX12_tile_276 t x v10 N y N x) (fun r => r = zsi (zsi t 22 x.toNatClampNeg (N + o16 v10)) 23 x.toNatClampNeg (oAh N v10)) := fun y ey => by
    unfold fX12_tile_276 fX12_tile_301
    refine zpc_ck (zpc_bv (fun t1 g1 => ?_))
    rw [ey] at g1
    refine zpc_if (fun q => l302 0 t1 ?_ g1) (fun q => zpc_if (fun q2 => l302 0 t1 ?_ g1) (fun q2 => l302 1 t1 ?_ g1))
    · unfold oAh; rw [if_pos q]; rfl
    · unfold oAh; rw [if_neg q, if_pos q2]; rfl
    · unfold oAh; rw [if_neg q, if_neg q2]; rfl
  have l236 : ∀ y z : Int32, y = tPc v10 c → z = tRw v10 R → zpc (fX12_tile_236 t x v10 y z) (fun r => r = zsi (zsi t 22 x.toNatClampNeg (N + o16 v10)) 23 x.toNatClampNeg (oAh N v10)) := fun y z ey ez => by
    unfold fX12_tile_236
    refine zpc_bi (p_tdot h.1 hd.v) (fun t1 v e => ?_)
    cases e
    rw [show gTd σ ((32 * (v10 &&& 511)) + (4 * z)) y = N by rw [eN, ey, ez]; rfl]
    refine zpc_if (fun q => l276 0 ?_) (fun q => l276 16 ?_)
    · unfold o16; rw [if_pos q]
    · unfold o16; rw [if_neg q]
  have l209 : ∀ y : Int32, y = tPc v10 c → zpc (fX12_tile_209 t x R v10 y) (fun r => r = zsi (zsi t 22 x.toNatClampNeg (N + o16 v10)) 23 x.toNatClampNeg (oAh N v10)) := fun y ey => by
    unfold fX12_tile_209
    rw [(z_d8 rR).2]
    refine zpc_if (fun q => zpc_ck (l236 _ _ ey ?_)) (fun q => zpc_ck (l236 _ _ ey ?_))
    · unfold tRw; rw [if_pos q]
    · unfold tRw; rw [if_neg q]
  refine zpc_if (fun q => zpc_ck (l209 _ ?_)) (fun q => zpc_ck (l209 _ ?_))
  · unfold tPc; rw [if_pos q]
  · unfold tPc; rw [if_neg q]
/-- the reference's dot -/
theorem m_tile (h : zVe σ μ) (hd : zdM μ t) {L x : Int32} (hL : zr 0 239 L) : zpc (fX12_tile t L x) (fun r => r = zsi (zsi t 22 x.toNatClampNeg (tNu σ (tNm σ) (tAc σ L) (tSt σ) (tDn σ L) L x + o16 (tBi σ (tNm σ) (tAc σ L) (tSt σ) (tDn σ L) L x))) 23 x.toNatClampNeg (oAh (tNu σ (tNm σ) (tAc σ L) (tSt σ) (tDn σ L) L x) (tBi σ (tNm σ) (tAc σ L) (tSt σ) (tDn σ L) L x))) := by
  have f0 : t.1 3 47 = σ.1 23 0 := h.ej hd (j := 0) (by decide)
  have f1 : t.1 3 48 = σ.1 23 1 := h.ej hd (j := 1) (by decide)
  have f2 : t.1 3 (47 + (2 : Int32)).toNatClampNeg = σ.1 23 2 := h.ej hd (j := 2) (by decide)
  have f8 : t.1 3 (47 + (8 : Int32)).toNatClampNeg = σ.1 23 8 := h.ej hd (j := 8) (by decide)
  have f19 : zgi t 3 (65 : Int32).toNatClampNeg = σ.1 23 19 := by
    show t.1 3 65 = _
    rw [hd.r2 (by decide) (by decide)]
    exact h.e19
  have pM := p_heightM (μ := t) (by rw [f0]; exact h.r0) (by rw [f1]; exact h.r1)
  rw [f0, f1] at pM
  have b6 := p_bit_0_6 (μ := t) (by rw [f0]; exact h.r0)
  have b7 := p_bit_0_7 (μ := t) (by rw [f0]; exact h.r0)
  rw [f0] at b6 b7
  have rd := tDn_r h hL
  have fin : ∀ R : Int32, R = tRo (tSt σ) (tDn σ L) L x → zpc (fX12_tile_141 t x (tNm σ) (tCo (tAc σ L) x) R) (fun r => r = zsi (zsi t 22 x.toNatClampNeg (tNu σ (tNm σ) (tAc σ L) (tSt σ) (tDn σ L) L x + o16 (tBi σ (tNm σ) (tAc σ L) (tSt σ) (tDn σ L) L x))) 23 x.toNatClampNeg (oAh (tNu σ (tNm σ) (tAc σ L) (tSt σ) (tDn σ L) L x) (tBi σ (tNm σ) (tAc σ L) (tSt σ) (tDn σ L) L x))) := fun R eR => by
    rw [eR]
    exact m_141 h hd (z_r8 _) (tRo_r rd hL)
  have l118 : ∀ y : Int32, (y = 0 ↔ ¬ zht (σ.1 23 0) (σ.1 23 1) = 192) → tRo (tSt σ) (tDn σ L) L x = tDn σ L → zpc (fX12_tile_118 t L x y (tNm σ) (tCo (tAc σ L) x)) (fun r => r = zsi (zsi t 22 x.toNatClampNeg (tNu σ (tNm σ) (tAc σ L) (tSt σ) (tDn σ L) L x + o16 (tBi σ (tNm σ) (tAc σ L) (tSt σ) (tDn σ L) L x))) 23 x.toNatClampNeg (oAh (tNu σ (tNm σ) (tAc σ L) (tSt σ) (tDn σ L) L x) (tBi σ (tNm σ) (tAc σ L) (tSt σ) (tDn σ L) L x))) := fun y ey er => by
    unfold fX12_tile_118 fX12_tile_140
    rw [f19]
    refine zpc_ck (zpc_if (fun q => zpc_ck (fin _ ?_)) (fun q => zpc_ck (fin _ ?_)))
    · rw [er]; unfold tDn; rw [if_neg (ey.mp q)]
    · rw [er]; unfold tDn; rw [if_pos (Decidable.byContradiction (fun z => q (ey.mpr z)))]
  have l84 : ∀ y a : Int32, (y = 0 ↔ ¬ zht (σ.1 23 0) (σ.1 23 1) = 192) → a = tAc σ L → zpc (fX12_tile_84 t L x y (tNm σ) a) (fun r => r = zsi (zsi t 22 x.toNatClampNeg (tNu σ (tNm σ) (tAc σ L) (tSt σ) (tDn σ L) L x + o16 (tBi σ (tNm σ) (tAc σ L) (tSt σ) (tDn σ L) L x))) 23 x.toNatClampNeg (oAh (tNu σ (tNm σ) (tAc σ L) (tSt σ) (tDn σ L) L x) (tBi σ (tNm σ) (tAc σ L) (tSt σ) (tDn σ L) L x))) := fun y a ey ea => by
    unfold fX12_tile_84
    refine zpc_bv (fun v ev => ?_)
    rw [ea] at ev
    have ev : v = tCo (tAc σ L) x := ev
    subst ev
    have e191 : x ≤ 191 ↔ x < 192 := by
      rw [Int32.le_iff_toInt_le, Int32.lt_iff_toInt_lt, show (191 : Int32).toInt = 191 from rfl, show (192 : Int32).toInt = 192 from rfl]
      omega
    refine zpc_if (fun q => l118 y ey ?_) (fun q => zpc_bit b7 (fun q7 => zpc_if (fun z => absurd z (by decide)) (fun _ => l118 y ey ?_)) (fun q7 => zpc_if (fun _ => fin _ ?_) (fun z => absurd rfl z)))
    · unfold tRo
      by_cases z : tSt σ = 0
      · rw [if_pos z]
      · rw [if_neg z, if_pos (e191.mp q)]
    · unfold tRo tSt
      rw [if_pos q7, if_pos rfl]
    · unfold tRo tSt
      rw [if_neg q7, if_neg (by decide), if_neg (fun z => q (e191.mpr z))]
  have l55 : ∀ y : Int32, (y = 0 ↔ ¬ zht (σ.1 23 0) (σ.1 23 1) = 192) → zpc (fX12_tile_55 t L x y (tNm σ)) (fun r => r = zsi (zsi t 22 x.toNatClampNeg (tNu σ (tNm σ) (tAc σ L) (tSt σ) (tDn σ L) L x + o16 (tBi σ (tNm σ) (tAc σ L) (tSt σ) (tDn σ L) L x))) 23 x.toNatClampNeg (oAh (tNu σ (tNm σ) (tAc σ L) (tSt σ) (tDn σ L) L x) (tBi σ (tNm σ) (tAc σ L) (tSt σ) (tDn σ L) L x))) := fun y ey => by
    unfold fX12_tile_55 fX12_tile_78
    refine zpc_if (fun q => ?_) (fun q => zpc_bit b6 (fun q6 => zpc_if (fun z => absurd z (by decide)) (fun _ => ?_)) (fun q6 => zpc_if (fun _ => l84 y 0 ey ?_) (fun z => absurd rfl z)))
    · refine zpc_bi p_reg (fun t1 v e => ?_)
      cases e
      exact l84 y _ ey (by rw [f8]; unfold tAc; rw [if_pos q])
    · refine zpc_bi p_reg (fun t1 v e => ?_)
      cases e
      exact l84 y _ ey (by rw [f8]; unfold tAc; rw [if_neg q, if_pos q6])
    · unfold tAc
      rw [if_neg q, if_neg q6]
  unfold fX12_tile
  refine zpc_bi pM (fun t1 v e => ?_)
  cases e
  unfold fX12_tile_15
  refine zpc_if (fun q => zpc_if (fun z => absurd z (by decide)) (fun _ => ?_)) (fun q => zpc_if (fun _ => ?_) (fun z => absurd rfl z))
  · refine zpc_bi p_reg (fun t1 v e => zpc_ck ?_)
    cases e
    have z := l55 1 ⟨fun z => absurd z (by decide), fun z => absurd q z⟩
    rw [f2, (z_nm (h.rj (j := 2) (by decide))).1, show 1024 * (σ.1 23 2 &&& 14) = tNm σ by unfold tNm; rw [if_pos q]]
    exact z
  · refine zpc_bi p_reg (fun t1 v e => zpc_ck (zpc_ck ?_))
    cases e
    have z := l55 0 ⟨fun _ => q, fun _ => rfl⟩
    rw [f2, (z_nm (h.rj (j := 2) (by decide))).2, show (4096 * ((σ.1 23 2 >>> ((2 : Int32) &&& 31)) &&& 3)) + 1792 = tNm σ by unfold tNm; rw [if_neg q]]
    exact z
/-- the class: the same parameters -/
theorem c_tiles (h : zVe σ μ) (hs : zdC σ s) {L : Int32} : zpc (fX3_drawTiles s L) (fun r => (zdC σ r ∧ r.1 25 = s.1 25 ∧ r.1 23 = s.1 23) ∧ ∀ j : Nat, j < 256 → r.1 27 j = oC (tNu σ (tNm σ) (tAc σ L) (tSt σ) (tDn σ L) L (Int32.ofNat j)) (tBi σ (tNm σ) (tAc σ L) (tSt σ) (tDn σ L) L (Int32.ofNat j))) := by
  have g0 : s.1 23 0 = σ.1 23 0 := hs.r (by decide)
  have g1 : s.1 23 1 = σ.1 23 1 := hs.r (by decide)
  have g2 : s.1 23 2 = σ.1 23 2 := hs.r (by decide)
  have g8 : s.1 23 8 = σ.1 23 8 := hs.r (by decide)
  have g19 : s.1 23 19 = σ.1 23 19 := hs.r2 (by decide) (by decide)
  have pC := p_heightC (σ := s) (by rw [g0]; exact h.r0) (by rw [g1]; exact h.r1)
  rw [g0, g1] at pC
  have hld : ∀ j : Int32, zr 0 95 j → zpc (fX9_held s j) (fun r => r = (s, s.1 23 j.toNatClampNeg)) := fun j hj => p_held hj
  have l138 : ∀ y nm a d : Int32, y = tSt σ → nm = tNm σ → a = tAc σ L → d = tDn σ L → zpc (fX3_drawTiles_138 s L nm a d y) (fun r => (zdC σ r ∧ r.1 25 = s.1 25 ∧ r.1 23 = s.1 23) ∧ ∀ j : Nat, j < 256 → r.1 27 j = oC (tNu σ (tNm σ) (tAc σ L) (tSt σ) (tDn σ L) L (Int32.ofNat j)) (tBi σ (tNm σ) (tAc σ L) (tSt σ) (tDn σ L) L (Int32.ofNat j))) := fun y nm a d e1 e2 e3 e4 => by
    unfold fX3_drawTiles_138
    rw [e1, e2, e3, e4]
    exact c_143 h.1 zfuel 0 s (by decide) hs rfl rfl (fun j hj => absurd hj (by omega)) (fun hj => absurd hj (by decide))
  have l96 : ∀ y nm a : Int32, (y = 0 ↔ zht (σ.1 23 0) (σ.1 23 1) = 192) → nm = tNm σ → a = tAc σ L → zpc (fX3_drawTiles_96 s L y (s.1 23 0) nm a) (fun r => (zdC σ r ∧ r.1 25 = s.1 25 ∧ r.1 23 = s.1 23) ∧ ∀ j : Nat, j < 256 → r.1 27 j = oC (tNu σ (tNm σ) (tAc σ L) (tSt σ) (tDn σ L) L (Int32.ofNat j)) (tBi σ (tNm σ) (tAc σ L) (tSt σ) (tDn σ L) L (Int32.ofNat j))) := fun y nm a ey e2 e3 => by
    unfold fX3_drawTiles_96 fX3_drawTiles_122
    refine zpc_bi (hld 19 (zr_c (by decide))) (fun s1 v e => ?_)
    cases e
    rw [show s.1 23 (19 : Int32).toNatClampNeg = σ.1 23 19 from g19, g0]
    refine zpc_if (fun q => zpc_ck (zpc_bv (fun v7 e7 => zpc_if (fun q2 => l138 _ _ _ _ ?_ e2 e3 ?_) (fun q2 => l138 _ _ _ _ ?_ e2 e3 ?_)))) (fun q => zpc_ck (zpc_bv (fun v7 e7 => zpc_if (fun q2 => l138 _ _ _ _ ?_ e2 e3 ?_) (fun q2 => l138 _ _ _ _ ?_ e2 e3 ?_))))
    · unfold tSt; rw [if_pos q2]
    · rw [e7]; unfold tDn; rw [if_pos (ey.mp q)]
    · unfold tSt; rw [if_neg q2]
    · rw [e7]; unfold tDn; rw [if_pos (ey.mp q)]
    · unfold tSt; rw [if_pos q2]
    · rw [e7]; unfold tDn; rw [if_neg (fun z => q (ey.mpr z))]
    · unfold tSt; rw [if_neg q2]
    · rw [e7]; unfold tDn; rw [if_neg (fun z => q (ey.mpr z))]
  have l68 : ∀ y nm : Int32, (y = 0 ↔ zht (σ.1 23 0) (σ.1 23 1) = 192) → nm = tNm σ → zpc (fX3_drawTiles_68 s L y (s.1 23 0) nm) (fun r => (zdC σ r ∧ r.1 25 = s.1 25 ∧ r.1 23 = s.1 23) ∧ ∀ j : Nat, j < 256 → r.1 27 j = oC (tNu σ (tNm σ) (tAc σ L) (tSt σ) (tDn σ L) L (Int32.ofNat j)) (tBi σ (tNm σ) (tAc σ L) (tSt σ) (tDn σ L) L (Int32.ofNat j))) := fun y nm ey e2 => by
    unfold fX3_drawTiles_68 fX3_drawTiles_87
    refine zpc_if (fun q => zpc_bi (hld 8 (zr_c (by decide))) (fun s1 v e => ?_)) (fun q => zpc_if (fun q2 => zpc_bi (hld 8 (zr_c (by decide))) (fun s1 v e => ?_)) (fun q2 => l96 y nm 0 ey e2 ?_))
    · cases e
      exact l96 y nm _ ey e2 (by rw [show s.1 23 (8 : Int32).toNatClampNeg = σ.1 23 8 from g8]; unfold tAc; rw [if_pos q])
    · cases e
      rw [g0] at q2
      exact l96 y nm _ ey e2 (by rw [show s.1 23 (8 : Int32).toNatClampNeg = σ.1 23 8 from g8]; unfold tAc; rw [if_neg q, if_pos q2])
    · rw [g0] at q2
      unfold tAc
      rw [if_neg q, if_neg q2]
  unfold fX3_drawTiles
  refine zpc_bi pC (fun s1 v e => ?_)
  cases e
  unfold fX3_drawTiles_18
  refine zpc_if (fun q => ?_) (fun q => ?_)
  · refine zpc_bi (hld 0 (zr_c (by decide))) (fun s1 v e => ?_)
    cases e
    refine zpc_bi (hld 2 (zr_c (by decide))) (fun s1 v e => ?_)
    cases e
    refine zpc_if (fun _ => l68 0 _ ⟨fun _ => q, fun _ => rfl⟩ ?_) (fun z => absurd rfl z)
    rw [show s.1 23 (2 : Int32).toNatClampNeg = σ.1 23 2 from g2]
    unfold tNm
    rw [if_pos q]
  · refine zpc_bi (hld 0 (zr_c (by decide))) (fun s1 v e => ?_)
    cases e
    refine zpc_bi (hld 2 (zr_c (by decide))) (fun s1 v e => ?_)
    cases e
    refine zpc_if (fun z => absurd z (by decide)) (fun _ => l68 1 _ ⟨fun z => absurd z (by decide), fun z => absurd z q⟩ ?_)
    rw [show s.1 23 (2 : Int32).toNatClampNeg = σ.1 23 2 from g2]
    unfold tNm
    rw [if_neg q]
end ZT3
end ZJN44
section ZJN45
/-! THE PAINTER, 4: LOOPS OVER A LINE -/
section ZT4
variable {σ μ s t : zSt} {O : Option zSt} {Q : zSt → zSt → Prop}
/-- the reference: a line made empty -/
theorem m_35 {L bk : Int32} {o : zSt} : ∀ (n i : Nat) (t : zSt), i ≤ 256 → zdM μ t → t.1 3 = o.1 3 → t.1 9 = o.1 9 → (∀ j : Nat, j < i → t.1 22 j = bk ∧ t.1 23 j = 0 ∧ t.1 24 j = 0 ∧ t.1 25 j = 0) → (∀ t : zSt, zdM μ t → t.1 3 = o.1 3 → t.1 9 = o.1 9 → (∀ j : Nat, j < 256 → t.1 22 j = bk ∧ t.1 23 j = 0 ∧ t.1 24 j = 0 ∧ t.1 25 j = 0) → zp2 O (zbi (fX12_bit t 1 6) (fun σ25 v26 => if v26 = 1 then zbi (fX12_mode σ25 ) (fun σ27 v28 => if v28 = 4 then fX12_draws_97 zfuel σ27 L bk 0 else fX12_draws_200 σ27 L bk) else fX12_draws_200 σ25 L bk)) Q) → zp2 O (fX12_draws_35 n t L bk (Int32.ofNat i)) Q := by
  intro n
  induction n with
  | zero => intro i t _ _ _ _ _ _; exact zp2_nr
  | succ n ih =>
    intro i t hi hd e3 e9 hin k
    show zp2 O (fX12_draws_35_body (fX12_draws_35 n) t L bk (Int32.ofNat i)) Q
    unfold fX12_draws_35_body
    refine zp2_ifr (fun q => ?_) (fun q => ?_)
    · have := (z_ofL (k := 256) (by omega) rfl).mp q
      exact k t hd e3 e9 (fun j hj => hin j (by omega))
    have hi2 : i < 256 := by
      have : ¬ 256 ≤ i := fun z => q ((z_ofL (c := 256) (k := 256) (i := i) (by omega) rfl).mpr z)
      omega
    rw [z_ofC (by omega), z_ofS (by omega)]
    refine zp2_ckr (zp2_bvr (fun t1 g1 => zp2_ckr (zp2_bvr (fun t2 g2 => zp2_ckr (zp2_bvr (fun t3 g3 => zp2_ckr (zp2_bvr (fun t4 g4 => zp2_bvr (fun v ev => ?_)))))))))
    subst ev
    have g4 : t4 = zsi (zsi (zsi (zsi t 22 i bk) 23 i 0) 24 i 0) 25 i 0 := by rw [g4, g3, g2, g1]; rfl
    refine ih (i + 1) t4 (by omega) (by rw [g4]; exact zQ.wi (zQ.wi (zQ.wi (zQ.wi hd rfl) rfl) rfl) rfl) (by rw [g4, zsi_ne (by decide), zsi_ne (by decide), zsi_ne (by decide), zsi_ne (by decide)]; exact e3) (by rw [g4, zsi_ne (by decide), zsi_ne (by decide), zsi_ne (by decide), zsi_ne (by decide)]; exact e9) (fun j hj => ?_) k
    have c22 : t4.1 22 j = (zsi t 22 i bk).1 22 j := by rw [g4, zsi_ne (by decide), zsi_ne (by decide), zsi_ne (by decide)]
    have c23 : t4.1 23 j = (zsi (zsi t 22 i bk) 23 i 0).1 23 j := by rw [g4, zsi_ne (by decide), zsi_ne (by decide)]
    have c24 : t4.1 24 j = (zsi (zsi (zsi t 22 i bk) 23 i 0) 24 i 0).1 24 j := by rw [g4, zsi_ne (by decide)]
    have c25 : t4.1 25 j = (zsi (zsi (zsi (zsi t 22 i bk) 23 i 0) 24 i 0) 25 i 0).1 25 j := by rw [g4]
    rw [c22, c23, c24, c25]
    by_cases z : j = i
    · rw [z, zsi_ej, zsi_ej, zsi_ej, zsi_ej]
      exact ⟨rfl, rfl, rfl, rfl⟩
    · rw [zsi_nj z, zsi_nj z, zsi_nj z, zsi_nj z, zsi_ne (by decide), zsi_ne (by decide), zsi_ne (by decide), zsi_ne (by decide), zsi_ne (by decide), zsi_ne (by decide)]
      exact hin j (by omega)
/-- the reference: a line's tiles -/
theorem m_97 (h : zVe σ μ) {L bk : Int32} {o : zSt} (hL : zr 0 239 L) : ∀ (n i : Nat) (t : zSt), i ≤ 256 → zdM μ t → t.1 3 = o.1 3 → t.1 9 = o.1 9 → (∀ j : Nat, j < 256 → t.1 24 j = 0 ∧ t.1 25 j = 0) → (∀ j : Nat, j < i → t.1 22 j = tNu σ (tNm σ) (tAc σ L) (tSt σ) (tDn σ L) L (Int32.ofNat j) + o16 (tBi σ (tNm σ) (tAc σ L) (tSt σ) (tDn σ L) L (Int32.ofNat j)) ∧ t.1 23 j = oAh (tNu σ (tNm σ) (tAc σ L) (tSt σ) (tDn σ L) L (Int32.ofNat j)) (tBi σ (tNm σ) (tAc σ L) (tSt σ) (tDn σ L) L (Int32.ofNat j))) → (∀ t : zSt, zdM μ t → t.1 3 = o.1 3 → t.1 9 = o.1 9 → (∀ j : Nat, j < 256 → t.1 24 j = 0 ∧ t.1 25 j = 0) → (∀ j : Nat, j < 256 → t.1 22 j = tNu σ (tNm σ) (tAc σ L) (tSt σ) (tDn σ L) L (Int32.ofNat j) + o16 (tBi σ (tNm σ) (tAc σ L) (tSt σ) (tDn σ L) L (Int32.ofNat j)) ∧ t.1 23 j = oAh (tNu σ (tNm σ) (tAc σ L) (tSt σ) (tDn σ L) L (Int32.ofNat j)) (tBi σ (tNm σ) (tAc σ L) (tSt σ) (tDn σ L) L (Int32.ofNat j))) → zp2 O (zbu (fX12_sprites t L) (fun σ22 => fX12_draws_123 zfuel σ22 L bk 0)) Q) → zp2 O (fX12_draws_97 n t L bk (Int32.ofNat i)) Q := by
  intro n
  induction n with
  | zero => intro i t _ _ _ _ _ _ _; exact zp2_nr
  | succ n ih =>
    intro i t hi hd e3 e9 h0 hin k
    show zp2 O (fX12_draws_97_body (fX12_draws_97 n) t L bk (Int32.ofNat i)) Q
    unfold fX12_draws_97_body
    refine zp2_ifr (fun q => ?_) (fun q => ?_)
    · have := (z_ofL (k := 256) (by omega) rfl).mp q
      exact k t hd e3 e9 h0 (fun j hj => hin j (by omega))
    have hi2 : i < 256 := by
      have : ¬ 256 ≤ i := fun z => q ((z_ofL (c := 256) (k := 256) (i := i) (by omega) rfl).mpr z)
      omega
    refine zp2_bur (m_tile h hd hL) (fun t1 g1 => zp2_bvr (fun v ev => ?_))
    rw [z_ofS (by omega)] at ev
    subst ev
    rw [z_ofC (by omega)] at g1
    refine ih (i + 1) t1 (by omega) (by rw [g1]; exact zQ.wi (zQ.wi hd rfl) rfl) (by rw [g1, zsi_ne (by decide), zsi_ne (by decide)]; exact e3) (by rw [g1, zsi_ne (by decide), zsi_ne (by decide)]; exact e9) (fun j hj => by rw [g1, zsi_ne (by decide), zsi_ne (by decide), zsi_ne (by decide), zsi_ne (by decide)]; exact h0 j hj) (fun j hj => ?_) k
    rw [g1, zsi_ne (k1 := 22) (by decide), zsi_at, zsi_at, zsi_ne (k1 := 23) (by decide)]
    by_cases z : j = i
    · rw [if_pos ⟨rfl, z⟩, if_pos ⟨rfl, z⟩, z]
      exact ⟨rfl, rfl⟩
    · rw [if_neg (fun y => z y.2), if_neg (fun y => z y.2)]
      exact hin j (by omega)
/-- the reference: sprites over tiles -/
theorem m_123 {L bk : Int32} {o : zSt} : ∀ (n i : Nat) (t : zSt), i ≤ 256 → zdM μ t → t.1 23 = o.1 23 → t.1 24 = o.1 24 → t.1 3 = o.1 3 → t.1 9 = o.1 9 → (∀ j : Nat, j < i → t.1 22 j = if o.1 24 j ≤ 0 then o.1 22 j else if o.1 23 j = 0 then o.1 24 j else o.1 22 j) → (∀ j : Nat, i ≤ j → t.1 22 j = o.1 22 j) → (∀ t : zSt, zdM μ t → t.1 3 = o.1 3 → t.1 9 = o.1 9 → (∀ j : Nat, j < 256 → t.1 22 j = if o.1 24 j ≤ 0 then o.1 22 j else if o.1 23 j = 0 then o.1 24 j else o.1 22 j) → zp2 O (fX12_draws_168 zfuel t L bk 0) Q) → zp2 O (fX12_draws_123 n t L bk (Int32.ofNat i)) Q := by
  intro n
  induction n with
  | zero => intro i t _ _ _ _ _ _ _ _ _; exact zp2_nr
  | succ n ih =>
    intro i t hi hd e23 e24 e3 e9 hin hout k
    show zp2 O (fX12_draws_123_body (fX12_draws_123 n) t L bk (Int32.ofNat i)) Q
    unfold fX12_draws_123_body fX12_draws_160
    refine zp2_ifr (fun q => ?_) (fun q => ?_)
    · have := (z_ofL (k := 256) (by omega) rfl).mp q
      exact k t hd e3 e9 (fun j hj => hin j (by omega))
    have hi2 : i < 256 := by
      have : ¬ 256 ≤ i := fun z => q ((z_ofL (c := 256) (k := 256) (i := i) (by omega) rfl).mpr z)
      omega
    rw [z_ofC (by omega), z_ofS (by omega)]
    have c24 : zgi t 24 i = o.1 24 i := by show t.1 24 i = _; rw [e24]
    have c23 : zgi t 23 i = o.1 23 i := by show t.1 23 i = _; rw [e23]
    rw [c24, c23]
    have stay : t.1 22 i = (if o.1 24 i ≤ 0 then o.1 22 i else if o.1 23 i = 0 then o.1 24 i else o.1 22 i) → zp2 O (zbv (Int32.ofNat (i + 1)) (fun v16 => fX12_draws_123 n t L bk v16)) Q := fun y => zp2_bvr (fun v ev => by
      subst ev
      refine ih (i + 1) t (by omega) hd e23 e24 e3 e9 (fun j hj => ?_) (fun j hj => hout j (by omega)) k
      by_cases z : j = i
      · rw [z]; exact y
      · exact hin j (by omega))
    refine zp2_ckr (zp2_ifr (fun p => stay (by rw [if_pos p]; exact hout i (by omega))) (fun p => zp2_ckr (zp2_ifr (fun p2 => zp2_ckr (zp2_ckr (zp2_bvr (fun t1 g1 => zp2_bvr (fun v ev => ?_))))) (fun p2 => stay (by rw [if_neg p, if_neg p2]; exact hout i (by omega))))))
    subst ev
    refine ih (i + 1) t1 (by omega) (by rw [g1]; exact zQ.wi hd rfl) (by rw [g1, zsi_ne (by decide)]; exact e23) (by rw [g1, zsi_ne (by decide)]; exact e24) (by rw [g1, zsi_ne (by decide)]; exact e3) (by rw [g1, zsi_ne (by decide)]; exact e9) (fun j hj => ?_) (fun j hj => by rw [g1, zsi_nj (by omega)]; exact hout j (by omega)) k
    by_cases z : j = i
    · rw [z, g1, zsi_ej, if_neg p, if_pos p2]
    · rw [g1, zsi_nj z]
      exact hin j (by omega)
/-- the reference: the left column -/
theorem m_168 (h : zVe σ μ) {L bk : Int32} {o : zSt} : ∀ (n i : Nat) (t : zSt), i ≤ 8 → zdM μ t → t.1 3 = o.1 3 → t.1 9 = o.1 9 → (i = 0 ∨ ¬ σ.1 23 0 &&& 32 = 0) → (∀ j : Nat, j < i → t.1 22 j = bk) → (∀ j : Nat, i ≤ j → t.1 22 j = o.1 22 j) → (∀ t : zSt, zdM μ t → t.1 3 = o.1 3 → t.1 9 = o.1 9 → (∀ j : Nat, j < 256 → t.1 22 j = if j < 8 ∧ ¬ σ.1 23 0 &&& 32 = 0 then bk else o.1 22 j) → zp2 O (fX12_draws_302 zfuel t L 0) Q) → zp2 O (fX12_draws_168 n t L bk (Int32.ofNat i)) Q := by
  intro n
  induction n with
  | zero => intro i t _ _ _ _ _ _ _ _; exact zp2_nr
  | succ n ih =>
    intro i t hi hd e3 e9 hb hin hout k
    show zp2 O (fX12_draws_168_body (fX12_draws_168 n) t L bk (Int32.ofNat i)) Q
    unfold fX12_draws_168_body fX12_draws_197 fX12_draws_300
    refine zp2_ifr (fun q => ?_) (fun q => ?_)
    · have := (z_ofL (k := 8) (by omega) rfl).mp q
      refine k t hd e3 e9 (fun j hj => ?_)
      by_cases z : j < 8
      · rw [if_pos ⟨z, hb.resolve_left (by omega)⟩]; exact hin j (by omega)
      · rw [if_neg (fun y => z y.1)]; exact hout j (by omega)
    have hi2 : i < 8 := by
      have : ¬ 8 ≤ i := fun z => q ((z_ofL (c := 8) (k := 8) (i := i) (by omega) rfl).mpr z)
      omega
    have f0 : t.1 3 47 = σ.1 23 0 := h.ej hd (j := 0) (by decide)
    have b5 := p_bit_0_5 (μ := t) (by rw [f0]; exact h.r0)
    rw [f0] at b5
    refine zp2_bir b5 (fun t0 v0 e0 => ?_)
    cases e0
    by_cases p : σ.1 23 0 &&& 32 = 0
    · rw [if_pos p]
      refine zp2_ifr (fun z => absurd z (by decide)) (fun _ => k t hd e3 e9 (fun j hj => ?_))
      rw [if_neg (fun y => y.2 p)]
      exact hout j (by rcases hb with z | z; omega; exact absurd p z)
    · rw [if_neg p]
      refine zp2_ifr (fun _ => ?_) (fun z => absurd rfl z)
      rw [z_ofC (by omega), z_ofS (by omega)]
      refine zp2_ckr (zp2_bvr (fun t1 g1 => zp2_bvr (fun v ev => ?_)))
      subst ev
      refine ih (i + 1) t1 (by omega) (by rw [g1]; exact zQ.wi hd rfl) (by rw [g1, zsi_ne (by decide)]; exact e3) (by rw [g1, zsi_ne (by decide)]; exact e9) (Or.inr p) (fun j hj => ?_) (fun j hj => by rw [g1, zsi_nj (by omega)]; exact hout j (by omega)) k
      by_cases z : j = i
      · rw [z, g1, zsi_ej]
      · rw [g1, zsi_nj z]
        exact hin j (by omega)
/-- the reference: sprites of the old modes -/
theorem m_266 {L : Int32} {o : zSt} : ∀ (n i : Nat) (t : zSt), i ≤ 256 → zdM μ t → t.1 24 = o.1 24 → t.1 3 = o.1 3 → t.1 9 = o.1 9 → (∀ j : Nat, j < i → t.1 22 j = if o.1 24 j ≤ 0 then o.1 22 j else o.1 24 j) → (∀ j : Nat, i ≤ j → t.1 22 j = o.1 22 j) → (∀ t : zSt, zdM μ t → t.1 3 = o.1 3 → t.1 9 = o.1 9 → (∀ j : Nat, j < 256 → t.1 22 j = if o.1 24 j ≤ 0 then o.1 22 j else o.1 24 j) → zp2 O (fX12_draws_302 zfuel t L 0) Q) → zp2 O (fX12_draws_266 n t L (Int32.ofNat i)) Q := by
  intro n
  induction n with
  | zero => intro i t _ _ _ _ _ _ _ _; exact zp2_nr
  | succ n ih =>
    intro i t hi hd e24 e3 e9 hin hout k
    show zp2 O (fX12_draws_266_body (fX12_draws_266 n) t L (Int32.ofNat i)) Q
    unfold fX12_draws_266_body fX12_draws_294 fX12_draws_300
    refine zp2_ifr (fun q => ?_) (fun q => ?_)
    · have := (z_ofL (k := 256) (by omega) rfl).mp q
      exact k t hd e3 e9 (fun j hj => hin j (by omega))
    have hi2 : i < 256 := by
      have : ¬ 256 ≤ i := fun z => q ((z_ofL (c := 256) (k := 256) (i := i) (by omega) rfl).mpr z)
      omega
    rw [z_ofC (by omega), z_ofS (by omega)]
    have c24 : zgi t 24 i = o.1 24 i := by show t.1 24 i = _; rw [e24]
    rw [c24]
    refine zp2_ckr (zp2_ifr (fun p => zp2_bvr (fun v ev => ?_)) (fun p => zp2_ckr (zp2_ckr (zp2_bvr (fun t1 g1 => zp2_bvr (fun v ev => ?_))))))
    · subst ev
      refine ih (i + 1) t (by omega) hd e24 e3 e9 (fun j hj => ?_) (fun j hj => hout j (by omega)) k
      by_cases z : j = i
      · rw [z, if_pos p]; exact hout i (by omega)
      · exact hin j (by omega)
    · subst ev
      refine ih (i + 1) t1 (by omega) (by rw [g1]; exact zQ.wi hd rfl) (by rw [g1, zsi_ne (by decide)]; exact e24) (by rw [g1, zsi_ne (by decide)]; exact e3) (by rw [g1, zsi_ne (by decide)]; exact e9) (fun j hj => ?_) (fun j hj => by rw [g1, zsi_nj (by omega)]; exact hout j (by omega)) k
      by_cases z : j = i
      · rw [z, g1, zsi_ej, if_neg p]
      · rw [g1, zsi_nj z]
        exact hin j (by omega)
/-! the class's loops -/
theorem c_147 {o : zSt} : ∀ (n i : Nat) (s : zSt), i ≤ 256 → zdC σ s → s.1 28 = o.1 28 → s.1 23 = o.1 23 → s.1 25 = o.1 25 → (∀ j : Nat, j < i → s.1 27 j = if o.1 28 j ≤ 0 then o.1 27 j else if o.1 27 j &&& 256 = 0 then 16 + o.1 28 j else o.1 27 j) → (∀ j : Nat, i ≤ j → s.1 27 j = o.1 27 j) → zpc (fX3_drawSprites_147 n s (Int32.ofNat i)) (fun r => zdC σ r ∧ r.1 23 = o.1 23 ∧ r.1 25 = o.1 25 ∧ ∀ j : Nat, j < 256 → r.1 27 j = if o.1 28 j ≤ 0 then o.1 27 j else if o.1 27 j &&& 256 = 0 then 16 + o.1 28 j else o.1 27 j) := by
  intro n
  induction n with
  | zero => intro i s _ _ _ _ _ _ _; exact zpc_none
  | succ n ih =>
    intro i s hi hd e28 e23 e25 hin hout
    show zpc (fX3_drawSprites_147_body (fX3_drawSprites_147 n) s (Int32.ofNat i)) _
    unfold fX3_drawSprites_147_body fX3_drawSprites_196
    refine zpc_if (fun q => zpc_some ?_) (fun q => ?_)
    · have := (z_ofL (k := 256) (by omega) rfl).mp q
      exact ⟨hd, e23, e25, fun j hj => hin j (by omega)⟩
    have hi2 : i < 256 := by
      have : ¬ 256 ≤ i := fun z => q ((z_ofL (c := 256) (k := 256) (i := i) (by omega) rfl).mpr z)
      omega
    rw [z_ofC (by omega), z_ofS (by omega)]
    have c28 : zgi s 28 i = o.1 28 i := by show s.1 28 i = _; rw [e28]
    have c27 : zgi s 27 i = o.1 27 i := hout i (by omega)
    rw [c28, c27]
    have stay : o.1 27 i = (if o.1 28 i ≤ 0 then o.1 27 i else if o.1 27 i &&& 256 = 0 then 16 + o.1 28 i else o.1 27 i) → zpc (zbv (Int32.ofNat (i + 1)) (fun v1 => fX3_drawSprites_147 n s v1)) (fun r => zdC σ r ∧ r.1 23 = o.1 23 ∧ r.1 25 = o.1 25 ∧ ∀ j : Nat, j < 256 → r.1 27 j = if o.1 28 j ≤ 0 then o.1 27 j else if o.1 27 j &&& 256 = 0 then 16 + o.1 28 j else o.1 27 j) := fun y => zpc_bv (fun v ev => by
      subst ev
      refine ih (i + 1) s (by omega) hd e28 e23 e25 (fun j hj => ?_) (fun j hj => hout j (by omega))
      by_cases z : j = i
      · rw [z, hout i (by omega)]; exact y
      · exact hin j (by omega))
    refine zpc_ck (zpc_if (fun p => stay (by rw [if_pos p])) (fun p => zpc_ck (zpc_if (fun p2 => zpc_ck (zpc_ck (zpc_bv (fun s1 g1 => zpc_bv (fun v ev => ?_))))) (fun p2 => stay (by rw [if_neg p, if_neg p2])))))
    subst ev
    refine ih (i + 1) s1 (by omega) (by rw [g1]; exact zQ.wi hd rfl) (by rw [g1, zsi_ne (by decide)]; exact e28) (by rw [g1, zsi_ne (by decide)]; exact e23) (by rw [g1, zsi_ne (by decide)]; exact e25) (fun j hj => ?_) (fun j hj => by rw [g1, zsi_nj (by omega)]; exact hout j (by omega))
    by_cases z : j = i
    · rw [z, g1, zsi_ej, if_neg p, if_pos p2]
    · rw [g1, zsi_nj z]
      exact hin j (by omega)
end ZT4
end ZJN45
section ZJN46
/-! THE PAINTER, 5: SPRITES -/
theorem zp2_ubi {o : Option (zSt × Int32)} {f : zSt → Int32 → Option zSt} {C0 : zSt → Option zSt} {p : Option zSt} {Q : zSt → zSt → Prop} {s : zSt} {v : Int32} (h : zpc o (fun r => r = (s, v))) (k : zp2 (zbu (f s v) C0) p Q) : zp2 (zbu (zbi o f) C0) p Q := by
  cases e : o with
  | none => exact zp2_nl
  | some r =>
    have z := h r e
    subst z
    exact k
theorem zp2_ubu {o : Option zSt} {f : zSt → Option zSt} {C0 : zSt → Option zSt} {p : Option zSt} {Q : zSt → zSt → Prop} {P : zSt → Prop} (h : zpc o P) (k : ∀ s, P s → zp2 (zbu (f s) C0) p Q) : zp2 (zbu (zbu o f) C0) p Q := by
  cases e : o with
  | none => exact zp2_nl
  | some r => exact k r (h r e)
section ZT5
variable {σ μ s t s0 t0 : zSt}
theorem c_fill28 {v : Int32} : ∀ (n i : Nat) (s : zSt), i ≤ 256 → zdC σ s → s.1 27 = s0.1 27 → s.1 25 = s0.1 25 → s.1 23 = s0.1 23 → (∀ j : Nat, j < i → s.1 28 j = v) → zpc (fJ7_fill_53178_k28_5 n s v (Int32.ofNat i) 256) (fun r => zdC σ r ∧ r.1 27 = s0.1 27 ∧ r.1 25 = s0.1 25 ∧ r.1 23 = s0.1 23 ∧ ∀ j : Nat, j < 256 → r.1 28 j = v) := by
  intro n
  induction n with
  | zero => intro i s _ _ _ _ _ _; exact zpc_none
  | succ n ih =>
    intro i s hi hd e27 e25 e23 hin
    show zpc (fJ7_fill_53178_k28_5_body (fJ7_fill_53178_k28_5 n) s v (Int32.ofNat i) 256) _
    unfold fJ7_fill_53178_k28_5_body
    refine zpc_if (fun q => zpc_some ?_) (fun q => ?_)
    · have := (z_ofL (k := 256) (by omega) rfl).mp q
      exact ⟨hd, e27, e25, e23, fun j hj => hin j (by omega)⟩
    have hi2 : i < 256 := by
      have : ¬ 256 ≤ i := fun z => q ((z_ofL (c := 256) (k := 256) (i := i) (by omega) rfl).mpr z)
      omega
    rw [z_ofC (by omega), z_ofS (by omega)]
    refine zpc_ck (zpc_bv (fun s1 g1 => zpc_bv (fun x ex => ?_)))
    subst ex
    refine ih (i + 1) s1 (by omega) (by rw [g1]; exact zQ.wi hd rfl) (by rw [g1, zsi_ne (by decide)]; exact e27) (by rw [g1, zsi_ne (by decide)]; exact e25) (by rw [g1, zsi_ne (by decide)]; exact e23) (fun j hj => ?_)
    by_cases z : j = i
    · rw [z, g1, zsi_ej]
    · rw [g1, zsi_nj z]; exact hin j (by omega)
noncomputable def zSr (s t : zSt) : Prop := ∀ j : Nat, j < 256 → zr 0 15 (s.1 28 j) ∧ t.1 24 j = (if s.1 28 j ≤ 0 then 0 else 16 + s.1 28 j)
noncomputable def zStt (s t : zSt) : Prop := t.1 3 62 = s.1 23 15 ∧ zr 0 255 (s.1 23 15)
noncomputable def zSi (σ μ s0 t0 s t : zSt) : Prop := zdC σ s ∧ zdM μ t ∧ s.1 27 = s0.1 27 ∧ s.1 25 = s0.1 25 ∧ t.1 22 = t0.1 22 ∧ t.1 23 = t0.1 23 ∧ t.1 9 = t0.1 9 ∧ zSr s t ∧ zStt s t
/-- the painter's own cells 7 and 8 -/
theorem zSi.pl (h : zSi σ μ s0 t0 s t) {v : Int32} : zSi σ μ s0 t0 (zsi s 3 7 v) t := by
  obtain ⟨h1, h2, h3, h4, h5, h6, h7, h8, h9⟩ := h
  exact ⟨zQ.wi h1 rfl, h2, by rw [zsi_ne (by decide)]; exact h3, by rw [zsi_ne (by decide)]; exact h4, h5, h6, h7, fun j hj => by rw [zsi_ne (by decide)]; exact h8 j hj, h9⟩
/-- a status bit -/
theorem zSi.st (h : zSi σ μ s0 t0 s t) {v : Int32} (hv : zr 0 255 v) : zSi σ μ s0 t0 (zsi s 23 15 v) (zsi t 3 62 v) := by
  obtain ⟨h1, h2, h3, h4, h5, h6, h7, h8, h9⟩ := h
  refine ⟨zQ.wi h1 rfl, zQ.wi h2 rfl, by rw [zsi_ne (by decide)]; exact h3, by rw [zsi_ne (by decide)]; exact h4, by rw [zsi_ne (by decide)]; exact h5, by rw [zsi_ne (by decide)]; exact h6, by rw [zsi_ne (by decide)]; exact h7, fun j hj => by rw [zsi_ne (by decide), zsi_ne (by decide)]; exact h8 j hj, ?_, ?_⟩
  · rw [zsi_ej, zsi_ej]
  · rw [zsi_ej]; exact hv
/-- a dot of a sprite -/
theorem zSi.dot (h : zSi σ μ s0 t0 s t) {j : Nat} {N : Int32} (hN : zr 1 15 N) : zSi σ μ s0 t0 (zsi s 28 j N) (zsi t 24 j (16 + N)) := by
  obtain ⟨h1, h2, h3, h4, h5, h6, h7, h8, h9⟩ := h
  refine ⟨zQ.wi h1 rfl, zQ.wi h2 rfl, by rw [zsi_ne (by decide)]; exact h3, by rw [zsi_ne (by decide)]; exact h4, by rw [zsi_ne (by decide)]; exact h5, by rw [zsi_ne (by decide)]; exact h6, by rw [zsi_ne (by decide)]; exact h7, fun i hi => ?_, ?_⟩
  · by_cases z : i = j
    · rw [z, zsi_ej, zsi_ej]
      refine ⟨zr_w hN (by decide), ?_⟩
      rw [if_neg (zq_lef hN rfl (by decide))]
    · rw [zsi_nj z, zsi_nj z]
      exact h8 i hi
  · unfold zStt
    rw [zsi_ne (by decide), zsi_ne (by decide)]
    exact h9
theorem zSi.dot0 (h : zSi σ μ s0 t0 s t) {j : Nat} (hj : j < 256) : t.1 24 j ≤ 0 ↔ s.1 28 j ≤ 0 := by
  obtain ⟨r, e⟩ := h.2.2.2.2.2.2.2.1 j hj
  rw [e]
  by_cases q : s.1 28 j ≤ 0
  · rw [if_pos q]
    exact ⟨fun _ => q, fun _ => by decide⟩
  · rw [if_neg q]
    refine ⟨fun z => absurd z ?_, fun z => absurd z q⟩
    exact zq_lef (zr_add (lo := 16) (hi := 31) (zr_c (lo := 16) (hi := 16) (x := 16) (by decide)) r (by decide)) rfl (by decide)
theorem v_tw0 : ∀ i : Fin 16, Int32.ofNat i.val >>> ((0 : Int32) &&& 31) = Int32.ofNat i.val / 1 := by decide +kernel
theorem v_tw1 : ∀ i : Fin 16, Int32.ofNat i.val >>> ((1 : Int32) &&& 31) = Int32.ofNat i.val / 2 ∧ 0 ≤ (Int32.ofNat i.val / 2).toInt ∧ (Int32.ofNat i.val / 2).toInt ≤ 7 := by decide +kernel
theorem v_tw2 : ∀ i : Fin 8, 0 ≤ (Int32.ofNat i.val / 1).toInt ∧ (Int32.ofNat i.val / 1).toInt ≤ 7 := by decide +kernel
/-- zoom: the class's shift, the reference's factor -/
noncomputable def zZm (tw zm : Int32) : Prop := (tw = 0 ∧ zm = 1) ∨ (tw = 1 ∧ zm = 2)
theorem zZm.w {tw zm : Int32} (h : zZm tw zm) : 8 <<< (tw &&& 31) = 8 * zm ∧ zr 8 16 (8 * zm) ∧ ¬ zm = 0 := by
  rcases h with ⟨a, b⟩ | ⟨a, b⟩ <;> subst a <;> subst b
  · exact ⟨by decide, zr_c (by decide), by decide⟩
  · exact ⟨by decide, zr_c (by decide), by decide⟩
theorem zZm.p {tw zm : Int32} (h : zZm tw zm) {i : Nat} (hi : ¬ 8 * zm ≤ Int32.ofNat i) (h16 : i < 100000) : Int32.ofNat i >>> (tw &&& 31) = Int32.ofNat i / zm ∧ zr 0 7 (Int32.ofNat i / zm) ∧ i < 16 := by
  have hi' : (Int32.ofNat i).toInt < (8 * zm).toInt := Int32.lt_iff_toInt_lt.mp (z_nle hi)
  rw [z_ofI h16] at hi'
  rcases h with ⟨a, b⟩ | ⟨a, b⟩ <;> subst a <;> subst b
  · rw [show (8 * (1 : Int32)).toInt = 8 from rfl] at hi'
    exact ⟨v_tw0 ⟨i, by omega⟩, v_tw2 ⟨i, by omega⟩, by omega⟩
  · rw [show (8 * (2 : Int32)).toInt = 16 from rfl] at hi'
    exact ⟨(v_tw1 ⟨i, by omega⟩).1, (v_tw1 ⟨i, by omega⟩).2, by omega⟩
theorem z_le0e {N : Int32} (h : zr 0 15 N) : N ≤ 0 ↔ N = 0 := by
  rw [Int32.le_iff_toInt_le, ← Int32.toInt_inj, show (0 : Int32).toInt = 0 from rfl]
  have := h.1
  omega
noncomputable abbrev zK8 := zSt → Int32 → Int32 → Int32 → Int32 → Int32 → Int32 → Int32 → Option zSt
/-- a sprite's dots, both sides -/
theorem t_111 (h : zVe σ μ) {C0 : zSt → Option zSt} {Q : zSt → zSt → Prop} {k73 : zK8} {L tb zm hg f e nn rw_ ti le tw A : Int32} (hz : zZm tw zm) (hA : A = (32 * ti) + (4 * (zrem (rw_ / zm) 8))) (k : ∀ s t, zSi σ μ s0 t0 s t → zp2 (C0 s) (fX12_sprites_349 k73 t L tb zm hg f e nn) Q) : ∀ (n m i : Nat) (s t : zSt), i ≤ 16 → zSi σ μ s0 t0 s t → s.1 3 7 = gPl σ A → zp2 (zbu (fX3_drawSprite_111 n s le tw (Int32.ofNat i)) C0) (fX12_sprites_250 k73 m t L tb zm hg f e nn rw_ ti le (Int32.ofNat i)) Q := by
  intro n
  induction n with
  | zero => intro m i s t _ _ _; exact zp2_nl
  | succ n ih =>
    intro m i s t hi hS hp
    cases m with
    | zero => exact zp2_nr
    | succ m =>
      show zp2 (zbu (fX3_drawSprite_111_body (fX3_drawSprite_111 n) s le tw (Int32.ofNat i)) C0) (fX12_sprites_250_body k73 (fX12_sprites_250 k73 m) t L tb zm hg f e nn rw_ ti le (Int32.ofNat i)) Q
      unfold fX3_drawSprite_111_body fX12_sprites_250_body
      rw [hz.w.1]
      by_cases q : 8 * zm ≤ Int32.ofNat i
      · rw [if_pos q, if_pos q]
        exact k s t hS
      rw [if_neg q, if_neg q]
      obtain ⟨z1, z2, z3⟩ := hz.p q (by omega)
      have next : ∀ s t : zSt, zSi σ μ s0 t0 s t → s.1 3 7 = gPl σ A → zp2 (zbu (fX3_drawSprite_190 (fX3_drawSprite_111 n) s le tw (Int32.ofNat i)) C0) (fX12_sprites_343 k73 (fX12_sprites_250 k73 m) t L tb zm hg f e nn rw_ ti le (Int32.ofNat i)) Q := fun s t a b => by
        unfold fX3_drawSprite_190 fX12_sprites_343
        rw [z_ofS (by omega)]
        exact ih m (i + 1) s t (by omega) a b
      have hM := hS.2.1
      refine zp2_ckr (zp2_ckr (zp2_ckr (zp2_bir (p_tdot h.1 hM.v) (fun t1 v1 e1 => ?_))))
      cases e1
      rw [← hA]
      obtain ⟨eN, rN⟩ := z_gnum h.1 (x := A) z2
      obtain ⟨N, hN⟩ : ∃ N, N = gTd σ A (Int32.ofNat i / zm) := ⟨_, rfl⟩
      rw [← hN] at eN rN
      rw [← hN]
      refine zp2_bvr (fun v5 e5 => ?_)
      show zp2 (zbu (zbi (fX3_numberIn s (zgi s 3 7) (Int32.ofNat i >>> (tw &&& 31))) (fun σ3 v4 => if v4 ≤ 0 then fX3_drawSprite_190 (fX3_drawSprite_111 n) σ3 le tw (Int32.ofNat i) else if le + Int32.ofNat i < 0 then fX3_drawSprite_190 (fX3_drawSprite_111 n) σ3 le tw (Int32.ofNat i) else if 256 ≤ le + Int32.ofNat i then fX3_drawSprite_190 (fX3_drawSprite_111 n) σ3 le tw (Int32.ofNat i) else zck (zin (le + Int32.ofNat i) 256) (if (zgi σ3 28 (le + Int32.ofNat i).toNatClampNeg) ≤ 0 then zck (zin (le + Int32.ofNat i) 256) (zbv (zsi σ3 28 ((le + Int32.ofNat i).toNatClampNeg) v4) (fun σ5 => fX3_drawSprite_190 (fX3_drawSprite_111 n) σ5 le tw (Int32.ofNat i))) else zbu (fX9_mark σ3 32) (fun σ6 => fX3_drawSprite_190 (fX3_drawSprite_111 n) σ6 le tw (Int32.ofNat i))))) C0) _ Q
      have hn : zpc (fX3_numberIn s (zgi s 3 7) (Int32.ofNat i >>> (tw &&& 31))) (fun r => r = (s, N)) := by
        have z := p_numC (σ := s) (x := zgi s 3 7) (p := Int32.ofNat i >>> (tw &&& 31))
        rw [show zgi s 3 7 = gPl σ A from hp, z1, eN] at z
        rw [show zgi s 3 7 = gPl σ A from hp, z1]
        exact z
      refine zp2_ubi hn ?_
      rw [e5]
      obtain ⟨X, eX⟩ : ∃ X, X = le + Int32.ofNat i := ⟨_, rfl⟩
      rw [← eX]
      by_cases n0 : N = 0
      · rw [if_pos ((z_le0e rN).mpr n0), if_pos n0]
        exact next s t hS hp
      rw [if_neg (fun z => n0 ((z_le0e rN).mp z)), if_neg n0]
      by_cases x0 : X < 0
      · rw [if_pos x0, if_pos x0]
        exact next s t hS hp
      rw [if_neg x0, if_neg x0]
      have x0' := Int32.le_iff_toInt_le.mp (z_nlt x0)
      rw [show (0 : Int32).toInt = 0 from rfl] at x0'
      have e255 : 256 ≤ X ↔ ¬ X ≤ 255 := by
        rw [Int32.le_iff_toInt_le, Int32.le_iff_toInt_le, show (256 : Int32).toInt = 256 from rfl, show (255 : Int32).toInt = 255 from rfl]
        omega
      by_cases x1 : 256 ≤ X
      · rw [if_pos x1, if_neg (e255.mp x1)]
        exact next s t hS hp
      have x1' : X ≤ 255 := Decidable.byContradiction (fun z => x1 (e255.mpr z))
      rw [if_neg x1, if_pos x1']
      have x2 := Int32.le_iff_toInt_le.mp x1'
      rw [show (255 : Int32).toInt = 255 from rfl] at x2
      have kX := z_clamp (x := X) x0'
      have jX : X.toNatClampNeg < 256 := by omega
      have d0 := hS.dot0 jX
      rw [z_uck]
      refine zp2_ckl (zp2_ckr ?_)
      by_cases y : zgi s 28 X.toNatClampNeg ≤ 0
      · rw [if_pos y, if_pos (show zgi t 24 X.toNatClampNeg ≤ 0 from d0.mpr y), z_uck]
        refine zp2_ckl (zp2_ckr (zp2_bvr (fun t6 g6 => ?_)))
        rw [g6]
        have rN1 : zr 1 15 N := ⟨by have := rN.1; have : ¬ N.toInt = 0 := fun z => n0 (Int32.toInt_inj.mp z); omega, rN.2⟩
        exact next _ _ (hS.dot rN1) (by rw [zsi_ne (by decide)]; exact hp)
      · rw [if_neg y, if_neg (show ¬ zgi t 24 X.toNatClampNeg ≤ 0 from fun z => y (d0.mp z))]
        refine zp2_ckr (zp2_ckr (zp2_bvr (fun t6 g6 => ?_)))
        have e62 : zgi t 3 (62 : Int32).toNatClampNeg = s.1 23 15 := hS.2.2.2.2.2.2.2.2.1
        rw [e62] at g6
        have r15 : zr 0 255 (s.1 23 15) := hS.2.2.2.2.2.2.2.2.2
        have r15' : zr 0 255 (s.1 23 15 ||| 32) := zr_or (lo := 0) (hi := 255) 8 r15 (zr_c (lo := 32) (hi := 32) (x := 32) (by decide)) (by decide)
        refine zp2_ubu (P := fun r => r = zsi s 23 15 (s.1 23 15 ||| 32)) (by unfold fX9_mark; exact zpc_ck (zpc_ck (zpc_bv (fun s1 f1 => zpc_some f1)))) (fun s1 f1 => ?_)
        rw [f1, g6]
        exact next _ _ (hS.st r15') (by rw [zsi_ne (by decide)]; exact hp)
end ZT5
end ZJN46
section ZJN47
/-! THE PAINTER, 6: ALL SPRITES OF A LINE -/
theorem zp2_usub {o o' : Option zSt} {C0 : zSt → Option zSt} {p : Option zSt} {Q : zSt → zSt → Prop} (hs : zpc o (fun r => o' = some r)) (h : zp2 (zbu o' C0) p Q) : zp2 (zbu o C0) p Q := by
  cases e : o with
  | none => exact zp2_nl
  | some r =>
    have z := hs r e
    rw [z] at h
    exact h
section ZT6
variable {σ μ s t s0 t0 : zSt}
noncomputable def zSe (σ μ s0 t0 r t : zSt) : Prop := zdC σ r ∧ zdM μ t ∧ r.1 25 = s0.1 25 ∧ t.1 22 = t0.1 22 ∧ t.1 23 = t0.1 23 ∧ t.1 9 = t0.1 9 ∧ zStt r t ∧ ∀ j : Nat, j < 256 → zr 0 31 (t.1 24 j) ∧ r.1 27 j = (if t.1 24 j ≤ 0 then s0.1 27 j else if s0.1 27 j &&& 256 = 0 then t.1 24 j else s0.1 27 j)
theorem t_144 (h : zSi σ μ s0 t0 s t) : zp2 (fX3_drawSprites_144 s ) (some t) (zSe σ μ s0 t0) := by
  obtain ⟨h1, h2, h3, h4, h5, h6, h7, h8, h9⟩ := h
  unfold fX3_drawSprites_144
  refine zp2_of (c_147 (σ := σ) (o := s) zfuel 0 s (by decide) h1 rfl rfl rfl (fun j hj => absurd hj (by omega)) (fun _ _ => rfl)) (zpc_some (Q := fun r => r = t) rfl) (fun r t' q e => ?_)
  obtain ⟨q1, q2, q3, q4⟩ := q
  subst e
  refine ⟨q1, h2, q3.trans h4, h5, h6, h7, ?_, fun j hj => ?_⟩
  · unfold zStt
    rw [q2]
    exact h9
  · obtain ⟨r8, e8⟩ := h8 j hj
    rw [q4 j hj, e8, h3]
    by_cases z : s.1 28 j ≤ 0
    · rw [if_pos z, if_pos z, if_pos (by decide)]
      exact ⟨zr_c (by decide), rfl⟩
    · have z2 : ¬ (16 + s.1 28 j) ≤ 0 := zq_lef (zr_add (lo := 16) (hi := 31) (zr_c (lo := 16) (hi := 16) (x := 16) (by decide)) r8 (by decide)) rfl (by decide)
      rw [if_neg z, if_neg z, if_neg z2]
      exact ⟨zr_add (zr_c (lo := 16) (hi := 16) (x := 16) (by decide)) r8 (by decide), rfl⟩
/-- which row of a sprite lies on the line -/
noncomputable def gRow (sh L u : Int32) : Int32 := if sh &&& 1 = 0 then ((L - u) - 1) &&& 255 else (((L - u) - 1) &&& 255) >>> ((1 : Int32) &&& 31)
noncomputable def gHg (sh : Int32) : Int32 := if sh &&& 2 = 0 then 8 else 16
noncomputable def gZm (sh : Int32) : Int32 := if sh &&& 1 = 0 then 1 else 2
theorem p_row {L u : Int32} : zpc (fX3_rowOfSprite s L u) (fun r => r = (s, if gHg (s.1 23 1) ≤ gRow (s.1 23 1) L u then -1 else gRow (s.1 23 1) L u)) := by
  unfold fX3_rowOfSprite
  refine zpc_bi (p_held (x := 1) (zr_c (by decide))) (fun s1 v e => zpc_bv (fun v3 e3 => ?_))
  cases e
  rw [show s.1 23 (1 : Int32).toNatClampNeg = s.1 23 1 from rfl]
  have go : ∀ w, w = gRow (s.1 23 1) L u → zpc (fX3_rowOfSprite_32 s (s.1 23 1) w) (fun r => r = (s, if gHg (s.1 23 1) ≤ gRow (s.1 23 1) L u then -1 else gRow (s.1 23 1) L u)) := fun w ew => by
    unfold fX3_rowOfSprite_32 fX3_rowOfSprite_47 fX3_rowOfSprite_56 gHg
    rw [ew]
    refine zpc_if (fun q => zpc_if (fun q2 => zpc_some ?_) (fun q2 => zpc_some ?_)) (fun q => zpc_if (fun q2 => zpc_some ?_) (fun q2 => zpc_some ?_))
    · rw [if_pos q, if_pos q2]
    · rw [if_pos q, if_neg q2]
    · rw [if_neg q, if_pos q2]
    · rw [if_neg q, if_neg q2]
  refine zpc_if (fun q => go _ ?_) (fun q => zpc_bv (fun v4 e4 => go _ ?_))
  · unfold gRow; rw [if_pos q, e3]
  · unfold gRow; rw [if_neg q, e4, e3]
/-- the reference's comparison is the same; its row, divided by the zoom, too -/
theorem v_row : ∀ c : Fin 256, ((8 ≤ Int32.ofNat c.val ↔ ¬ Int32.ofNat c.val < 8 * 1) ∧ (16 ≤ Int32.ofNat c.val ↔ ¬ Int32.ofNat c.val < 16 * 1) ∧ Int32.ofNat c.val / 1 = Int32.ofNat c.val) ∧ ((8 ≤ Int32.ofNat c.val >>> ((1 : Int32) &&& 31) ↔ ¬ Int32.ofNat c.val < 8 * 2) ∧ (16 ≤ Int32.ofNat c.val >>> ((1 : Int32) &&& 31) ↔ ¬ Int32.ofNat c.val < 16 * 2) ∧ Int32.ofNat c.val / 2 = Int32.ofNat c.val >>> ((1 : Int32) &&& 31)) ∧ (0 ≤ (Int32.ofNat c.val >>> ((1 : Int32) &&& 31)).toInt) := by decide +kernel
theorem z_row {sh L u : Int32} : (gHg sh ≤ gRow sh L u ↔ ¬ (((L - u) - 1) &&& 255) < gHg sh * gZm sh) ∧ (((L - u) - 1) &&& 255) / gZm sh = gRow sh L u ∧ zr 0 255 (gRow sh L u) := by
  have r : zr 0 255 (((L - u) - 1) &&& 255) := z_r8 _
  obtain ⟨c, ec⟩ := z_byteF r
  obtain ⟨⟨a1, a2, a3⟩, ⟨b1, b2, b3⟩, b4⟩ := v_row c
  unfold gHg gRow gZm
  rw [ec]
  by_cases q : sh &&& 1 = 0
  · rw [if_pos q, if_pos q]
    rw [ec] at r
    by_cases p : sh &&& 2 = 0
    · rw [if_pos p]; exact ⟨a1, a3, r⟩
    · rw [if_neg p]; exact ⟨a2, a3, r⟩
  · rw [if_neg q, if_neg q]
    have r2 : zr 0 255 (Int32.ofNat c.val >>> ((1 : Int32) &&& 31)) := ⟨b4, by
      have z := b3
      have h1 := z_quo (x := Int32.ofNat c.val) (s := (1 : Int32) &&& 31) (k := 1) (by rw [z_ofI (by omega)]; omega) rfl
      rw [h1, z_ofI (by omega)]
      omega⟩
    by_cases p : sh &&& 2 = 0
    · rw [if_pos p]; exact ⟨b1, b3, r2⟩
    · rw [if_neg p]; exact ⟨b2, b3, r2⟩
noncomputable def gLe (σ : zSt) (x : Int32) : Int32 := vb σ x - (if σ.1 23 0 &&& 8 = 0 then 0 else 8)
noncomputable def gTi (σ : zSt) (x : Int32) : Int32 := vb σ (x + 1) + (if σ.1 23 6 &&& 4 = 0 then 0 else 256)
noncomputable def gTe (σ : zSt) (x : Int32) : Int32 := if σ.1 23 1 &&& 2 = 0 then gTi σ x else gTi σ x &&& (-2)
theorem v_and1 : ∀ c : Fin 256, (Int32.ofNat c.val &&& 1 = 0 ∨ Int32.ofNat c.val &&& 1 = 1) := by decide +kernel
/-- the class: a sprite up to its dots -/
theorem c_sprite (h : zVe σ μ) (hs : zdC σ s) {x row : Int32} : zpc (fX3_drawSprite s x row) (fun r => fX3_drawSprite_111 zfuel (zsi s 3 7 (gPl σ ((32 * gTe σ x) + (4 * row)))) (gLe σ x) (σ.1 23 1 &&& 1) 0 = some r) := by
  have v := hs.v
  have g0 : s.1 23 (0 : Int32).toNatClampNeg = σ.1 23 0 := hs.r (j := 0) (by decide)
  have g1 : s.1 23 (1 : Int32).toNatClampNeg = σ.1 23 1 := hs.r (j := 1) (by decide)
  have g6 : s.1 23 (6 : Int32).toNatClampNeg = σ.1 23 6 := hs.r (j := 6) (by decide)
  have l100 : ∀ y, y = gTe σ x → zpc (fX3_drawSprite_100 s row (gLe σ x) (σ.1 23 1 &&& 1) y 32) (fun r => fX3_drawSprite_111 zfuel (zsi s 3 7 (gPl σ ((32 * gTe σ x) + (4 * row)))) (gLe σ x) (σ.1 23 1 &&& 1) 0 = some r) := fun y ey => by
    unfold fX3_drawSprite_100
    rw [ey]
    refine zpc_bu p_planes (fun s1 e1 => ?_)
    rw [e1, show gPl s ((32 * gTe σ x) + (4 * row)) = gPl σ ((32 * gTe σ x) + (4 * row)) by unfold gPl; rw [vb_of v, vb_of v, vb_of v, vb_of v]]
    exact fun r er => er
  have l61 : ∀ y z, z + y = gTi σ x → zpc (fX3_drawSprite_61 s row (gLe σ x) y z) (fun r => fX3_drawSprite_111 zfuel (zsi s 3 7 (gPl σ ((32 * gTe σ x) + (4 * row)))) (gLe σ x) (σ.1 23 1 &&& 1) 0 = some r) := fun y z e => by
    unfold fX3_drawSprite_61
    refine zpc_bv (fun v8 e8 => zpc_bi (p_held (x := 1) (zr_c (by decide))) (fun s1 v1 e1 => zpc_bv (fun v11 e11 => ?_)))
    cases e1
    rw [e] at e8
    rw [g1] at e11
    rw [g1, e11, e8]
    refine zpc_if (fun q => l100 _ ?_) (fun q => l100 _ ?_)
    · unfold gTe; rw [if_pos q]
    · unfold gTe; rw [if_neg q]
  have l28 : ∀ y, vb σ x - y = gLe σ x → zpc (fX3_drawSprite_28 s x row y (vb σ x)) (fun r => fX3_drawSprite_111 zfuel (zsi s 3 7 (gPl σ ((32 * gTe σ x) + (4 * row)))) (gLe σ x) (σ.1 23 1 &&& 1) 0 = some r) := fun y e => by
    unfold fX3_drawSprite_28
    refine zpc_bv (fun v12 e12 => zpc_bi p_vb (fun s1 v1 e1 => ?_))
    cases e1
    refine zpc_bi (p_held (x := 6) (zr_c (by decide))) (fun s1 v1 e1 => ?_)
    cases e1
    rw [e] at e12
    rw [g6, e12, vb_of v]
    refine zpc_if (fun q => l61 _ _ ?_) (fun q => l61 _ _ ?_)
    · unfold gTi; rw [if_pos q]
    · unfold gTi; rw [if_neg q]
  unfold fX3_drawSprite
  refine zpc_bi p_vb (fun s1 v1 e1 => ?_)
  cases e1
  refine zpc_bi (p_held (x := 0) (zr_c (by decide))) (fun s1 v1 e1 => ?_)
  cases e1
  rw [g0, vb_of v]
  refine zpc_if (fun q => l28 _ ?_) (fun q => l28 _ ?_)
  · unfold gLe; rw [if_pos q]
  · unfold gLe; rw [if_neg q]
theorem v_r16 : ∀ c : Fin 16, 32 * (Int32.ofNat c.val / 8) + 4 * (zrem (Int32.ofNat c.val) 8) = 4 * Int32.ofNat c.val := by decide +kernel
theorem v_r8 : ∀ c : Fin 8, zrem (Int32.ofNat c.val) 8 = Int32.ofNat c.val := by decide +kernel
theorem v_512 : ∀ c : Fin 512, Int32.ofNat c.val &&& 510 = Int32.ofNat c.val &&& (-2) := by decide +kernel
theorem gTi_r (h : zVe σ μ) {x : Int32} : zr 0 511 (gTi σ x) := by
  unfold gTi
  by_cases q : σ.1 23 6 &&& 4 = 0
  · rw [if_pos q]; exact zr_add (vb_r h.1 _) (zr_c (lo := 0) (hi := 0) (x := 0) (by decide)) (by decide)
  · rw [if_neg q]; exact zr_add (vb_r h.1 _) (zr_c (lo := 256) (hi := 256) (x := 256) (by decide)) (by decide)
/-- the reference: a sprite up to its dots -/
theorem m_sprite (h : zVe σ μ) (hd : zdM μ t) {k73 : zK8} {L tb f e nn u : Int32} (hlt : ¬ gHg (σ.1 23 1) ≤ gRow (σ.1 23 1) L u) : ∃ ti : Int32, (32 * gTe σ ((tb + 128) + (2 * nn))) + (4 * gRow (σ.1 23 1) L u) = (32 * ti) + (4 * (zrem ((((L - u) - 1) &&& 255) / gZm (σ.1 23 1)) 8)) ∧ zpc (zbi (fX12_video8 t ((tb + 129) + (2 * nn))) (fun σ16 v17 => zbi (fX12_bit σ16 6 2) (fun σ18 v19 => if v19 = 1 then fX12_sprites_183 k73 σ18 L tb (gZm (σ.1 23 1)) (gHg (σ.1 23 1)) f e nn (((L - u) - 1) &&& 255) 256 v17 else fX12_sprites_183 k73 σ18 L tb (gZm (σ.1 23 1)) (gHg (σ.1 23 1)) f e nn (((L - u) - 1) &&& 255) 0 v17))) (fun r => fX12_sprites_250 k73 zfuel t L tb (gZm (σ.1 23 1)) (gHg (σ.1 23 1)) f e nn (((L - u) - 1) &&& 255) ti (gLe σ ((tb + 128) + (2 * nn))) 0 = some r) := by
  obtain ⟨X, eX⟩ : ∃ X, X = (tb + 128) + (2 * nn) := ⟨_, rfl⟩
  obtain ⟨Y, eY⟩ : ∃ Y, Y = ((L - u) - 1) &&& 255 := ⟨_, rfl⟩
  have ea : (tb + 129) + (2 * nn) = X + 1 := by
    rw [eX, Int32.add_assoc (tb + 128), Int32.add_comm (2 * nn) 1, ← Int32.add_assoc (tb + 128), Int32.add_assoc tb 128 1]
    rfl
  obtain ⟨z1, z2, z3⟩ := z_row (sh := σ.1 23 1) (L := L) (u := u)
  rw [← eY] at z1 z2
  rw [← eX, ← eY, ea, z2]
  have f0 : t.1 3 47 = σ.1 23 0 := h.ej hd (j := 0) (by decide)
  have f6 : t.1 3 53 = σ.1 23 6 := h.ej hd (j := 6) (by decide)
  have b3 := p_bit_0_3 (μ := t) (by rw [f0]; exact h.r0)
  have b62 := p_bit_6_2 (μ := t) (by rw [f6]; exact h.rj (j := 6) (by decide))
  rw [f0] at b3
  rw [f6] at b62
  have l212 : ∀ y, zpc (fX12_sprites_212 k73 t L tb (gZm (σ.1 23 1)) (gHg (σ.1 23 1)) f e nn Y y) (fun r => fX12_sprites_250 k73 zfuel t L tb (gZm (σ.1 23 1)) (gHg (σ.1 23 1)) f e nn Y y (gLe σ X) 0 = some r) := fun y => by
    unfold fX12_sprites_212 fX12_sprites_244
    rw [← eX]
    refine zpc_bi (p_v8 h.1 hd.v) (fun t1 v1 e1 => ?_)
    cases e1
    refine zpc_bit b3 (fun q => zpc_if (fun z => absurd z (by decide)) (fun _ => zpc_bv (fun v8 e8 => ?_))) (fun q => zpc_if (fun _ => zpc_bv (fun v8 e8 => ?_)) (fun z => absurd rfl z))
    · rw [e8, show vb σ X - 0 = gLe σ X by unfold gLe; rw [if_pos q]]
      exact fun r er => er
    · rw [e8, show vb σ X - 8 = gLe σ X by unfold gLe; rw [if_neg q]]
      exact fun r er => er
  have low : ∀ ti, (∀ y z, z + y = gTi σ X → zpc (fX12_sprites_183 k73 t L tb (gZm (σ.1 23 1)) (gHg (σ.1 23 1)) f e nn Y y z) (fun r => fX12_sprites_250 k73 zfuel t L tb (gZm (σ.1 23 1)) (gHg (σ.1 23 1)) f e nn Y ti (gLe σ X) 0 = some r)) → zpc (zbi (fX12_video8 t (X + 1)) (fun σ16 v17 => zbi (fX12_bit σ16 6 2) (fun σ18 v19 => if v19 = 1 then fX12_sprites_183 k73 σ18 L tb (gZm (σ.1 23 1)) (gHg (σ.1 23 1)) f e nn Y 256 v17 else fX12_sprites_183 k73 σ18 L tb (gZm (σ.1 23 1)) (gHg (σ.1 23 1)) f e nn Y 0 v17))) (fun r => fX12_sprites_250 k73 zfuel t L tb (gZm (σ.1 23 1)) (gHg (σ.1 23 1)) f e nn Y ti (gLe σ X) 0 = some r) := fun ti H => by
    refine zpc_bi (p_v8 h.1 hd.v) (fun t1 v1 e1 => ?_)
    cases e1
    refine zpc_bit b62 (fun q => zpc_if (fun z => absurd z (by decide)) (fun _ => H _ _ ?_)) (fun q => zpc_if (fun _ => H _ _ ?_) (fun z => absurd rfl z))
    · unfold gTi; rw [if_pos q]
    · unfold gTi; rw [if_neg q]
  have rT := gTi_r h (x := X)
  have hl : (gRow (σ.1 23 1) L u).toInt < (gHg (σ.1 23 1)).toInt := Int32.lt_iff_toInt_lt.mp (z_nle hlt)
  by_cases p : σ.1 23 1 &&& 2 = 0
  · have eH : gHg (σ.1 23 1) = 8 := by unfold gHg; rw [if_pos p]
    rw [eH, show (8 : Int32).toInt = 8 from rfl] at hl
    obtain ⟨c, ec⟩ := z_F (m := 8) (b := 7) (x := gRow (σ.1 23 1) L u) ⟨z3.1, by omega⟩ (by decide)
    refine ⟨gTi σ X, ?_, low _ (fun y z eyz => ?_)⟩
    · unfold gTe
      rw [if_pos p, ec, v_r8 c]
    · unfold fX12_sprites_183
      refine zpc_bv (fun v13 e13 => ?_)
      rw [eyz] at e13
      rw [e13, eH]
      refine zpc_if (fun z => absurd z (by decide)) (fun _ => ?_)
      have z := l212 (gTi σ X)
      rw [eH] at z
      exact z
  · have eH : gHg (σ.1 23 1) = 16 := by unfold gHg; rw [if_neg p]
    rw [eH, show (16 : Int32).toInt = 16 from rfl] at hl
    obtain ⟨c, ec⟩ := z_F (m := 16) (b := 15) (x := gRow (σ.1 23 1) L u) ⟨z3.1, by omega⟩ (by decide)
    obtain ⟨d, ed⟩ := z_F (m := 512) (b := 511) (x := gTi σ X) rT (by decide)
    refine ⟨(gTi σ X &&& 510) + ((gRow (σ.1 23 1) L u) / 8), ?_, low _ (fun y z eyz => ?_)⟩
    · unfold gTe
      rw [if_neg p, show gTi σ X &&& 510 = gTi σ X &&& (-2) by rw [ed]; exact v_512 d, Int32.mul_add, Int32.add_assoc, ec, v_r16 c]
    · unfold fX12_sprites_183
      refine zpc_bv (fun v13 e13 => ?_)
      rw [eyz] at e13
      rw [e13, eH, z2]
      refine zpc_if (fun _ => zpc_ck (zpc_ck ?_)) (fun z => absurd rfl z)
      have z := l212 ((gTi σ X &&& 510) + ((gRow (σ.1 23 1) L u) / 8))
      rw [eH] at z
      exact z
/-- all sprites -/
theorem t_51 (h : zVe σ μ) {L tb e : Int32} : ∀ (n m i : Nat) (s t : zSt) (f : Int32), i ≤ 64 → zr 0 8 f → zSi σ μ s0 t0 s t → zp2 (fX3_drawSprites_51 n s L tb e f (Int32.ofNat i)) (fX12_sprites_73 m t L tb (gZm (σ.1 23 1)) (gHg (σ.1 23 1)) f e (Int32.ofNat i)) (zSe σ μ s0 t0) := by
  intro n
  induction n with
  | zero => intro m i s t f _ _ _; exact zp2_nl
  | succ n ih =>
    intro m i s t f hi hf hS
    cases m with
    | zero => exact zp2_nr
    | succ m =>
      show zp2 (fX3_drawSprites_51_body (fX3_drawSprites_51 n) s L tb e f (Int32.ofNat i)) (fX12_sprites_73_body (fX12_sprites_73 m) t L tb (gZm (σ.1 23 1)) (gHg (σ.1 23 1)) f e (Int32.ofNat i)) _
      unfold fX3_drawSprites_51_body fX12_sprites_73_body
      have hs := hS.1
      have hd := hS.2.1
      refine zp2_if (fun _ => t_144 hS) (fun q => ?_)
      have hi2 : i < 64 := by
        have : ¬ 64 ≤ i := fun z => q ((z_ofL (c := 64) (k := 64) (i := i) (by omega) rfl).mpr z)
        omega
      refine zp2_bil p_vb (fun s1 u e1 => ?_)
      cases e1
      refine zp2_bir (p_v8 h.1 hd.v) (fun t1 u e1 => ?_)
      cases e1
      rw [vb_of hs.v]
      obtain ⟨u, eu⟩ : ∃ u, u = vb σ (tb + Int32.ofNat i) := ⟨_, rfl⟩
      rw [← eu]
      have g1 : s.1 23 1 = σ.1 23 1 := hs.r (by decide)
      have next : ∀ (s t : zSt) (f : Int32), zr 0 8 f → zSi σ μ s0 t0 s t → zp2 (fX3_drawSprites_138 (fX3_drawSprites_51 n) s L tb e f (Int32.ofNat i)) (fX12_sprites_349 (fX12_sprites_73 m) t L tb (gZm (σ.1 23 1)) (gHg (σ.1 23 1)) f e (Int32.ofNat i)) (zSe σ μ s0 t0) := fun s t f a b => by
        unfold fX3_drawSprites_138 fX12_sprites_349
        rw [z_ofS (by omega)]
        exact zp2_bvl (fun v ev => zp2_bvr (fun w ew => by rw [ev, ew]; exact ih m (i + 1) s t f (by omega) a b))
      have main : zp2 (fX3_drawSprites_86 (fX3_drawSprites_51 n) s L tb e f (Int32.ofNat i) u) (fX12_sprites_104 (fX12_sprites_73 m) t L tb (gZm (σ.1 23 1)) (gHg (σ.1 23 1)) f e (Int32.ofNat i) u) (zSe σ μ s0 t0) := by
        obtain ⟨z1, z2, z3⟩ := z_row (sh := σ.1 23 1) (L := L) (u := u)
        unfold fX3_drawSprites_86 fX12_sprites_104
        refine zp2_bil p_row (fun s1 v1 e1 => zp2_bvr (fun v14 e14 => ?_))
        cases e1
        rw [g1]
        subst e14
        by_cases p : gHg (σ.1 23 1) ≤ gRow (σ.1 23 1) L u
        · rw [if_pos p]
          refine zp2_ifl (fun _ => zp2_ifr (fun z => absurd z (z1.mp p)) (fun _ => next s t f hf hS)) (fun z => absurd (by decide) z)
        rw [if_neg p]
        have lt : (((L - u) - 1) &&& 255) < gHg (σ.1 23 1) * gZm (σ.1 23 1) := Decidable.byContradiction (fun z => p (z1.mpr z))
        refine zp2_ifl (fun z => absurd z (zq_lt z3 rfl (by decide))) (fun _ => zp2_ifr (fun _ => ?_) (fun z => absurd lt z))
        refine zp2_bvl (fun v6 e6 => ?_)
        have tf : (f + 1).toInt = f.toInt + 1 := z_tadd hf (zr_c (lo := 1) (hi := 1) (x := 1) (by decide)) (by decide)
        have f0 := hf.1
        have f8 := hf.2
        have e8 : v6 ≤ 8 ↔ ¬ f = 8 := by
          rw [e6, Int32.le_iff_toInt_le, ← Int32.toInt_inj, tf, show (8 : Int32).toInt = 8 from rfl]
          omega
        refine zp2_ifn e8 (fun _ c8 => ?_) (fun _ c8 => ?_)
        · have rf : zr 0 8 (f + 1) := ⟨by omega, by have : ¬ f.toInt = 8 := fun z => c8 (Int32.toInt_inj.mp z); omega⟩
          subst e6
          refine zp2_bvr (fun v15 e15 => ?_)
          subst e15
          obtain ⟨ti, eA, pM⟩ := m_sprite h hd (k73 := fX12_sprites_73 m) (tb := tb) (f := f + 1) (e := e) (nn := Int32.ofNat i) p
          refine zp2_subr pM (zp2_usub (c_sprite h hs) ?_)
          have hz : zZm (σ.1 23 1 &&& 1) (gZm (σ.1 23 1)) := by
            unfold gZm
            obtain ⟨c, ec⟩ := z_byteF h.r1
            rcases v_and1 c with z | z
            · rw [← ec] at z
              rw [if_pos z]
              exact Or.inl ⟨z, rfl⟩
            · rw [← ec] at z
              rw [if_neg (by rw [z]; decide)]
              exact Or.inr ⟨z, rfl⟩
          exact t_111 h hz eA (fun s' t' q' => next s' t' (f + 1) rf q') zfuel zfuel 0 _ t (by decide) hS.pl zsi_ej
        · have r15 : zr 0 255 (s.1 23 15) := hS.2.2.2.2.2.2.2.2.2
          have e62 : zgi t 3 (62 : Int32).toNatClampNeg = s.1 23 15 := hS.2.2.2.2.2.2.2.2.1
          refine zp2_bul (P := fun r => r = zsi s 23 15 (s.1 23 15 ||| 64)) (by unfold fX9_mark; exact zpc_ck (zpc_ck (zpc_bv (fun s1 f1 => zpc_some f1)))) (fun s1 f1 => zp2_ckr (zp2_ckr (zp2_bvr (fun t1 g1 => ?_))))
          rw [e62] at g1
          rw [f1, g1]
          exact t_144 (hS.st (zr_or (lo := 0) (hi := 255) 8 r15 (zr_c (lo := 64) (hi := 64) (x := 64) (by decide)) (by decide)))
      exact zp2_if (fun _ => main) (fun _ => zp2_if (fun _ => t_144 hS) (fun _ => main))
theorem v_tab : ∀ c : Fin 256, 256 * (zrem (Int32.ofNat c.val / 2) 64) = 256 * ((Int32.ofNat c.val >>> ((1 : Int32) &&& 31)) &&& 63) := by decide +kernel
/-- sprites over tiles, both sides -/
theorem t_sprites (h : zVe σ μ) (hs : zdC σ s) (hd : zdM μ t) (hst : zStt s t) (h24 : ∀ j : Nat, j < 256 → t.1 24 j = 0) {L : Int32} : zp2 (fX3_drawSprites s L) (fX12_sprites t L) (zSe σ μ s t) := by
  have f0 : t.1 3 47 = σ.1 23 0 := h.ej hd (j := 0) (by decide)
  have f1 : t.1 3 48 = σ.1 23 1 := h.ej hd (j := 1) (by decide)
  have f5 : t.1 3 (47 + (5 : Int32)).toNatClampNeg = σ.1 23 5 := h.ej hd (j := 5) (by decide)
  have pM := p_heightM (μ := t) (by rw [f0]; exact h.r0) (by rw [f1]; exact h.r1)
  rw [f0, f1] at pM
  have b0 := p_bit_1_0 (μ := t) (by rw [f1]; exact h.r1)
  have b1 := p_bit_1_1 (μ := t) (by rw [f1]; exact h.r1)
  rw [f1] at b0 b1
  unfold fX3_drawSprites fX12_sprites
  unfold fJ7_fill_53178_k28
  refine zp2_bul (c_fill28 (σ := σ) (s0 := s) (v := 0) zfuel 0 s (by decide) hs rfl rfl rfl (fun j hj => absurd hj (by omega))) (fun s1 q => ?_)
  obtain ⟨q1, q2, q3, q4, q5⟩ := q
  have g0 : s1.1 23 0 = σ.1 23 0 := q1.r (by decide)
  have g1 : s1.1 23 1 = σ.1 23 1 := q1.r (by decide)
  have g5 : s1.1 23 (5 : Int32).toNatClampNeg = σ.1 23 5 := q1.r (j := 5) (by decide)
  have pC := p_heightC (σ := s1) (by rw [g0]; exact h.r0) (by rw [g1]; exact h.r1)
  rw [g0, g1] at pC
  refine zp2_bil (p_held (x := 5) (zr_c (by decide))) (fun s2 v2 e2 => zp2_bvl (fun tb etb => ?_))
  cases e2
  rw [g5] at etb
  refine zp2_bil pC (fun s2 v2 e2 => ?_)
  cases e2
  refine zp2_bir p_reg (fun t2 v2 e2 => zp2_ckr (zp2_ckr (zp2_bvr (fun tb' etb' => ?_))))
  cases e2
  rw [f5] at etb'
  have etb' : tb' = tb := by
    rw [etb', etb]
    obtain ⟨c, ec⟩ := z_byteF (h.rj (j := 5) (by decide))
    rw [ec]
    exact v_tab c
  subst etb'
  have hS : zSi σ μ s t s1 t := by
    refine ⟨q1, hd, q2, q3, rfl, rfl, rfl, fun j hj => ?_, ?_⟩
    · rw [q5 j hj, h24 j hj]
      exact ⟨zr_c (by decide), by rw [if_pos (by decide)]⟩
    · unfold zStt
      rw [q4]
      exact hst
  have fin : ∀ y z e e' : Int32, z = gZm (σ.1 23 1) → y = gHg (σ.1 23 1) → e = e' → zp2 (fX3_drawSprites_44 s1 L tb' e) (fX12_sprites_68 t L tb' z y 0 e') (zSe σ μ s t) := fun y z e e' ez ey ee => by
    unfold fX3_drawSprites_44 fX12_sprites_68
    rw [ez, ey, ee]
    exact t_51 h zfuel zfuel 0 s1 t 0 (by decide) (zr_c (by decide)) hS
  have l48 : ∀ y z : Int32, z = gZm (σ.1 23 1) → y = gHg (σ.1 23 1) → zp2 (if zht (σ.1 23 0) (σ.1 23 1) = 192 then fX3_drawSprites_44 s1 L tb' 1 else fX3_drawSprites_44 s1 L tb' 0) (fX12_sprites_48 t L tb' z y) (zSe σ μ s t) := fun y z ez ey => by
    unfold fX12_sprites_48
    refine zp2_bir pM (fun t2 v2 e2 => ?_)
    cases e2
    exact zp2_if (fun _ => fin y z 1 1 ez ey rfl) (fun _ => fin y z 0 0 ez ey rfl)
  have l30 : ∀ z : Int32, z = gZm (σ.1 23 1) → zp2 (if zht (σ.1 23 0) (σ.1 23 1) = 192 then fX3_drawSprites_44 s1 L tb' 1 else fX3_drawSprites_44 s1 L tb' 0) (fX12_sprites_30 t L tb' z) (zSe σ μ s t) := fun z ez => by
    unfold fX12_sprites_30
    refine zp2_bir b1 (fun t2 v2 e2 => ?_)
    cases e2
    by_cases q : σ.1 23 1 &&& 2 = 0
    · rw [if_pos q]
      exact zp2_ifr (fun z => absurd z (by decide)) (fun _ => l48 8 z ez (by unfold gHg; rw [if_pos q]))
    · rw [if_neg q]
      exact zp2_ifr (fun _ => l48 16 z ez (by unfold gHg; rw [if_neg q])) (fun z => absurd rfl z)
  refine zp2_bir b0 (fun t2 v2 e2 => ?_)
  cases e2
  by_cases q : σ.1 23 1 &&& 1 = 0
  · rw [if_pos q]
    exact zp2_ifr (fun z => absurd z (by decide)) (fun _ => l30 1 (by unfold gZm; rw [if_pos q]))
  · rw [if_neg q]
    exact zp2_ifr (fun _ => l30 2 (by unfold gZm; rw [if_neg q])) (fun z => absurd rfl z)
end ZT6
end ZJN47
section ZJN48
/-! THE PAINTER, 7: COLOURS -/
noncomputable def gHc (c : Int32) : Int32 := ((5 * (c &&& 3)) + (80 * ((c >>> ((2 : Int32) &&& 31)) &&& 3))) + (1280 * (c >>> ((4 : Int32) &&& 31)))
noncomputable def gCo (σ : zSt) (m v : Int32) : Int32 := if m = 4 then (if σ.1 3 1 = 0 then σ.1 23 (32 + v).toNatClampNeg &&& 63 else (σ.1 23 (32 + (2 * v)).toNatClampNeg ||| (σ.1 23 ((32 + (2 * v)) + 1).toNatClampNeg <<< ((8 : Int32) &&& 31))) &&& 4095) else (if σ.1 3 1 = 0 then zt3 (v &&& 15).toNatClampNeg else gHc (zt3 (v &&& 15).toNatClampNeg))
theorem v_gHc : ∀ c : Fin 64, ((5 * (zrem (Int32.ofNat c.val) 4)) + (80 * (zrem (Int32.ofNat c.val / 4) 4))) + (1280 * (Int32.ofNat c.val / 16)) = gHc (Int32.ofNat c.val) := by decide +kernel
section ZT7
variable {σ μ s t : zSt}
theorem zdC.h (h : zdC σ s) : s.1 3 1 = σ.1 3 1 := zQ.o h (k := 3) (a := 0) (b := 6) rfl (by decide) (by decide)
theorem c_mix {m : Int32} {o : zSt} : ∀ (n i : Nat) (s : zSt), i ≤ 32 → zdC σ s → s.1 27 = o.1 27 → s.1 25 = o.1 25 → s.1 23 = o.1 23 → (∀ j : Nat, j < i → s.1 29 j = gCo σ m (Int32.ofNat j)) → zpc (fX3_mixColours_2 n s m (Int32.ofNat i)) (fun r => zdC σ r ∧ r.1 27 = o.1 27 ∧ r.1 25 = o.1 25 ∧ r.1 23 = o.1 23 ∧ ∀ j : Nat, j < 32 → r.1 29 j = gCo σ m (Int32.ofNat j)) := by
  intro n
  induction n with
  | zero => intro i s _ _ _ _ _ _; exact zpc_none
  | succ n ih =>
    intro i s hi hd e27 e25 e23 hin
    show zpc (fX3_mixColours_2_body (fX3_mixColours_2 n) s m (Int32.ofNat i)) _
    unfold fX3_mixColours_2_body
    refine zpc_if (fun q => zpc_some ?_) (fun q => ?_)
    · have := (z_ofL (k := 32) (by omega) rfl).mp q
      exact ⟨hd, e27, e25, e23, fun j hj => hin j (by omega)⟩
    have hi2 : i < 32 := by
      have : ¬ 32 ≤ i := fun z => q ((z_ofL (c := 32) (k := 32) (i := i) (by omega) rfl).mpr z)
      omega
    have ri : zr 0 31 (Int32.ofNat i) := z_ofr (by omega) (by omega)
    have nx : ∀ v, v = gCo σ m (Int32.ofNat i) → zpc (zck (zin (Int32.ofNat i) 32) (zbv (zsi s 29 ((Int32.ofNat i).toNatClampNeg) v) (fun σ2 => fX3_mixColours_130 (fX3_mixColours_2 n) σ2 m (Int32.ofNat i)))) (fun r => zdC σ r ∧ r.1 27 = o.1 27 ∧ r.1 25 = o.1 25 ∧ r.1 23 = o.1 23 ∧ ∀ j : Nat, j < 32 → r.1 29 j = gCo σ m (Int32.ofNat j)) := fun v ev => by
      unfold fX3_mixColours_130
      rw [z_ofC (by omega), z_ofS (by omega)]
      refine zpc_ck (zpc_bv (fun s1 g1 => zpc_bv (fun x ex => ?_)))
      subst ex
      refine ih (i + 1) s1 (by omega) (by rw [g1]; exact zQ.wi hd rfl) (by rw [g1, zsi_ne (by decide)]; exact e27) (by rw [g1, zsi_ne (by decide)]; exact e25) (by rw [g1, zsi_ne (by decide)]; exact e23) (fun j hj => ?_)
      by_cases z : j = i
      · rw [z, g1, zsi_ej, ev]
      · rw [g1, zsi_nj z]; exact hin j (by omega)
    have g31 : zgi s 3 1 = σ.1 3 1 := hd.h
    rw [g31]
    refine zpc_if (fun m4 => ?_) (fun m4 => ?_)
    · refine zpc_if (fun q0 => ?_) (fun q0 => ?_)
      · have rr : zr 32 63 (32 + Int32.ofNat i) := zr_add (zr_c (lo := 32) (hi := 32) (x := 32) (by decide)) ri (by decide)
        refine zpc_bi (p_held (zr_w rr (by decide))) (fun s1 v1 e1 => ?_)
        cases e1
        unfold fX3_mixColours_78
        refine nx _ ?_
        have k := z_clamp (x := 32 + Int32.ofNat i) (by have := rr.1; omega)
        have k2 := rr.1
        have k3 := rr.2
        unfold gCo
        rw [if_pos m4, if_pos q0, hd.r2 (by omega) (by omega)]
      · have r2 : zr 0 62 (2 * Int32.ofNat i) := zr_mul (zr_c (lo := 2) (hi := 2) (x := 2) (by decide)) ri (by decide)
        have rr : zr 32 94 (32 + 2 * Int32.ofNat i) := zr_add (zr_c (lo := 32) (hi := 32) (x := 32) (by decide)) r2 (by decide)
        have rs : zr 33 95 (32 + 2 * Int32.ofNat i + 1) := zr_add rr (zr_c (lo := 1) (hi := 1) (x := 1) (by decide)) (by decide)
        refine zpc_bi (p_held (zr_w rr (by decide))) (fun s1 v1 e1 => ?_)
        cases e1
        refine zpc_bi (p_held (zr_w rs (by decide))) (fun s1 v1 e1 => ?_)
        cases e1
        unfold fX3_mixColours_78
        refine nx _ ?_
        have k := z_clamp (x := 32 + 2 * Int32.ofNat i) (by have := rr.1; omega)
        have k2 := rr.1
        have k3 := rr.2
        have l := z_clamp (x := 32 + 2 * Int32.ofNat i + 1) (by have := rs.1; omega)
        have l2 := rs.1
        have l3 := rs.2
        unfold gCo
        rw [if_pos m4, if_neg q0, hd.r2 (j := (32 + 2 * Int32.ofNat i).toNatClampNeg) (by omega) (by omega), hd.r2 (j := (32 + 2 * Int32.ofNat i + 1).toNatClampNeg) (by omega) (by omega)]
    · refine zpc_ck (zpc_bv (fun v4 e4 => ?_))
      unfold fX3_mixColours_129
      refine zpc_if (fun q0 => nx _ ?_) (fun q0 => nx _ ?_)
      · unfold gCo; rw [if_neg m4, if_pos q0, e4]
      · unfold gCo; rw [if_neg m4, if_neg q0, e4]; rfl
theorem z_cr (h : zE σ μ) {j : Nat} (hj : j < 64) : μ.1 8 j &&& 255 = σ.1 23 (32 + j) := by
  have q := h.at (z_pn23_32 (d := j) hj)
  rw [Nat.zero_add] at q
  exact q
theorem z_63 {x : Int32} : x &&& 63 = (x &&& 255) &&& 63 := by
  rw [Int32.and_assoc]
  rfl
theorem z_4096 {a b : Int32} (ha : zr 0 255 a) (hb : zr 0 255 b) : zrem (a ||| (b <<< ((8 : Int32) &&& 31))) 4096 = (a ||| (b <<< ((8 : Int32) &&& 31))) &&& 4095 := by
  have r : zr 0 65535 (a ||| (b <<< ((8 : Int32) &&& 31))) := zr_or (lo := 0) (hi := 65535) 16 ha (zr_shl (lo := 0) (hi := 65280) 8 rfl hb (by decide)) (by decide)
  exact z_remm 12 r rfl rfl (by decide) (by decide)
/-- the reference's colour -/
theorem m_col (h : zVe σ μ) (hd : zdM μ t) {v : Nat} (hv : v < 32) (hm : zmd (σ.1 23 0) (σ.1 23 1) = 4 ∨ v < 16) : zpc (fX12_colour t (Int32.ofNat v)) (fun r => r = (t, gCo σ (zmd (σ.1 23 0) (σ.1 23 1)) (Int32.ofNat v))) := by
  have f0 : t.1 3 47 = σ.1 23 0 := h.ej hd (j := 0) (by decide)
  have f1 : t.1 3 48 = σ.1 23 1 := h.ej hd (j := 1) (by decide)
  have pm := p_modeM (μ := t) (by rw [f0]; exact h.r0) (by rw [f1]; exact h.r1)
  rw [f0, f1] at pm
  have e03 : zgi t 0 3 = μ.1 0 3 := zQ.o hd (k := 0) (a := 0) (b := 30) rfl (by decide) (by decide)
  have t8 : t.1 8 = μ.1 8 := zQ.ro hd (k := 8) rfl
  obtain ⟨k0, k1, k2, k3, k4, k5⟩ := h.2.2.1
  have kk : (σ.1 3 1 = 0 ↔ ¬ μ.1 0 3 = 2) := by
    rw [k3]
    by_cases q : μ.1 0 3 = 2
    · rw [if_pos q]; exact ⟨fun z => absurd z (by decide), fun z => absurd q z⟩
    · rw [if_neg q]; exact ⟨fun _ => q, fun _ => rfl⟩
  unfold fX12_colour
  refine zpc_bi pm (fun t1 v1 e1 => ?_)
  cases e1
  obtain ⟨M, eM⟩ : ∃ M, M = zmd (σ.1 23 0) (σ.1 23 1) := ⟨_, rfl⟩
  rw [← eM] at hm
  rw [← eM, e03]
  have ri : zr 0 31 (Int32.ofNat v) := z_ofr (by omega) (by omega)
  have ci := z_ofC (i := v) (by omega)
  refine zpc_if (fun m4 => ?_) (fun m4 => ?_)
  · unfold fX12_colour_62
    refine zpc_if (fun q => zpc_ck (zpc_ck (zpc_ck (zpc_some ?_)))) (fun q => zpc_ck (zpc_some ?_))
    · have r2 : zr 0 62 (2 * Int32.ofNat v) := zr_mul (zr_c (lo := 2) (hi := 2) (x := 2) (by decide)) ri (by decide)
      have t2 : (2 * Int32.ofNat v).toInt = 2 * (Int32.ofNat v).toInt := z_tmul (zr_c (lo := 2) (hi := 2) (x := 2) (by decide)) ri (by decide)
      rw [z_ofI (by omega)] at t2
      have c2 := z_clamp r2.1
      have i2 : (2 * Int32.ofNat v).toNatClampNeg = 2 * v := by omega
      have o2 : (32 + 2 * Int32.ofNat v).toNatClampNeg = 32 + 2 * v := by rw [z_off r2 (k := 32) rfl (by decide), i2]
      have r3 : zr 1 63 (2 * Int32.ofNat v + 1) := zr_add r2 (zr_c (lo := 1) (hi := 1) (x := 1) (by decide)) (by decide)
      have t3 := z_tadd r2 (zr_c (lo := 1) (hi := 1) (x := 1) (by decide)) (by decide)
      rw [show (1 : Int32).toInt = 1 from rfl] at t3
      have c3 := z_clamp (x := 2 * Int32.ofNat v + 1) (by have := r3.1; omega)
      have i3 : (2 * Int32.ofNat v + 1).toNatClampNeg = 2 * v + 1 := by omega
      have o3 : (32 + 2 * Int32.ofNat v + 1).toNatClampNeg = 32 + (2 * v + 1) := by
        have e : 32 + 2 * Int32.ofNat v + 1 = 32 + (2 * Int32.ofNat v + 1) := Int32.add_assoc _ _ _
        rw [e, z_off (x := 2 * Int32.ofNat v + 1) (c := 32) (k := 32) (a := 0) (b := 63) (zr_w r3 (by decide)) rfl (by decide), i3]
      unfold gCo
      rw [if_pos m4, if_neg (fun z => (kk.mp z) q), o2, o3, ← z_cr h.1 (j := 2 * v) (by omega), ← z_cr h.1 (j := 2 * v + 1) (by omega)]
      show (t, zrem ((t.1 8 (2 * Int32.ofNat v).toNatClampNeg &&& 255) ||| ((t.1 8 (2 * Int32.ofNat v + 1).toNatClampNeg &&& 255) <<< ((8 : Int32) &&& 31))) 4096) = _
      rw [t8, i2, i3, z_4096 (z_r8 _) (z_r8 _)]
    · have o1 : (32 + Int32.ofNat v).toNatClampNeg = 32 + v := by rw [z_off ri (k := 32) rfl (by decide), ci]
      unfold gCo
      rw [if_pos m4, if_pos (kk.mpr q), o1, ← z_cr h.1 (j := v) (by omega), ← z_63]
      show (t, t.1 8 (Int32.ofNat v).toNatClampNeg &&& 63) = _
      rw [t8, ci]
  · have v16 : v < 16 := hm.resolve_left m4
    have fin : ∀ c : Int32, zr 0 63 c → c = zt3 (Int32.ofNat v &&& 15).toNatClampNeg → zpc (fX12_colour_217 t c) (fun r => r = (t, gCo σ M (Int32.ofNat v))) := fun c rc ec => by
      unfold fX12_colour_217 fX12_colour_252
      rw [e03]
      refine zpc_if (fun q => zpc_ck (zpc_ck (zpc_ck (zpc_ck (zpc_some ?_))))) (fun q => zpc_some ?_)
      · unfold gCo
        rw [if_neg m4, if_neg (fun z => (kk.mp z) q), ← ec]
        obtain ⟨d, ed⟩ := z_F (m := 64) rc (by decide)
        rw [ed, v_gHc d]
      · unfold gCo
        rw [if_neg m4, if_pos (kk.mpr q), ec]
    have cs : v = 0 ∨ v = 1 ∨ v = 2 ∨ v = 3 ∨ v = 4 ∨ v = 5 ∨ v = 6 ∨ v = 7 ∨ v = 8 ∨ v = 9 ∨ v = 10 ∨ v = 11 ∨ v = 12 ∨ v = 13 ∨ v = 14 ∨ v = 15 := by omega
    rcases cs with z | z | z | z | z | z | z | z | z | z | z | z | z | z | z | z
    · subst z; exact zpc_if (fun y => absurd y (by decide)) (fun _ => zpc_if (fun y => absurd y (by decide)) (fun _ => zpc_if (fun y => absurd y (by decide)) (fun _ => zpc_if (fun y => absurd y (by decide)) (fun _ => zpc_if (fun y => absurd y (by decide)) (fun _ => zpc_if (fun y => absurd y (by decide)) (fun _ => zpc_if (fun y => absurd y (by decide)) (fun _ => zpc_if (fun y => absurd y (by decide)) (fun _ => zpc_if (fun y => absurd y (by decide)) (fun _ => zpc_if (fun y => absurd y (by decide)) (fun _ => zpc_if (fun y => absurd y (by decide)) (fun _ => zpc_if (fun y => absurd y (by decide)) (fun _ => zpc_if (fun y => absurd y (by decide)) (fun _ => zpc_if (fun y => absurd y (by decide)) (fun _ => (fin 0 (zr_c (by decide)) rfl)))))))))))))))
    · subst z; exact zpc_if (fun y => absurd y (by decide)) (fun _ => zpc_if (fun y => absurd y (by decide)) (fun _ => zpc_if (fun y => absurd y (by decide)) (fun _ => zpc_if (fun y => absurd y (by decide)) (fun _ => zpc_if (fun y => absurd y (by decide)) (fun _ => zpc_if (fun y => absurd y (by decide)) (fun _ => zpc_if (fun y => absurd y (by decide)) (fun _ => zpc_if (fun y => absurd y (by decide)) (fun _ => zpc_if (fun y => absurd y (by decide)) (fun _ => zpc_if (fun y => absurd y (by decide)) (fun _ => zpc_if (fun y => absurd y (by decide)) (fun _ => zpc_if (fun y => absurd y (by decide)) (fun _ => zpc_if (fun y => absurd y (by decide)) (fun _ => zpc_if (fun y => absurd y (by decide)) (fun _ => (fin 0 (zr_c (by decide)) rfl)))))))))))))))
    · subst z; exact zpc_if (fun _ => (fin 8 (zr_c (by decide)) rfl)) (fun y => absurd rfl y)
    · subst z; exact zpc_if (fun y => absurd y (by decide)) (fun _ => zpc_if (fun _ => (fin 12 (zr_c (by decide)) rfl)) (fun y => absurd rfl y))
    · subst z; exact zpc_if (fun y => absurd y (by decide)) (fun _ => zpc_if (fun y => absurd y (by decide)) (fun _ => zpc_if (fun _ => (fin 16 (zr_c (by decide)) rfl)) (fun y => absurd rfl y)))
    · subst z; exact zpc_if (fun y => absurd y (by decide)) (fun _ => zpc_if (fun y => absurd y (by decide)) (fun _ => zpc_if (fun y => absurd y (by decide)) (fun _ => zpc_if (fun _ => (fin 48 (zr_c (by decide)) rfl)) (fun y => absurd rfl y))))
    · subst z; exact zpc_if (fun y => absurd y (by decide)) (fun _ => zpc_if (fun y => absurd y (by decide)) (fun _ => zpc_if (fun y => absurd y (by decide)) (fun _ => zpc_if (fun y => absurd y (by decide)) (fun _ => zpc_if (fun _ => (fin 1 (zr_c (by decide)) rfl)) (fun y => absurd rfl y)))))
    · subst z; exact zpc_if (fun y => absurd y (by decide)) (fun _ => zpc_if (fun y => absurd y (by decide)) (fun _ => zpc_if (fun y => absurd y (by decide)) (fun _ => zpc_if (fun y => absurd y (by decide)) (fun _ => zpc_if (fun y => absurd y (by decide)) (fun _ => zpc_if (fun _ => (fin 60 (zr_c (by decide)) rfl)) (fun y => absurd rfl y))))))
    · subst z; exact zpc_if (fun y => absurd y (by decide)) (fun _ => zpc_if (fun y => absurd y (by decide)) (fun _ => zpc_if (fun y => absurd y (by decide)) (fun _ => zpc_if (fun y => absurd y (by decide)) (fun _ => zpc_if (fun y => absurd y (by decide)) (fun _ => zpc_if (fun y => absurd y (by decide)) (fun _ => zpc_if (fun _ => (fin 2 (zr_c (by decide)) rfl)) (fun y => absurd rfl y)))))))
    · subst z; exact zpc_if (fun y => absurd y (by decide)) (fun _ => zpc_if (fun y => absurd y (by decide)) (fun _ => zpc_if (fun y => absurd y (by decide)) (fun _ => zpc_if (fun y => absurd y (by decide)) (fun _ => zpc_if (fun y => absurd y (by decide)) (fun _ => zpc_if (fun y => absurd y (by decide)) (fun _ => zpc_if (fun y => absurd y (by decide)) (fun _ => zpc_if (fun _ => (fin 3 (zr_c (by decide)) rfl)) (fun y => absurd rfl y))))))))
    · subst z; exact zpc_if (fun y => absurd y (by decide)) (fun _ => zpc_if (fun y => absurd y (by decide)) (fun _ => zpc_if (fun y => absurd y (by decide)) (fun _ => zpc_if (fun y => absurd y (by decide)) (fun _ => zpc_if (fun y => absurd y (by decide)) (fun _ => zpc_if (fun y => absurd y (by decide)) (fun _ => zpc_if (fun y => absurd y (by decide)) (fun _ => zpc_if (fun y => absurd y (by decide)) (fun _ => zpc_if (fun _ => (fin 5 (zr_c (by decide)) rfl)) (fun y => absurd rfl y)))))))))
    · subst z; exact zpc_if (fun y => absurd y (by decide)) (fun _ => zpc_if (fun y => absurd y (by decide)) (fun _ => zpc_if (fun y => absurd y (by decide)) (fun _ => zpc_if (fun y => absurd y (by decide)) (fun _ => zpc_if (fun y => absurd y (by decide)) (fun _ => zpc_if (fun y => absurd y (by decide)) (fun _ => zpc_if (fun y => absurd y (by decide)) (fun _ => zpc_if (fun y => absurd y (by decide)) (fun _ => zpc_if (fun y => absurd y (by decide)) (fun _ => zpc_if (fun _ => (fin 15 (zr_c (by decide)) rfl)) (fun y => absurd rfl y))))))))))
    · subst z; exact zpc_if (fun y => absurd y (by decide)) (fun _ => zpc_if (fun y => absurd y (by decide)) (fun _ => zpc_if (fun y => absurd y (by decide)) (fun _ => zpc_if (fun y => absurd y (by decide)) (fun _ => zpc_if (fun y => absurd y (by decide)) (fun _ => zpc_if (fun y => absurd y (by decide)) (fun _ => zpc_if (fun y => absurd y (by decide)) (fun _ => zpc_if (fun y => absurd y (by decide)) (fun _ => zpc_if (fun y => absurd y (by decide)) (fun _ => zpc_if (fun y => absurd y (by decide)) (fun _ => zpc_if (fun _ => (fin 4 (zr_c (by decide)) rfl)) (fun y => absurd rfl y)))))))))))
    · subst z; exact zpc_if (fun y => absurd y (by decide)) (fun _ => zpc_if (fun y => absurd y (by decide)) (fun _ => zpc_if (fun y => absurd y (by decide)) (fun _ => zpc_if (fun y => absurd y (by decide)) (fun _ => zpc_if (fun y => absurd y (by decide)) (fun _ => zpc_if (fun y => absurd y (by decide)) (fun _ => zpc_if (fun y => absurd y (by decide)) (fun _ => zpc_if (fun y => absurd y (by decide)) (fun _ => zpc_if (fun y => absurd y (by decide)) (fun _ => zpc_if (fun y => absurd y (by decide)) (fun _ => zpc_if (fun y => absurd y (by decide)) (fun _ => zpc_if (fun _ => (fin 51 (zr_c (by decide)) rfl)) (fun y => absurd rfl y))))))))))))
    · subst z; exact zpc_if (fun y => absurd y (by decide)) (fun _ => zpc_if (fun y => absurd y (by decide)) (fun _ => zpc_if (fun y => absurd y (by decide)) (fun _ => zpc_if (fun y => absurd y (by decide)) (fun _ => zpc_if (fun y => absurd y (by decide)) (fun _ => zpc_if (fun y => absurd y (by decide)) (fun _ => zpc_if (fun y => absurd y (by decide)) (fun _ => zpc_if (fun y => absurd y (by decide)) (fun _ => zpc_if (fun y => absurd y (by decide)) (fun _ => zpc_if (fun y => absurd y (by decide)) (fun _ => zpc_if (fun y => absurd y (by decide)) (fun _ => zpc_if (fun y => absurd y (by decide)) (fun _ => zpc_if (fun _ => (fin 21 (zr_c (by decide)) rfl)) (fun y => absurd rfl y)))))))))))))
    · subst z; exact zpc_if (fun y => absurd y (by decide)) (fun _ => zpc_if (fun y => absurd y (by decide)) (fun _ => zpc_if (fun y => absurd y (by decide)) (fun _ => zpc_if (fun y => absurd y (by decide)) (fun _ => zpc_if (fun y => absurd y (by decide)) (fun _ => zpc_if (fun y => absurd y (by decide)) (fun _ => zpc_if (fun y => absurd y (by decide)) (fun _ => zpc_if (fun y => absurd y (by decide)) (fun _ => zpc_if (fun y => absurd y (by decide)) (fun _ => zpc_if (fun y => absurd y (by decide)) (fun _ => zpc_if (fun y => absurd y (by decide)) (fun _ => zpc_if (fun y => absurd y (by decide)) (fun _ => zpc_if (fun y => absurd y (by decide)) (fun _ => zpc_if (fun _ => (fin 63 (zr_c (by decide)) rfl)) (fun y => absurd rfl y))))))))))))))
/-- the painter's work keeps the relation -/
theorem zVe.draw (h : zVe σ μ) (hs : zdC σ s) (hd : zdM μ t) (hst : zStt s t) (hp : ∀ j : Nat, j < 61440 → t.1 9 j = s.1 25 j) : zVe s t := by
  have chk : (zTb.all (fun e => Nat.beq e.1 25 || ((Nat.beq e.1 23 && Nat.beq e.2.1 0) || (zof [25, 27, 28, 29] [(3, 7, 8), (23, 15, 15)] e.1 e.2.1 (e.2.1 + e.2.2.1 - 1) && zof [22, 23, 24, 25, 9] [(3, 62, 62)] e.2.2.2.1 e.2.2.2.2.1 (e.2.2.2.2.1 + e.2.2.1 - 1))))) = true := by decide +kernel
  have chg : (zGt.all (fun e => (Nat.beq e.1 23 && Nat.beq e.2.1 15) || zof [25, 27, 28, 29] [(3, 7, 8), (23, 15, 15)] e.1 e.2.1 (e.2.1 + e.2.2.1 - 1))) = true := by decide +kernel
  have only25 : ∀ e ∈ zTb, e.1 = 25 → e = (25, 0, 61440, 9, 0, (-1)) := by decide +kernel
  have only23 : ∀ e ∈ zTb, e.1 = 23 → e.2.1 = 0 → e = (23, 0, 17, 3, 47, (-1)) := by decide +kernel
  rw [List.all_eq_true] at chk chg
  refine h.of (fun e he i hi => ?_) (fun k j a b eg => ?_) ⟨zQ.o hs (k := 0) (a := 0) (b := 0) rfl (by decide) (by decide), zQ.o hs (k := 2) (a := 0) (b := 1) rfl (by decide) (by decide), hs.h, zQ.o hs (k := 6) (a := 0) (b := 0) rfl (by decide) (by decide), zQ.o hs (k := 2) (a := 0) (b := 1) rfl (by decide) (by decide)⟩ (zQ.o hd (k := 0) (a := 3) (b := 3) rfl (by decide) (by decide)) (hs.r2 (by decide) (by decide))
  · have z := chk e he
    rw [Bool.or_eq_true, Bool.or_eq_true, Bool.and_eq_true, Bool.and_eq_true] at z
    rcases z with z | ⟨z1, z2⟩ | ⟨z1, z2⟩
    · have ee := only25 e he (Nat.eq_of_beq_eq_true z)
      subst ee
      show t.1 9 (0 + i) &&& (-1) = s.1 25 (0 + i)
      rw [z_an1, Nat.zero_add]
      exact hp i hi
    · have ee := only23 e he (Nat.eq_of_beq_eq_true z1) (Nat.eq_of_beq_eq_true z2)
      subst ee
      have hi : i < 17 := hi
      show t.1 3 (47 + i) &&& (-1) = s.1 23 (0 + i)
      rw [z_an1, Nat.zero_add]
      by_cases y : i = 15
      · subst y
        exact hst.1
      · by_cases x : i ≤ 14
        · rw [hs.r x]
          exact h.ej hd x
        · have y16 : i = 16 := by omega
          subst y16
          rw [hs.r2 (by decide) (by decide), hd.r2 (by decide) (by decide)]
          exact h.e16
    · rw [zQ.o hs z1 (by omega) (by omega), zQ.o hd z2 (by omega) (by omega)]
      exact h.1 e he i hi
  · obtain ⟨e, he, e1, e2, e3⟩ := zGf_mem eg
    have z := chg e he
    rw [Bool.or_eq_true, Bool.and_eq_true] at z
    rcases z with ⟨z1, z2⟩ | z
    · have y1 : e.1 = 23 := Nat.eq_of_beq_eq_true z1
      have y2 : e.2.1 = 15 := Nat.eq_of_beq_eq_true z2
      have y3 : e.2.2.1 = 1 := by
        have w : ∀ e ∈ zGt, e.1 = 23 → e.2.1 = 15 → e.2.2.1 = 1 := by decide +kernel
        exact w e he y1 y2
      have k23 : k = 23 := e1.symm.trans y1
      have j15 : j = 15 := by omega
      subst k23
      subst j15
      have eg : some ((0 : Int), (255 : Int)) = some (a, b) := eg
      cases eg
      exact hst.2
    · rw [e1] at z
      rw [zQ.o hs z e2 (by omega)]
      exact h.2.1 k j a b eg
/-- the line, dot by dot, into the picture -/
theorem t_302 (h : zVe σ μ) {L : Int32} (hL : zr 0 239 L) : ∀ (n m i : Nat) (s t : zSt), i ≤ 256 → zdC σ s → zdM μ t → zStt s t → (∀ j : Nat, j < 61440 → t.1 9 j = s.1 25 j) → (∀ v : Nat, v < 32 → s.1 29 v = gCo σ (zmd (σ.1 23 0) (σ.1 23 1)) (Int32.ofNat v)) → (∀ j : Nat, j < 256 → ∃ v : Nat, v < 32 ∧ (zmd (σ.1 23 0) (σ.1 23 1) = 4 ∨ v < 16) ∧ t.1 22 j = Int32.ofNat v ∧ s.1 27 j &&& 31 = Int32.ofNat v) → zp2 (fX3_draw_152 n s L (Int32.ofNat i)) (fX12_draws_302 m t L (Int32.ofNat i)) (fun r r' => zVe r r' ∧ zdC σ r ∧ zdM μ r') := by
  intro n
  induction n with
  | zero => intro m i s t _ _ _ _ _ _ _; exact zp2_nl
  | succ n ih =>
    intro m i s t hi hs hd hst hp hc hn
    cases m with
    | zero => exact zp2_nr
    | succ m =>
      show zp2 (fX3_draw_152_body (fX3_draw_152 n) s L (Int32.ofNat i)) (fX12_draws_302_body (fX12_draws_302 m) t L (Int32.ofNat i)) _
      unfold fX3_draw_152_body fX12_draws_302_body
      refine zp2_if (fun _ => zp2_some ⟨h.draw hs hd hst hp, hs, hd⟩) (fun q => ?_)
      have hi2 : i < 256 := by
        have : ¬ 256 ≤ i := fun z => q ((z_ofL (c := 256) (k := 256) (i := i) (by omega) rfl).mpr z)
        omega
      obtain ⟨v, v1, v2, v3, v4⟩ := hn i hi2
      have ci := z_ofC (i := i) (by omega)
      have r6 : zr 0 61184 (256 * L) := zr_mul (zr_c (lo := 256) (hi := 256) (x := 256) (by decide)) hL (by decide)
      have ra : zr 0 61439 (256 * L + Int32.ofNat i) := zr_add r6 (z_ofr (b := 255) (by omega) (by omega)) (by decide)
      have ka := z_clamp ra.1
      have kb := ra.2
      rw [ci, Int32.mul_comm L 256]
      obtain ⟨A, eA⟩ : ∃ A, A = (256 * L + Int32.ofNat i).toNatClampNeg := ⟨_, rfl⟩
      rw [show zgi s 27 i &&& 31 = Int32.ofNat v from v4, show zgi t 22 i = Int32.ofNat v from v3, ← eA, z_ofS (by omega)]
      have hA : A < 61440 := by omega
      refine zp2_ckl (zp2_ckl (zp2_ckl (zp2_bvl (fun s1 f1 => zp2_bvl (fun x ex => ?_)))))
      subst ex
      rw [z_ofC (i := v) (by omega), show zgi s 29 v = gCo σ (zmd (σ.1 23 0) (σ.1 23 1)) (Int32.ofNat v) from hc v v1] at f1
      refine zp2_ckr (zp2_bir (m_col h hd v1 v2) (fun t1 w1 e1 => zp2_ckr (zp2_bvr (fun t3 g3 => zp2_bvr (fun x ex => ?_)))))
      cases e1
      subst ex
      refine ih m (i + 1) s1 t3 (by omega) (by rw [f1]; exact zQ.wi hs rfl) (by rw [g3]; exact zQ.wi hd rfl) ?_ (fun j hj => ?_) (fun w hw => ?_) (fun j hj => ?_)
      · unfold zStt
        rw [f1, g3, zsi_ne (by decide), zsi_ne (by decide)]
        exact hst
      · rw [f1, g3]
        by_cases z : j = A
        · rw [z, zsi_ej, zsi_ej]
        · rw [zsi_nj z, zsi_nj z]; exact hp j hj
      · rw [f1, zsi_ne (by decide)]; exact hc w hw
      · rw [f1, g3, zsi_ne (by decide), zsi_ne (by decide)]; exact hn j hj
end ZT7
end ZJN48
section ZJN49
/-! THE PAINTER, 8: THE FOURTH MODE, AND NO PICTURE -/
section ZT8
variable {σ μ s t : zSt}
theorem c_fill27 {v : Int32} {o : zSt} : ∀ (n i : Nat) (s : zSt), i ≤ 256 → zdC σ s → s.1 25 = o.1 25 → s.1 23 = o.1 23 → (∀ j : Nat, j < i → s.1 27 j = v) → zpc (fJ7_fill_53178_k27_5 n s v (Int32.ofNat i) 256) (fun r => zdC σ r ∧ r.1 25 = o.1 25 ∧ r.1 23 = o.1 23 ∧ ∀ j : Nat, j < 256 → r.1 27 j = v) := by
  intro n
  induction n with
  | zero => intro i s _ _ _ _ _; exact zpc_none
  | succ n ih =>
    intro i s hi hd e25 e23 hin
    show zpc (fJ7_fill_53178_k27_5_body (fJ7_fill_53178_k27_5 n) s v (Int32.ofNat i) 256) _
    unfold fJ7_fill_53178_k27_5_body
    refine zpc_if (fun q => zpc_some ?_) (fun q => ?_)
    · have := (z_ofL (k := 256) (by omega) rfl).mp q
      exact ⟨hd, e25, e23, fun j hj => hin j (by omega)⟩
    have hi2 : i < 256 := by
      have : ¬ 256 ≤ i := fun z => q ((z_ofL (c := 256) (k := 256) (i := i) (by omega) rfl).mpr z)
      omega
    rw [z_ofC (by omega), z_ofS (by omega)]
    refine zpc_ck (zpc_bv (fun s1 g1 => zpc_bv (fun x ex => ?_)))
    subst ex
    refine ih (i + 1) s1 (by omega) (by rw [g1]; exact zQ.wi hd rfl) (by rw [g1, zsi_ne (by decide)]; exact e25) (by rw [g1, zsi_ne (by decide)]; exact e23) (fun j hj => ?_)
    by_cases z : j = i
    · rw [z, g1, zsi_ej]
    · rw [g1, zsi_nj z]; exact hin j (by omega)
theorem c_fill8 {v : Int32} {o : zSt} : ∀ (n i : Nat) (s : zSt), i ≤ 8 → zdC σ s → s.1 25 = o.1 25 → s.1 23 = o.1 23 → (∀ j : Nat, j < i → s.1 27 j = v) → (∀ j : Nat, i ≤ j → s.1 27 j = o.1 27 j) → zpc (fJ7_fill_fda19_k27_10 n s 8 v (Int32.ofNat i)) (fun r => zdC σ r ∧ r.1 25 = o.1 25 ∧ r.1 23 = o.1 23 ∧ ∀ j : Nat, j < 256 → r.1 27 j = if j < 8 then v else o.1 27 j) := by
  intro n
  induction n with
  | zero => intro i s _ _ _ _ _ _; exact zpc_none
  | succ n ih =>
    intro i s hi hd e25 e23 hin hout
    show zpc (fJ7_fill_fda19_k27_10_body (fJ7_fill_fda19_k27_10 n) s 8 v (Int32.ofNat i)) _
    unfold fJ7_fill_fda19_k27_10_body
    refine zpc_if (fun q => zpc_some ?_) (fun q => ?_)
    · have := (z_ofL (k := 8) (by omega) rfl).mp q
      refine ⟨hd, e25, e23, fun j hj => ?_⟩
      by_cases z : j < 8
      · rw [if_pos z]; exact hin j (by omega)
      · rw [if_neg z]; exact hout j (by omega)
    have hi2 : i < 8 := by
      have : ¬ 8 ≤ i := fun z => q ((z_ofL (c := 8) (k := 8) (i := i) (by omega) rfl).mpr z)
      omega
    rw [z_ofC (by omega), z_ofS (by omega)]
    refine zpc_ck (zpc_bv (fun s1 g1 => zpc_bv (fun x ex => ?_)))
    subst ex
    refine ih (i + 1) s1 (by omega) (by rw [g1]; exact zQ.wi hd rfl) (by rw [g1, zsi_ne (by decide)]; exact e25) (by rw [g1, zsi_ne (by decide)]; exact e23) (fun j hj => ?_) (fun j hj => by rw [g1, zsi_nj (by omega)]; exact hout j (by omega))
    by_cases z : j = i
    · rw [z, g1, zsi_ej]
    · rw [g1, zsi_nj z]; exact hin j (by omega)
/-- what a line's dots are -/
noncomputable def zDt (σ s t : zSt) : Prop := ∀ j : Nat, j < 256 → ∃ v : Nat, v < 32 ∧ (zmd (σ.1 23 0) (σ.1 23 1) = 4 ∨ v < 16) ∧ t.1 22 j = Int32.ofNat v ∧ s.1 27 j &&& 31 = Int32.ofNat v
noncomputable def zFi (σ μ r r' : zSt) : Prop := zVe r r' ∧ zdC σ r ∧ zdM μ r'
theorem t_d144 (h : zVe σ μ) {L : Int32} (hL : zr 0 239 L) (hs : zdC σ s) (hd : zdM μ t) (hst : zStt s t) (hp : ∀ j : Nat, j < 61440 → t.1 9 j = s.1 25 j) (hn : zDt σ s t) : zp2 (fX3_draw_144 s L (zmd (σ.1 23 0) (σ.1 23 1))) (fX12_draws_302 zfuel t L 0) (zFi σ μ) := by
  unfold fX3_draw_144 fX3_mixColours
  refine zp2_bul (c_mix (σ := σ) (o := s) zfuel 0 s (by decide) hs rfl rfl rfl (fun j hj => absurd hj (by omega))) (fun s1 q => ?_)
  obtain ⟨q1, q2, q3, q4, q5⟩ := q
  refine t_302 h hL zfuel zfuel 0 s1 t (by decide) q1 hd ?_ (fun j hj => ?_) q5 (fun j hj => ?_)
  · unfold zStt
    rw [q4]
    exact hst
  · rw [q3]; exact hp j hj
  · rw [q2]; exact hn j hj
theorem v_bk : ∀ c : Fin 256, (Int32.ofNat c.val &&& 15) = Int32.ofNat (c.val % 16) ∧ zrem (Int32.ofNat c.val) 16 = Int32.ofNat (c.val % 16) := by decide +kernel
theorem v_31 : ∀ c : Fin 32, Int32.ofNat c.val &&& 31 = Int32.ofNat c.val := by decide +kernel
theorem v_16p : ∀ c : Fin 16, 16 + Int32.ofNat c.val = Int32.ofNat (16 + c.val) ∧ 0 + Int32.ofNat c.val = Int32.ofNat c.val := by decide +kernel
theorem v_oc : ∀ c : Fin 32, (Int32.ofNat c.val + 0) &&& 31 = Int32.ofNat c.val ∧ (Int32.ofNat c.val + 256) &&& 31 = Int32.ofNat c.val ∧ (Int32.ofNat c.val + 0) &&& 256 = 0 ∧ ¬ (Int32.ofNat c.val + 256) &&& 256 = 0 := by decide +kernel
/-- the fourth mode -/
theorem t_mode4 (h : zVe σ μ) {L bk : Int32} {b : Nat} (hL : zr 0 239 L) (hb : bk = Int32.ofNat b) (hb2 : b < 32) (hm : zmd (σ.1 23 0) (σ.1 23 1) = 4) (hs : zdC σ s) (hd : zdM μ t) (hst : zStt s t) (hp : ∀ j : Nat, j < 61440 → t.1 9 j = s.1 25 j) (h24 : ∀ j : Nat, j < 256 → t.1 24 j = 0 ∧ t.1 25 j = 0) : zp2 (zbu (fX3_drawTiles s L) (fun σ12 => zbu (fX3_drawSprites σ12 L) (fun σ13 => zbi (fX9_held σ13 0) (fun σ14 v15 => if (v15 &&& 32) = 0 then fX3_draw_144 σ14 L (zmd (σ.1 23 0) (σ.1 23 1)) else zbu (fJ7_fill_fda19_k27 σ14 0 8 bk) (fun σ16 => fX3_draw_144 σ16 L (zmd (σ.1 23 0) (σ.1 23 1))))))) (fX12_draws_97 zfuel t L bk 0) (zFi σ μ) := by
  refine zp2_bul (c_tiles (L := L) h hs) (fun s1 q => ?_)
  obtain ⟨⟨q1, q3, q4⟩, q2⟩ := q
  refine m_97 h hL (o := t) zfuel 0 t (by decide) hd rfl rfl h24 (fun j hj => absurd hj (by omega)) (fun t1 hd1 e3 e9 h24' e22 => ?_)
  have hst1 : zStt s1 t1 := by
    unfold zStt
    rw [q4, e3]
    exact hst
  refine zp2_buu (t_sprites h q1 hd1 hst1 (fun j hj => (h24' j hj).1)) (fun r t2 q => ?_)
  obtain ⟨w1, w2, w3, w4, w5, w6, w7, w8⟩ := q
  have hpr : ∀ j : Nat, j < 61440 → t2.1 9 j = r.1 25 j := fun j hj => by rw [w6, w3, e9, q3]; exact hp j hj
  have g0 : r.1 23 (0 : Int32).toNatClampNeg = σ.1 23 0 := w1.r (j := 0) (by decide)
  refine zp2_bil (p_held (x := 0) (zr_c (by decide))) (fun r1 v1 e1 => ?_)
  cases e1
  rw [g0]
  -- the dots behind the sprites
  have dots : ∀ j : Nat, j < 256 → ∃ v : Nat, v < 32 ∧ (if t2.1 24 j ≤ 0 then t2.1 22 j else if t2.1 23 j = 0 then t2.1 24 j else t2.1 22 j) = Int32.ofNat v ∧ r.1 27 j &&& 31 = Int32.ofNat v := fun j hj => by
    obtain ⟨z1, z2⟩ := w8 j hj
    obtain ⟨y1, y2⟩ := e22 j hj
    have x1 := q2 j hj
    obtain ⟨N, eN⟩ : ∃ N, N = tNu σ (tNm σ) (tAc σ L) (tSt σ) (tDn σ L) L (Int32.ofNat j) := ⟨_, rfl⟩
    obtain ⟨w, ew⟩ : ∃ w, w = tBi σ (tNm σ) (tAc σ L) (tSt σ) (tDn σ L) L (Int32.ofNat j) := ⟨_, rfl⟩
    rw [← eN, ← ew] at y1 y2 x1
    have rN : zr 0 15 N := by
      rw [eN]
      unfold tNu
      refine (z_gnum h.1 ?_).2
      have r7 : zr 0 7 (tCo (tAc σ L) (Int32.ofNat j) &&& 7) := zr_andr (lo := 0) (hi := 7) (zr_c (lo := 7) (hi := 7) (by decide)) (by decide)
      unfold tPc
      by_cases q : tBi σ (tNm σ) (tAc σ L) (tSt σ) (tDn σ L) L (Int32.ofNat j) &&& 512 = 0
      · rw [if_pos q]; exact r7
      · rw [if_neg q]; exact zr_sub (lo := 0) (hi := 7) (zr_c (lo := 7) (hi := 7) (x := 7) (by decide)) r7 (by decide)
    have r16 : zr 0 16 (o16 w) := by
      unfold o16
      by_cases q : w &&& 2048 = 0
      · rw [if_pos q]; exact zr_c (by decide)
      · rw [if_neg q]; exact zr_c (by decide)
    have rS : zr 0 31 (N + o16 w) := zr_add rN r16 (by decide)
    obtain ⟨c, ec⟩ := z_F (m := 32) rS (by decide)
    obtain ⟨c1, c2, c3, c4⟩ := v_oc c
    rw [← ec] at c1 c2 c3 c4
    obtain ⟨d, ed⟩ := z_F (m := 32) z1 (by decide)
    have d1 := v_31 d
    rw [← ed] at d1
    have ox : s1.1 27 j = (N + o16 w) + (if oAh N w = 0 then 0 else 256) := x1
    rw [w5, w4, y1, y2, z2, ox]
    by_cases a : t2.1 24 j ≤ 0
    · rw [if_pos a, if_pos a]
      refine ⟨c.val, c.isLt, ec, ?_⟩
      by_cases b : oAh N w = 0
      · rw [if_pos b, c1, ec]
      · rw [if_neg b, c2, ec]
    · rw [if_neg a, if_neg a]
      by_cases b : oAh N w = 0
      · rw [if_pos b, if_pos b, if_pos c3]
        exact ⟨d.val, d.isLt, ed, by rw [d1, ed]⟩
      · rw [if_neg b, if_neg b, if_neg c4]
        exact ⟨c.val, c.isLt, ec, by rw [c2, ec]⟩
  refine m_123 (μ := μ) (o := t2) zfuel 0 t2 (by decide) w2 rfl rfl rfl rfl (fun j hj => absurd hj (by omega)) (fun _ _ => rfl) (fun t3 hd3 a3 a9 a22 => ?_)
  refine m_168 h (o := t3) zfuel 0 t3 (by decide) hd3 rfl rfl (Or.inl rfl) (fun j hj => absurd hj (by omega)) (fun _ _ => rfl) (fun t4 hd4 b3 b9 b22 => ?_)
  have st4 : ∀ r2 : zSt, r2.1 23 = r.1 23 → zStt r2 t4 := fun r2 e => by
    unfold zStt
    rw [e, b3, a3]
    exact w7
  have pp4 : ∀ r2 : zSt, r2.1 25 = r.1 25 → ∀ j : Nat, j < 61440 → t4.1 9 j = r2.1 25 j := fun r2 e j hj => by
    rw [e, b9, a9]
    exact hpr j hj
  by_cases p : σ.1 23 0 &&& 32 = 0
  · rw [if_pos p]
    refine t_d144 h hL w1 hd4 (st4 r rfl) (pp4 r rfl) (fun j hj => ?_)
    obtain ⟨v, v1, v2, v3⟩ := dots j hj
    refine ⟨v, v1, Or.inl hm, ?_, v3⟩
    rw [b22 j hj, if_neg (fun z => z.2 p), a22 j hj]
    exact v2
  · rw [if_neg p]
    unfold fJ7_fill_fda19_k27 fJ7_rangeCheck_23922
    refine zp2_ubu (P := fun x => x = r) (zpc_if (fun _ => zpc_if (fun _ => zpc_if (fun _ => zpc_some rfl) (fun z => absurd (by decide) z)) (fun z => absurd (by decide) z)) (fun z => absurd (by decide) z)) (fun r1 e1 => ?_)
    subst e1
    refine zp2_bul (c_fill8 (σ := σ) (o := r1) zfuel 0 r1 (by decide) w1 rfl rfl (fun j hj => absurd hj (by omega)) (fun _ _ => rfl)) (fun r2 q => ?_)
    obtain ⟨u1, u2, u3, u4⟩ := q
    refine t_d144 h hL u1 hd4 (st4 r2 u3) (pp4 r2 u2) (fun j hj => ?_)
    by_cases z : j < 8
    · refine ⟨b, hb2, Or.inl hm, ?_, ?_⟩
      · rw [b22 j hj, if_pos ⟨z, p⟩, hb]
      · rw [u4 j hj, if_pos z, hb]
        exact v_31 ⟨b, hb2⟩
    · obtain ⟨v, v1, v2, v3⟩ := dots j hj
      refine ⟨v, v1, Or.inl hm, ?_, ?_⟩
      · rw [b22 j hj, if_neg (fun y => z y.1), a22 j hj]
        exact v2
      · rw [u4 j hj, if_neg z]
        exact v3
end ZT8
end ZJN49
