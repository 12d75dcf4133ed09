/-! bits, modes, heights; answers at literal arguments -/
theorem z_byteF {b : Int32} (h : zr 0 255 b) : ∃ i : Fin 256, b = Int32.ofNat i.val := by
  obtain ⟨h0, h1⟩ := h
  obtain ⟨i, hi⟩ : ∃ i : Nat, b.toInt = i := ⟨b.toInt.toNat, by omega⟩
  exact ⟨⟨i, by omega⟩, z_ofN hi⟩
theorem z_b0f : ∀ i : Fin 256, ((Int32.ofNat i.val) >>> ((0 : Int32) &&& 31)) &&& 1 = if (Int32.ofNat i.val) &&& 1 = 0 then 0 else 1 := by decide +kernel
theorem z_b0 {b : Int32} (h : zr 0 255 b) : (b >>> ((0 : Int32) &&& 31)) &&& 1 = if b &&& 1 = 0 then 0 else 1 := by
  obtain ⟨i, e⟩ := z_byteF h
  rw [e]
  exact z_b0f i
theorem z_b1f : ∀ i : Fin 256, ((Int32.ofNat i.val) >>> ((1 : Int32) &&& 31)) &&& 1 = if (Int32.ofNat i.val) &&& 2 = 0 then 0 else 1 := by decide +kernel
theorem z_b1 {b : Int32} (h : zr 0 255 b) : (b >>> ((1 : Int32) &&& 31)) &&& 1 = if b &&& 2 = 0 then 0 else 1 := by
  obtain ⟨i, e⟩ := z_byteF h
  rw [e]
  exact z_b1f i
theorem z_b2f : ∀ i : Fin 256, ((Int32.ofNat i.val) >>> ((2 : Int32) &&& 31)) &&& 1 = if (Int32.ofNat i.val) &&& 4 = 0 then 0 else 1 := by decide +kernel
theorem z_b2 {b : Int32} (h : zr 0 255 b) : (b >>> ((2 : Int32) &&& 31)) &&& 1 = if b &&& 4 = 0 then 0 else 1 := by
  obtain ⟨i, e⟩ := z_byteF h
  rw [e]
  exact z_b2f i
theorem z_b3f : ∀ i : Fin 256, ((Int32.ofNat i.val) >>> ((3 : Int32) &&& 31)) &&& 1 = if (Int32.ofNat i.val) &&& 8 = 0 then 0 else 1 := by decide +kernel
theorem z_b3 {b : Int32} (h : zr 0 255 b) : (b >>> ((3 : Int32) &&& 31)) &&& 1 = if b &&& 8 = 0 then 0 else 1 := by
  obtain ⟨i, e⟩ := z_byteF h
  rw [e]
  exact z_b3f i
theorem z_b4f : ∀ i : Fin 256, ((Int32.ofNat i.val) >>> ((4 : Int32) &&& 31)) &&& 1 = if (Int32.ofNat i.val) &&& 16 = 0 then 0 else 1 := by decide +kernel
theorem z_b4 {b : Int32} (h : zr 0 255 b) : (b >>> ((4 : Int32) &&& 31)) &&& 1 = if b &&& 16 = 0 then 0 else 1 := by
  obtain ⟨i, e⟩ := z_byteF h
  rw [e]
  exact z_b4f i
theorem z_b5f : ∀ i : Fin 256, ((Int32.ofNat i.val) >>> ((5 : Int32) &&& 31)) &&& 1 = if (Int32.ofNat i.val) &&& 32 = 0 then 0 else 1 := by decide +kernel
theorem z_b5 {b : Int32} (h : zr 0 255 b) : (b >>> ((5 : Int32) &&& 31)) &&& 1 = if b &&& 32 = 0 then 0 else 1 := by
  obtain ⟨i, e⟩ := z_byteF h
  rw [e]
  exact z_b5f i
theorem z_b6f : ∀ i : Fin 256, ((Int32.ofNat i.val) >>> ((6 : Int32) &&& 31)) &&& 1 = if (Int32.ofNat i.val) &&& 64 = 0 then 0 else 1 := by decide +kernel
theorem z_b6 {b : Int32} (h : zr 0 255 b) : (b >>> ((6 : Int32) &&& 31)) &&& 1 = if b &&& 64 = 0 then 0 else 1 := by
  obtain ⟨i, e⟩ := z_byteF h
  rw [e]
  exact z_b6f i
theorem z_b7f : ∀ i : Fin 256, ((Int32.ofNat i.val) >>> ((7 : Int32) &&& 31)) &&& 1 = if (Int32.ofNat i.val) &&& 128 = 0 then 0 else 1 := by decide +kernel
theorem z_b7 {b : Int32} (h : zr 0 255 b) : (b >>> ((7 : Int32) &&& 31)) &&& 1 = if b &&& 128 = 0 then 0 else 1 := by
  obtain ⟨i, e⟩ := z_byteF h
  rw [e]
  exact z_b7f i
theorem z_s7f : ∀ i : Fin 256, (127 < Int32.ofNat i.val ↔ ¬ (Int32.ofNat i.val) &&& 128 = 0) := by decide +kernel
theorem z_s7 {b : Int32} (h : zr 0 255 b) : 127 < b ↔ ¬ b &&& 128 = 0 := by
  obtain ⟨i, e⟩ := z_byteF h
  rw [e]
  exact z_s7f i
theorem z_46f : ∀ i : Fin 256, ((Int32.ofNat i.val) &&& 6 = 6 ↔ (¬ (Int32.ofNat i.val) &&& 4 = 0 ∧ ¬ (Int32.ofNat i.val) &&& 2 = 0)) := by decide +kernel
theorem z_46 {b : Int32} (h : zr 0 255 b) : b &&& 6 = 6 ↔ (¬ b &&& 4 = 0 ∧ ¬ b &&& 2 = 0) := by
  obtain ⟨i, e⟩ := z_byteF h
  rw [e]
  exact z_46f i
theorem z_24f : ∀ i : Fin 256, ((Int32.ofNat i.val) &&& 24 = 8 ↔ ((Int32.ofNat i.val) &&& 16 = 0 ∧ ¬ (Int32.ofNat i.val) &&& 8 = 0)) ∧ ((Int32.ofNat i.val) &&& 24 = 16 ↔ (¬ (Int32.ofNat i.val) &&& 16 = 0 ∧ (Int32.ofNat i.val) &&& 8 = 0)) := by decide +kernel
theorem z_24 {b : Int32} (h : zr 0 255 b) : (b &&& 24 = 8 ↔ (b &&& 16 = 0 ∧ ¬ b &&& 8 = 0)) ∧ (b &&& 24 = 16 ↔ (¬ b &&& 16 = 0 ∧ b &&& 8 = 0)) := by
  obtain ⟨i, e⟩ := z_byteF h
  rw [e]
  exact z_24f i
theorem p_bit_0_1 {μ : zSt} (h : zr 0 255 (μ.1 3 47)) : zpc (fX12_bit μ 0 1) (fun x => x = (μ, if μ.1 3 47 &&& 2 = 0 then 0 else 1)) := by
  unfold fX12_bit
  refine zpc_ck (zpc_some ?_)
  show (μ, (μ.1 3 47 >>> ((1 : Int32) &&& 31)) &&& 1) = _
  rw [z_b1 h]
theorem p_bit_0_2 {μ : zSt} (h : zr 0 255 (μ.1 3 47)) : zpc (fX12_bit μ 0 2) (fun x => x = (μ, if μ.1 3 47 &&& 4 = 0 then 0 else 1)) := by
  unfold fX12_bit
  refine zpc_ck (zpc_some ?_)
  show (μ, (μ.1 3 47 >>> ((2 : Int32) &&& 31)) &&& 1) = _
  rw [z_b2 h]
theorem p_bit_0_3 {μ : zSt} (h : zr 0 255 (μ.1 3 47)) : zpc (fX12_bit μ 0 3) (fun x => x = (μ, if μ.1 3 47 &&& 8 = 0 then 0 else 1)) := by
  unfold fX12_bit
  refine zpc_ck (zpc_some ?_)
  show (μ, (μ.1 3 47 >>> ((3 : Int32) &&& 31)) &&& 1) = _
  rw [z_b3 h]
theorem p_bit_0_4 {μ : zSt} (h : zr 0 255 (μ.1 3 47)) : zpc (fX12_bit μ 0 4) (fun x => x = (μ, if μ.1 3 47 &&& 16 = 0 then 0 else 1)) := by
  unfold fX12_bit
  refine zpc_ck (zpc_some ?_)
  show (μ, (μ.1 3 47 >>> ((4 : Int32) &&& 31)) &&& 1) = _
  rw [z_b4 h]
theorem p_bit_0_5 {μ : zSt} (h : zr 0 255 (μ.1 3 47)) : zpc (fX12_bit μ 0 5) (fun x => x = (μ, if μ.1 3 47 &&& 32 = 0 then 0 else 1)) := by
  unfold fX12_bit
  refine zpc_ck (zpc_some ?_)
  show (μ, (μ.1 3 47 >>> ((5 : Int32) &&& 31)) &&& 1) = _
  rw [z_b5 h]
theorem p_bit_0_6 {μ : zSt} (h : zr 0 255 (μ.1 3 47)) : zpc (fX12_bit μ 0 6) (fun x => x = (μ, if μ.1 3 47 &&& 64 = 0 then 0 else 1)) := by
  unfold fX12_bit
  refine zpc_ck (zpc_some ?_)
  show (μ, (μ.1 3 47 >>> ((6 : Int32) &&& 31)) &&& 1) = _
  rw [z_b6 h]
theorem p_bit_0_7 {μ : zSt} (h : zr 0 255 (μ.1 3 47)) : zpc (fX12_bit μ 0 7) (fun x => x = (μ, if μ.1 3 47 &&& 128 = 0 then 0 else 1)) := by
  unfold fX12_bit
  refine zpc_ck (zpc_some ?_)
  show (μ, (μ.1 3 47 >>> ((7 : Int32) &&& 31)) &&& 1) = _
  rw [z_b7 h]
theorem p_bit_1_0 {μ : zSt} (h : zr 0 255 (μ.1 3 48)) : zpc (fX12_bit μ 1 0) (fun x => x = (μ, if μ.1 3 48 &&& 1 = 0 then 0 else 1)) := by
  unfold fX12_bit
  refine zpc_ck (zpc_some ?_)
  show (μ, (μ.1 3 48 >>> ((0 : Int32) &&& 31)) &&& 1) = _
  rw [z_b0 h]
theorem p_bit_1_1 {μ : zSt} (h : zr 0 255 (μ.1 3 48)) : zpc (fX12_bit μ 1 1) (fun x => x = (μ, if μ.1 3 48 &&& 2 = 0 then 0 else 1)) := by
  unfold fX12_bit
  refine zpc_ck (zpc_some ?_)
  show (μ, (μ.1 3 48 >>> ((1 : Int32) &&& 31)) &&& 1) = _
  rw [z_b1 h]
theorem p_bit_1_3 {μ : zSt} (h : zr 0 255 (μ.1 3 48)) : zpc (fX12_bit μ 1 3) (fun x => x = (μ, if μ.1 3 48 &&& 8 = 0 then 0 else 1)) := by
  unfold fX12_bit
  refine zpc_ck (zpc_some ?_)
  show (μ, (μ.1 3 48 >>> ((3 : Int32) &&& 31)) &&& 1) = _
  rw [z_b3 h]
theorem p_bit_1_4 {μ : zSt} (h : zr 0 255 (μ.1 3 48)) : zpc (fX12_bit μ 1 4) (fun x => x = (μ, if μ.1 3 48 &&& 16 = 0 then 0 else 1)) := by
  unfold fX12_bit
  refine zpc_ck (zpc_some ?_)
  show (μ, (μ.1 3 48 >>> ((4 : Int32) &&& 31)) &&& 1) = _
  rw [z_b4 h]
theorem p_bit_1_5 {μ : zSt} (h : zr 0 255 (μ.1 3 48)) : zpc (fX12_bit μ 1 5) (fun x => x = (μ, if μ.1 3 48 &&& 32 = 0 then 0 else 1)) := by
  unfold fX12_bit
  refine zpc_ck (zpc_some ?_)
  show (μ, (μ.1 3 48 >>> ((5 : Int32) &&& 31)) &&& 1) = _
  rw [z_b5 h]
theorem p_bit_1_6 {μ : zSt} (h : zr 0 255 (μ.1 3 48)) : zpc (fX12_bit μ 1 6) (fun x => x = (μ, if μ.1 3 48 &&& 64 = 0 then 0 else 1)) := by
  unfold fX12_bit
  refine zpc_ck (zpc_some ?_)
  show (μ, (μ.1 3 48 >>> ((6 : Int32) &&& 31)) &&& 1) = _
  rw [z_b6 h]
theorem p_bit_3_7 {μ : zSt} (h : zr 0 255 (μ.1 3 50)) : zpc (fX12_bit μ 3 7) (fun x => x = (μ, if μ.1 3 50 &&& 128 = 0 then 0 else 1)) := by
  unfold fX12_bit
  refine zpc_ck (zpc_some ?_)
  show (μ, (μ.1 3 50 >>> ((7 : Int32) &&& 31)) &&& 1) = _
  rw [z_b7 h]
theorem p_bit_4_2 {μ : zSt} (h : zr 0 255 (μ.1 3 51)) : zpc (fX12_bit μ 4 2) (fun x => x = (μ, if μ.1 3 51 &&& 4 = 0 then 0 else 1)) := by
  unfold fX12_bit
  refine zpc_ck (zpc_some ?_)
  show (μ, (μ.1 3 51 >>> ((2 : Int32) &&& 31)) &&& 1) = _
  rw [z_b2 h]
theorem p_bit_6_2 {μ : zSt} (h : zr 0 255 (μ.1 3 53)) : zpc (fX12_bit μ 6 2) (fun x => x = (μ, if μ.1 3 53 &&& 4 = 0 then 0 else 1)) := by
  unfold fX12_bit
  refine zpc_ck (zpc_some ?_)
  show (μ, (μ.1 3 53 >>> ((2 : Int32) &&& 31)) &&& 1) = _
  rw [z_b2 h]
def zmd (a b : Int32) : Int32 := if a &&& 4 = 0 then (if b &&& 16 = 0 then (if b &&& 8 = 0 then (if a &&& 2 = 0 then 0 else 2) else 3) else 1) else 4
def zht (a b : Int32) : Int32 := if a &&& 4 = 0 then 192 else (if a &&& 2 = 0 then 192 else (if b &&& 16 = 0 then (if b &&& 8 = 0 then 192 else 240) else (if b &&& 8 = 0 then 224 else 192)))
section ZMH
variable {σ μ : zSt}
theorem p_modeC : zpc (fX9_mode σ ) (fun r => r = (σ, zmd (σ.1 23 0) (σ.1 23 1))) := by
  unfold fX9_mode fX9_mode_57 zmd
  refine zpc_ck (zpc_if (fun q1 => zpc_ck (zpc_if (fun q2 => zpc_ck (zpc_if (fun q3 => zpc_ck (zpc_if (fun q4 => zpc_some ?_) (fun q4 => zpc_some ?_))) (fun q3 => zpc_some ?_))) (fun q2 => zpc_some ?_))) (fun q1 => zpc_some ?_))
  · rw [if_pos (show σ.1 23 0 &&& 4 = 0 from q1), if_pos (show σ.1 23 1 &&& 16 = 0 from q2), if_pos (show σ.1 23 1 &&& 8 = 0 from q3), if_pos (show σ.1 23 0 &&& 2 = 0 from q4)]
  · rw [if_pos (show σ.1 23 0 &&& 4 = 0 from q1), if_pos (show σ.1 23 1 &&& 16 = 0 from q2), if_pos (show σ.1 23 1 &&& 8 = 0 from q3), if_neg (show ¬ σ.1 23 0 &&& 2 = 0 from q4)]
  · rw [if_pos (show σ.1 23 0 &&& 4 = 0 from q1), if_pos (show σ.1 23 1 &&& 16 = 0 from q2), if_neg (show ¬ σ.1 23 1 &&& 8 = 0 from q3)]
  · rw [if_pos (show σ.1 23 0 &&& 4 = 0 from q1), if_neg (show ¬ σ.1 23 1 &&& 16 = 0 from q2)]
  · rw [if_neg (show ¬ σ.1 23 0 &&& 4 = 0 from q1)]
theorem zpc_bit {α : Type} {c : Prop} {d : Decidable c} {q : Option (zSt × Int32)} {f : zSt → Int32 → Option α} {Q : α → Prop} (h : zpc q (fun x => x = (μ, @ite _ c d 0 1))) (k0 : c → zpc (f μ 0) Q) (k1 : ¬ c → zpc (f μ 1) Q) : zpc (zbi q f) Q := by
  refine zpc_bi h (fun s v e => ?_)
  by_cases g : c
  · rw [if_pos g] at e; cases e; exact k0 g
  · rw [if_neg g] at e; cases e; exact k1 g
theorem p_modeM (h0 : zr 0 255 (μ.1 3 47)) (h1 : zr 0 255 (μ.1 3 48)) : zpc (fX12_mode μ ) (fun r => r = (μ, zmd (μ.1 3 47) (μ.1 3 48))) := by
  unfold fX12_mode fX12_mode_57 zmd
  refine zpc_bit (p_bit_0_2 h0) (fun q1 => ?_) (fun q1 => zpc_if (fun _ => zpc_some (by rw [if_neg q1])) (fun r => absurd rfl r))
  refine zpc_if (fun r => absurd r (by decide)) (fun _ => ?_)
  refine zpc_bit (p_bit_1_4 h1) (fun q2 => ?_) (fun q2 => zpc_if (fun _ => zpc_some (by rw [if_pos q1, if_neg q2])) (fun r => absurd rfl r))
  refine zpc_if (fun r => absurd r (by decide)) (fun _ => ?_)
  refine zpc_bit (p_bit_1_3 h1) (fun q3 => ?_) (fun q3 => zpc_if (fun _ => zpc_some (by rw [if_pos q1, if_pos q2, if_neg q3])) (fun r => absurd rfl r))
  refine zpc_if (fun r => absurd r (by decide)) (fun _ => ?_)
  refine zpc_bit (p_bit_0_1 h0) (fun q4 => ?_) (fun q4 => zpc_if (fun _ => zpc_some (by rw [if_pos q1, if_pos q2, if_pos q3, if_neg q4])) (fun r => absurd rfl r))
  exact zpc_if (fun r => absurd r (by decide)) (fun _ => zpc_some (by rw [if_pos q1, if_pos q2, if_pos q3, if_pos q4]))
theorem zmd4 {a b : Int32} : zmd a b = 4 ↔ ¬ a &&& 4 = 0 := by
  unfold zmd
  constructor
  · intro h q
    rw [if_pos q] at h
    split at h
    · split at h
      · split at h <;> exact absurd h (by decide)
      · exact absurd h (by decide)
    · exact absurd h (by decide)
  · intro q; rw [if_neg q]
theorem p_heightC (h0 : zr 0 255 (σ.1 23 0)) (h1 : zr 0 255 (σ.1 23 1)) : zpc (fX9_height σ ) (fun r => r = (σ, zht (σ.1 23 0) (σ.1 23 1))) := by
  unfold fX9_height zht
  have e6 := z_46 h0
  have e24 := z_24 h1
  refine zpc_ck (zpc_if (fun q => zpc_ck (zpc_if (fun r => zpc_some ?_) (fun r => zpc_if (fun t => zpc_some ?_) (fun t => zpc_some ?_)))) (fun q => zpc_some ?_))
  · obtain ⟨a, b⟩ := e6.mp q
    obtain ⟨c, d⟩ := e24.1.mp r
    rw [if_neg a, if_neg b, if_pos c, if_neg d]
  · obtain ⟨a, b⟩ := e6.mp q
    obtain ⟨c, d⟩ := e24.2.mp t
    rw [if_neg a, if_neg b, if_neg c, if_pos d]
  · obtain ⟨a, b⟩ := e6.mp q
    rw [if_neg a, if_neg b]
    by_cases c : σ.1 23 1 &&& 16 = 0
    · by_cases d : σ.1 23 1 &&& 8 = 0
      · rw [if_pos c, if_pos d]
      · exact absurd (e24.1.mpr ⟨c, d⟩) r
    · by_cases d : σ.1 23 1 &&& 8 = 0
      · exact absurd (e24.2.mpr ⟨c, d⟩) t
      · rw [if_neg c, if_neg d]
  · by_cases a : σ.1 23 0 &&& 4 = 0
    · rw [if_pos a]
    · by_cases b : σ.1 23 0 &&& 2 = 0
      · rw [if_neg a, if_pos b]
      · exact absurd (e6.mpr ⟨a, b⟩) q
theorem p_heightM (h0 : zr 0 255 (μ.1 3 47)) (h1 : zr 0 255 (μ.1 3 48)) : zpc (fX12_height μ ) (fun r => r = (μ, zht (μ.1 3 47) (μ.1 3 48))) := by
  unfold fX12_height fX12_height_32 fX12_height_55 zht
  refine zpc_bi (p_modeM h0 h1) (fun μ1 v e => ?_)
  cases e
  refine zpc_if (fun q => ?_) (fun q => zpc_some ?_)
  · have a := zmd4.mp q
    rw [if_neg a]
    refine zpc_bit (p_bit_0_1 h0) (fun b => zpc_if (fun _ => zpc_some (by rw [if_pos b])) (fun r => absurd rfl r)) (fun b => ?_)
    refine zpc_if (fun r => absurd r (by decide)) (fun _ => ?_)
    rw [if_neg b]
    refine zpc_bit (p_bit_1_4 h1) (fun c => ?_) (fun c => ?_)
    · rw [if_pos c]
      refine zpc_bit (p_bit_1_3 h1) (fun d => zpc_if (fun _ => zpc_some (by rw [if_pos d])) (fun r => absurd rfl r)) (fun d => ?_)
      refine zpc_if (fun r => absurd r (by decide)) (fun _ => ?_)
      refine zpc_bit (p_bit_1_4 h1) (fun _ => ?_) (fun c' => absurd c c')
      exact zpc_if (fun r => absurd r (by decide)) (fun _ => zpc_some (by rw [if_neg d]))
    · rw [if_neg c]
      refine zpc_bit (p_bit_1_3 h1) (fun d => ?_) (fun d => zpc_if (fun _ => zpc_some (by rw [if_neg d])) (fun r => absurd rfl r))
      refine zpc_if (fun r => absurd r (by decide)) (fun _ => ?_)
      refine zpc_bit (p_bit_1_4 h1) (fun c' => absurd c' c) (fun _ => ?_)
      exact zpc_if (fun _ => zpc_some (by rw [if_pos d])) (fun r => absurd rfl r)
  · have a : μ.1 3 47 &&& 4 = 0 := by
      by_cases a : μ.1 3 47 &&& 4 = 0
      · exact a
      · exact absurd (zmd4.mpr a) q
    rw [if_pos a]
def zhc (b : Int32) : Int32 := if (b * 3) / 4 < 148 then (b * 3) / 4 else (b * 3) / 4 + 85
theorem p_hCountC : zpc (fX9_hCount σ ) (fun r => r = (σ, zhc (σ.1 23 21))) := by
  unfold fX9_hCount fX9_hCount_27 zhc
  refine zpc_ck (zpc_ck (zpc_bv (fun v e => ?_)))
  subst e
  exact zpc_if (fun q => zpc_some (by rw [if_pos (show (σ.1 23 21 * 3) / 4 < 148 from q)]; rfl)) (fun q => zpc_some (by rw [if_neg (show ¬ (σ.1 23 21 * 3) / 4 < 148 from q)]; rfl))
theorem p_hCountM : zpc (fX12_hCount μ ) (fun r => r = (μ, zhc (μ.1 3 67))) := by
  unfold fX12_hCount fX12_hCount_27 zhc
  refine zpc_ck (zpc_ck (zpc_bv (fun v e => ?_)))
  subst e
  exact zpc_if (fun q => zpc_some (by rw [if_neg (show ¬ (μ.1 3 67 * 3) / 4 < 148 from fun r => absurd (Int32.lt_iff_toInt_lt.mp r) (Int.not_lt.mpr (Int32.le_iff_toInt_le.mp q)))]; rfl)) (fun q => zpc_some (by rw [if_pos (show (μ.1 3 67 * 3) / 4 < 148 from z_nle q)]; rfl))
def zvc (l h k : Int32) : Int32 := (if (if k = 1 then (if h = 192 then 243 else if h = 224 then 259 else 267) else (if h = 192 then 219 else if h = 224 then 235 else (262 : Int32))) ≤ l then l - (if k = 1 then 57 else 6) else l) &&& 255
theorem p_vCountC {k : Int32} (h0 : zr 0 255 (σ.1 23 0)) (h1 : zr 0 255 (σ.1 23 1)) (hk : σ.1 2 1 = if k = 1 then 313 else 262) : zpc (fX9_vCount σ ) (fun r => r = (σ, zvc (σ.1 23 20) (zht (σ.1 23 0) (σ.1 23 1)) k)) := by
  unfold fX9_vCount
  refine zpc_bi (p_heightC h0 h1) (fun σ1 v e => ?_)
  cases e
  generalize zht (σ.1 23 0) (σ.1 23 1) = h
  have fin : ∀ f m : Int32, zpc (fX9_vCount_97 σ m f) (fun r => r = (σ, (if f ≤ σ.1 23 20 then σ.1 23 20 - (if m = 0 then 6 else 57) else σ.1 23 20) &&& 255)) := fun f m => by
    unfold fX9_vCount_97 fX9_vCount_136 fX9_vCount_137
    refine zpc_ck (zpc_if (fun q => zpc_ck (zpc_if (fun r => zpc_some ?_) (fun r => zpc_some ?_))) (fun q => zpc_ck (zpc_some ?_)))
    · rw [if_pos (show f ≤ σ.1 23 20 from q), if_pos r]; rfl
    · rw [if_pos (show f ≤ σ.1 23 20 from q), if_neg r]; rfl
    · rw [if_neg (show ¬ f ≤ σ.1 23 20 from q)]; rfl
  unfold fX9_vCount_20 fX9_vCount_61 fX9_vCount_78 fX9_vCount_96 zvc
  by_cases k1 : k = 1
  · rw [if_pos k1] at hk
    rw [if_pos k1, if_pos k1]
    refine zpc_if (fun _ => ?_) (fun q => absurd hk q)
    refine zpc_if (fun a => zpc_if (fun r => absurd r (by decide)) (fun _ => ?_)) (fun a => zpc_if (fun b => zpc_if (fun r => absurd r (by decide)) (fun _ => ?_)) (fun b => zpc_if (fun r => absurd r (by decide)) (fun _ => ?_)))
    · rw [if_pos a]; exact fin 243 1
    · rw [if_neg a, if_pos b]; exact fin 259 1
    · rw [if_neg a, if_neg b]; exact fin 267 1
  · rw [if_neg k1] at hk
    rw [if_neg k1, if_neg k1]
    refine zpc_if (fun q => absurd (hk.symm.trans q) (by decide)) (fun _ => ?_)
    refine zpc_if (fun a => zpc_if (fun _ => ?_) (fun r => absurd rfl r)) (fun a => zpc_if (fun b => zpc_if (fun _ => ?_) (fun r => absurd rfl r)) (fun b => zpc_if (fun _ => ?_) (fun r => absurd rfl r)))
    · rw [if_pos a]; exact fin 219 0
    · rw [if_neg a, if_pos b]; exact fin 235 0
    · rw [if_neg a, if_neg b, show zgi σ 2 1 = 262 from hk]; exact fin 262 0
theorem p_vCountM (h0 : zr 0 255 (μ.1 3 47)) (h1 : zr 0 255 (μ.1 3 48)) (hl : zr 0 312 (μ.1 3 66)) (hl2 : ¬ μ.1 0 3 = 1 → zr 0 261 (μ.1 3 66)) : zpc (fX12_vCount μ ) (fun r => r = (μ, zvc (μ.1 3 66) (zht (μ.1 3 47) (μ.1 3 48)) (μ.1 0 3))) := by
  unfold fX12_vCount
  refine zpc_ck (zpc_bv (fun v e => ?_))
  subst e
  refine zpc_bi (p_heightM h0 h1) (fun μ1 w e => ?_)
  cases e
  generalize zht (μ.1 3 47) (μ.1 3 48) = h
  have fin : ∀ f : Int32, zpc (fX12_vCount_82 μ (μ.1 3 66) f) (fun r => r = (μ, (if f ≤ μ.1 3 66 then μ.1 3 66 - (if μ.1 0 3 = 1 then 57 else 6) else μ.1 3 66) &&& 255)) := fun f => by
    unfold fX12_vCount_82 fX12_vCount_108 fX12_vCount_109
    refine zpc_if (fun q => zpc_if (fun r => zpc_some ?_) (fun r => zpc_some ?_)) (fun q => zpc_some ?_)
    · rw [if_pos q, if_pos (show μ.1 0 3 = 1 from r)]
    · rw [if_pos q, if_neg (show ¬ μ.1 0 3 = 1 from r)]
    · rw [if_neg q]
  unfold zvc
  refine zpc_if (fun k1 => ?_) (fun k1 => ?_)
  · rw [if_pos (show μ.1 0 3 = 1 from k1)]
    refine zpc_if (fun a => ?_) (fun a => zpc_if (fun b => ?_) (fun b => ?_))
    · rw [if_pos a]; exact fin 243
    · rw [if_neg a, if_pos b]; exact fin 259
    · rw [if_neg a, if_neg b]; exact fin 267
  · rw [if_neg (show ¬ μ.1 0 3 = 1 from k1)]
    refine zpc_if (fun a => ?_) (fun a => zpc_if (fun b => ?_) (fun b => ?_))
    · rw [if_pos a]; exact fin 219
    · rw [if_neg a, if_pos b]; exact fin 235
    · rw [if_neg a, if_neg b]
      have f := fin 1000
      rw [if_neg (zq_gef (hl2 k1) (k := 1000) rfl (by decide))] at f
      rw [if_neg (zq_gef (hl2 k1) (k := 262) rfl (by decide))]
      exact f
def zak (a b c d : Int32) : Int32 := if b &&& 32 = 0 then (if a &&& 16 = 0 then 0 else if d = 1 then 1 else 0) else (if c &&& 128 = 0 then (if a &&& 16 = 0 then 0 else if d = 1 then 1 else 0) else 1)
theorem p_asksC : zpc (fX9_asks σ ) (fun r => r = (σ, zak (σ.1 23 0) (σ.1 23 1) (σ.1 23 15) (σ.1 23 16))) := by
  unfold fX9_asks
  have fin : zpc (fX9_asks_26 σ ) (fun r => r = (σ, if σ.1 23 0 &&& 16 = 0 then 0 else if σ.1 23 16 = 1 then 1 else 0)) := by
    unfold fX9_asks_26 fX9_asks_49 fX9_asks_53 fX9_asks_54
    refine zpc_ck (zpc_if (fun q => zpc_ck (zpc_some ?_)) (fun q => zpc_ck (zpc_if (fun r => zpc_ck (zpc_some ?_)) (fun r => zpc_ck (zpc_some ?_)))))
    · rw [if_pos (show σ.1 23 0 &&& 16 = 0 from q)]
    · rw [if_neg (show ¬ σ.1 23 0 &&& 16 = 0 from q), if_pos (show σ.1 23 16 = 1 from r)]
    · rw [if_neg (show ¬ σ.1 23 0 &&& 16 = 0 from q), if_neg (show ¬ σ.1 23 16 = 1 from r)]
  unfold fX9_asks_49 fX9_asks_54 zak
  refine zpc_ck (zpc_if (fun q => ?_) (fun q => zpc_ck (zpc_if (fun r => ?_) (fun r => zpc_ck (zpc_some ?_)))))
  · rw [if_pos (show σ.1 23 1 &&& 32 = 0 from q)]; exact fin
  · rw [if_neg (show ¬ σ.1 23 1 &&& 32 = 0 from q), if_pos (show σ.1 23 15 &&& 128 = 0 from r)]; exact fin
  · rw [if_neg (show ¬ σ.1 23 1 &&& 32 = 0 from q), if_neg (show ¬ σ.1 23 15 &&& 128 = 0 from r)]
theorem p_asksM (h0 : zr 0 255 (μ.1 3 47)) (h1 : zr 0 255 (μ.1 3 48)) (h2 : zr 0 255 (μ.1 3 62)) : zpc (fX12_asks μ ) (fun r => r = (μ, zak (μ.1 3 47) (μ.1 3 48) (μ.1 3 62) (μ.1 3 63))) := by
  unfold fX12_asks
  have fin : zpc (fX12_asks_22 μ ) (fun r => r = (μ, if μ.1 3 47 &&& 16 = 0 then 0 else if μ.1 3 63 = 1 then 1 else 0)) := by
    unfold fX12_asks_22 fX12_asks_43 fX12_asks_47 fX12_asks_48
    refine zpc_bit (p_bit_0_4 h0) (fun q => zpc_if (fun r => absurd r (by decide)) (fun _ => zpc_ck (zpc_some (by rw [if_pos q])))) (fun q => ?_)
    refine zpc_if (fun _ => zpc_ck (zpc_if (fun r => zpc_ck (zpc_some ?_)) (fun r => zpc_ck (zpc_some ?_)))) (fun r => absurd rfl r)
    · rw [if_neg q, if_pos (show μ.1 3 63 = 1 from r)]
    · rw [if_neg q, if_neg (show ¬ μ.1 3 63 = 1 from r)]
  unfold fX12_asks_43 fX12_asks_48 zak
  refine zpc_bit (p_bit_1_5 h1) (fun q => zpc_if (fun r => absurd r (by decide)) (fun _ => by rw [if_pos q]; exact fin)) (fun q => ?_)
  refine zpc_if (fun _ => zpc_ck (zpc_if (fun r => zpc_ck (zpc_some ?_)) (fun r => ?_))) (fun r => absurd rfl r)
  · rw [if_neg q, if_neg ((z_s7 h2).mp r)]
  · have n : μ.1 3 62 &&& 128 = 0 := by
      by_cases n : μ.1 3 62 &&& 128 = 0
      · exact n
      · exact absurd ((z_s7 h2).mpr n) r
    rw [if_neg q, if_pos n]; exact fin
end ZMH
