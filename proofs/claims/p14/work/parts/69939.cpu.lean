/-! THE BLOCKS -/
theorem zbt_l1 : ∀ i, i < 32 → ((2 : Int32).toBitVec.getLsbD i = decide (i = 1)) := by decide
theorem zbt_m1 {x : Int32} : x &&& 2 = bif zbt 1 x then 2 else 0 := by
  refine Int32.toBitVec_inj.1 (BitVec.eq_of_getLsbD_eq (fun i hi => ?_))
  rw [Int32.toBitVec_and, BitVec.getLsbD_and, zbt_l1 i hi]
  unfold zbt
  by_cases q : i = 1
  · subst q
    cases h : x.toBitVec.getLsbD 1 <;> rfl
  · rw [decide_eq_false q, Bool.and_false]
    cases h : x.toBitVec.getLsbD 1
    · exact (BitVec.getLsbD_zero (w := 32)).symm
    · exact ((zbt_l1 i hi).trans (decide_eq_false q)).symm
theorem z_x5 {x : Int32} : bc (if x &&& 2 = 0 then 0 else 1) = zbt 1 x := by
  rw [zbt_m1]
  cases zbt 1 x <;> rfl
theorem z_x3 {x : Int32} : bc (if x &&& 8 = 0 then 0 else 1) = zbt 3 x := by
  rw [zbt_m3]
  cases zbt 3 x <;> rfl
theorem z_x5s {x : Int32} : (x &&& 2) <<< ((4 : Int32) &&& 31) = bif zbt 1 x then 32 else 0 := by
  rw [zbt_m1]
  cases zbt 1 x <;> rfl
theorem v_193f : ∀ i : Fin 256, Int32.ofNat i.val &&& 193 = ((bif decide (¬ Int32.ofNat i.val &&& 128 = 0) then 128 else 0) ||| (bif decide (¬ Int32.ofNat i.val &&& 64 = 0) then 64 else 0)) ||| (bif decide (¬ Int32.ofNat i.val &&& 1 = 0) then 1 else 0) := by decide +kernel
theorem z_193 {f : Int32} (h : zr 0 255 f) : f &&& 193 = ((bif decide (¬ f &&& 128 = 0) then 128 else 0) ||| (bif decide (¬ f &&& 64 = 0) then 64 else 0)) ||| (bif decide (¬ f &&& 1 = 0) then 1 else 0) := by
  obtain ⟨i, e⟩ := z_byteF h
  rw [e]
  exact v_193f i
theorem v_ldB : ∀ b7 b6 b5 b3 b2 b0 : Bool, zfl b7 b6 b5 false b3 b2 false b0 = (((((bif b7 then 128 else 0) ||| (bif b6 then 64 else 0)) ||| (bif b0 then 1 else 0)) ||| (bif b5 then 32 else 0)) ||| (bif b3 then 8 else 0)) ||| (bif b2 then 4 else 0) := by decide
theorem v_cpiB : ∀ i : Fin 256, ∀ h x y n c : Bool, zfl (d7 (Int32.ofNat i.val)) (d6 (Int32.ofNat i.val)) x h y n true c = (((((((bif c then 1 else 0) ||| (Int32.ofNat i.val &&& 128)) ||| (if Int32.ofNat i.val = 0 then 64 else 0)) ||| (bif h then 16 else 0)) ||| (bif x then 32 else 0)) ||| (bif y then 8 else 0)) ||| (bif n then 4 else 0)) ||| 2 := by decide +kernel
theorem v_tellf : ∀ i : Fin 256, ((Int32.ofNat i.val >>> ((6 : Int32) &&& 31)) &&& 2 = bif bc (if Int32.ofNat i.val ≤ 127 then 0 else 1) then 2 else 0) ∧ (cpar (Int32.ofNat i.val) = bif bc (gev (Int32.ofNat i.val)) then 4 else 0) := by decide +kernel
theorem v_tellB : ∀ b7 b6 b5 h b3 b2 n : Bool, zfl b7 b6 b5 h b3 b2 n h = ((zfl b7 b6 b5 false b3 false false false ||| (bif n then 2 else 0)) ||| (bif h then 17 else 0)) ||| (bif b2 then 4 else 0) := by decide
theorem v_bk2 : ∀ i : Fin 256, Int32.ofNat i.val &&& 228 = 160 → (Int32.ofNat i.val &&& 3 = Int32.ofNat i.val &&& 7 ∧ ((Int32.ofNat i.val &&& 8 = 0 ∧ zrem ((Int32.ofNat i.val >>> ((3 : Int32) &&& 31)) &&& 7) 2 = 0) ∨ (Int32.ofNat i.val &&& 8 = 8 ∧ zrem ((Int32.ofNat i.val >>> ((3 : Int32) &&& 31)) &&& 7) 2 = 1)) ∧ (Int32.ofNat i.val &&& 16 = 0 ↔ (Int32.ofNat i.val >>> ((3 : Int32) &&& 31)) &&& 7 < 6) ∧ (Int32.ofNat i.val &&& 2 = 0 ↔ ¬ 2 ≤ Int32.ofNat i.val &&& 7) ∧ (Int32.ofNat i.val &&& 7).toInt ≤ 3) := by decide +kernel
section ZBL
variable {I : zSt → zSt → Prop} {σ μ : zSt}
theorem t_bk77 (hI : zIoK I) (h : zTT I σ μ) (hF : zF σ μ) (hW : zWzz σ μ) {op y z v : Int32} (k1 : op &&& 16 = 0 ↔ y < 6) (k2 : op &&& 2 = 0 ↔ ¬ 2 ≤ z) : zp2 (fX5_block_77 σ op v) (fX12_blocks_584 μ y z v) (zEnq I) := by
  unfold fX5_block_77 fX12_blocks_584 fX5_block_88 fX12_blocks_595 fX5_block_135 fX12_blocks_641
  have e16 : zEnq I (σ, 16) (μ, 16) := ⟨h, hF, hW, rfl⟩
  by_cases v0 : v = 0
  · refine zp2_ifl (fun _ => zp2_ifr (fun _ => zp2_some e16) (fun _ => zp2_ifr (fun _ => zp2_some e16) (fun q => absurd v0 q))) (fun q => absurd v0 q)
  refine zp2_ifl (fun q => absurd q v0) (fun _ => ?_)
  by_cases y6 : y < 6
  · exact zp2_ifl (fun _ => zp2_ifr (fun _ => zp2_some e16) (fun q => absurd y6 q)) (fun q => absurd (k1.mpr y6) q)
  refine zp2_ifl (fun q => absurd (k1.mp q) y6) (fun _ => zp2_ifr (fun q => absurd q y6) (fun _ => zp2_ifr (fun q => absurd q v0) (fun _ => ?_)))
  refine zp2_ckl (zp2_ckl (zp2_bvl (fun s1 f1 => zp2_ckr (zp2_ckr (zp2_bvr (fun t1 g1 => ?_))))))
  rw [show zgi μ 3 (19 : Int32).toNatClampNeg = zgi σ 36 (19 : Int32).toNatClampNeg from h.eq (j := 19) (by decide)] at g1
  have h1 : zTT I s1 t1 := by rw [f1, g1]; exact h.upd hI [19] (zQ.wi zQ.rf rfl) (zQ.wi zQ.rf rfl) rfl (zAl1 ⟨rfl, zrg_w (by decide) (by decide) (z_r16 _)⟩)
  have F1 : zF s1 t1 := by rw [f1, g1]; exact hF
  have W1 : zWzz s1 t1 := by rw [f1, g1]; exact hW
  by_cases z2 : 2 ≤ z
  · exact zp2_ifl (fun q => absurd z2 (k2.mp q)) (fun _ => zp2_ifr (fun _ => zp2_some ⟨h1, F1, W1, rfl⟩) (fun q => absurd z2 q))
  · refine zp2_ifl (fun _ => zp2_ifr (fun q => absurd q z2) (fun _ => ?_)) (fun q => absurd (k2.mpr z2) q)
    refine zp2_ckl (zp2_ckl (zp2_bvl (fun s2 f2 => zp2_ckr (zp2_ckr (zp2_bvr (fun t2 g2 => zp2_some ?_))))))
    rw [f2, g2]
    exact zEnq.wz hI h1 F1 (by rw [show zgi t1 3 (19 : Int32).toNatClampNeg = zgi s1 36 (19 : Int32).toNatClampNeg from h1.eq (j := 19) (by decide)]) (z_r16 _)
/-- the class has done its step: what is left of both -/
def zBkk (I : zSt → zSt → Prop) (op : Int32) (r : zSt × Int32) (b : zSt × Int32) : Prop := ∀ a, fX5_block_77 r.1 op r.2 = some a → zEnq I a b
theorem zBkk.of {op : Int32} {s : zSt} {v : Int32} {p : Option (zSt × Int32)} (h : zp2 (fX5_block_77 s op v) p (zEnq I)) : zp2 (some (s, v)) p (zBkk I op) := by
  intro a b ea eb
  cases ea
  exact fun x ex => h x b ex eb
theorem t_mv {j : Nat} (hW : zWzz σ μ) (hF : zF σ μ) {s t : zSt} (hj : j = 2 ∨ j = 4 ∨ j = 6) (qc : zQ [] [(36, j, j), (36, j + 1, j + 1)] [] [] σ s) (qm : zQ [] [(3, j, j), (3, j + 1, j + 1)] [] [] μ t) : zF s t ∧ zWzz s t := by
  rcases hj with e | e | e <;> subst e <;> exact ⟨hF.of (qc.1 36 1 rfl) (qm.1 3 1 rfl), hW.of (qc.1 36 20 rfl) (qm.1 3 20 rfl)⟩
/-- a pair is counted on -/
theorem t_cnt2 (hI : zIoK I) (h : zTT I σ μ) (hF : zF σ μ) (hW : zWzz σ μ) {g : Int32 → Int32} {α β : Type} {Q : α → β → Prop} {f : zSt → Option α} {k : zSt → Option β} (c : ∀ s t, zTT I s t → zF s t → zWzz s t → s.1 36 0 = σ.1 36 0 → zp2 (f s) (k t) Q) : zp2 (zbi (fX5_pairAt σ 2) (fun s v => zbu (fX5_putPairAt s 2 (g v)) f)) (zbi (fX12_pair μ 2) (fun s v => zbu (fX12_pairTo s 2 (g v)) k)) Q := by
  refine zp2_sm (t_pair2 h) (fun v rv => zp2_buu (t_pairTo2 hI h rfl) (fun s t q => ?_))
  obtain ⟨h1, qc, qm⟩ := q
  obtain ⟨F1, W1⟩ := t_mv (j := 2) hW hF (by decide) qc qm
  exact c s t h1 F1 W1 (qc.1 36 0 rfl)
theorem t_cnt4 (hI : zIoK I) (h : zTT I σ μ) (hF : zF σ μ) (hW : zWzz σ μ) {g : Int32 → Int32} {α β : Type} {Q : α → β → Prop} {f : zSt → Option α} {k : zSt → Option β} (c : ∀ s t, zTT I s t → zF s t → zWzz s t → s.1 36 0 = σ.1 36 0 → zp2 (f s) (k t) Q) : zp2 (zbi (fX5_pairAt σ 4) (fun s v => zbu (fX5_putPairAt s 4 (g v)) f)) (zbi (fX12_pair μ 4) (fun s v => zbu (fX12_pairTo s 4 (g v)) k)) Q := by
  refine zp2_sm (t_pair4 h) (fun v rv => zp2_buu (t_pairTo4 hI h rfl) (fun s t q => ?_))
  obtain ⟨h1, qc, qm⟩ := q
  obtain ⟨F1, W1⟩ := t_mv (j := 4) hW hF (by decide) qc qm
  exact c s t h1 F1 W1 (qc.1 36 0 rfl)
theorem t_cnt6 (hI : zIoK I) (h : zTT I σ μ) (hF : zF σ μ) (hW : zWzz σ μ) {g : Int32 → Int32} {α β : Type} {Q : α → β → Prop} {f : zSt → Option α} {k : zSt → Option β} (c : ∀ s t, zTT I s t → zF s t → zWzz s t → s.1 36 0 = σ.1 36 0 → zp2 (f s) (k t) Q) : zp2 (zbi (fX5_pairAt σ 6) (fun s v => zbu (fX5_putPairAt s 6 (g v)) f)) (zbi (fX12_pair μ 6) (fun s v => zbu (fX12_pairTo s 6 (g v)) k)) Q := by
  refine zp2_sm (t_pair6 h) (fun v rv => zp2_buu (t_pairTo6 hI h rfl) (fun s t q => ?_))
  obtain ⟨h1, qc, qm⟩ := q
  obtain ⟨F1, W1⟩ := t_mv (j := 6) hW hF (by decide) qc qm
  exact c s t h1 F1 W1 (qc.1 36 0 rfl)
theorem p_b249 {y z f g : Int32} (hz : z = 0 ∨ z = 1) {b7 b6 b5 b4 b3 b2 b1 b0 : Bool} (hf : f = zfl b7 b6 b5 b4 b3 b2 b1 b0) {Q : zSt × Int32 → Prop} (c : zpc (fX12_blocks_584 (zsi μ 3 1 (zfl b7 b6 b5 b4 b3 (bc (if ((μ.1 3 2 <<< ((8 : Int32) &&& 31)) ||| μ.1 3 3) = 0 then 0 else 1)) (bc g) b0)) y z (if ((μ.1 3 2 <<< ((8 : Int32) &&& 31)) ||| μ.1 3 3) = 0 then 0 else if z = 0 then 1 else bif b6 then 0 else 1)) Q) : zpc (fX12_blocks_249 (zsi μ 3 1 f) y z g 1) Q := by
  subst hf
  unfold fX12_blocks_249
  refine zpc_bu p_put (fun s e => ?_)
  rw [pt_1] at e
  subst e
  refine zpc_bi p_pM2 (fun s v e => ?_)
  cases e
  show zpc (if ((μ.1 3 2 <<< ((8 : Int32) &&& 31)) ||| μ.1 3 3) = 0 then fX12_blocks_267 (zsi μ 3 1 (zfl b7 b6 b5 b4 b3 b2 (decide (¬ g = 0)) b0)) y z 0 2 else fX12_blocks_267 (zsi μ 3 1 (zfl b7 b6 b5 b4 b3 b2 (decide (¬ g = 0)) b0)) y z 1 2) Q
  by_cases q : ((μ.1 3 2 <<< ((8 : Int32) &&& 31)) ||| μ.1 3 3) = 0
  · rw [if_pos q] at c ⊢
    rw [if_pos q] at c
    unfold fX12_blocks_267 fX12_blocks_296 fX12_blocks_297
    refine zpc_bu p_put (fun s e => ?_)
    rw [pt_2] at e
    subst e
    refine zpc_bi p_flag (fun s v e => ?_)
    cases e
    rw [show (zsi μ 3 1 (zfl b7 b6 b5 b4 b3 (decide (¬ (0 : Int32) = 0)) (decide (¬ g = 0)) b0)).1 3 1 = zfl b7 b6 b5 b4 b3 false (decide (¬ g = 0)) b0 from rfl, fl_g2]
    exact zpc_if (fun q => absurd q (by decide)) (fun _ => c)
  · rw [if_neg q] at c ⊢
    rw [if_neg q] at c
    unfold fX12_blocks_267 fX12_blocks_296 fX12_blocks_297 fX12_blocks_292
    refine zpc_bu p_put (fun s e => ?_)
    rw [pt_2] at e
    subst e
    refine zpc_bi p_flag (fun s v e => ?_)
    cases e
    rw [show (zsi μ 3 1 (zfl b7 b6 b5 b4 b3 (decide (¬ (1 : Int32) = 0)) (decide (¬ g = 0)) b0)).1 3 1 = zfl b7 b6 b5 b4 b3 true (decide (¬ g = 0)) b0 from rfl, fl_g2]
    refine zpc_if (fun _ => ?_) (fun q => absurd rfl q)
    rcases hz with e | e
    · subst e
      exact zpc_if (fun _ => c) (fun q => absurd rfl q)
    · subst e
      refine zpc_if (fun q => absurd q (by decide)) (fun _ => zpc_bi p_flag (fun s v e => ?_))
      cases e
      rw [show (zsi μ 3 1 (zfl b7 b6 b5 b4 b3 (decide (¬ (1 : Int32) = 0)) (decide (¬ g = 0)) b0)).1 3 1 = zfl b7 b6 b5 b4 b3 true (decide (¬ g = 0)) b0 from rfl, fl_g6]
      cases b6
      · exact zpc_if (fun _ => c) (fun q => absurd rfl q)
      · exact zpc_if (fun q => absurd q (by decide)) (fun _ => c)
theorem p_b202 {y z f x : Int32} (hz : z = 0 ∨ z = 1) {b7 b6 b5 b4 b3 b2 b1 b0 : Bool} (hf : f = zfl b7 b6 b5 b4 b3 b2 b1 b0) {Q : zSt × Int32 → Prop} (c : zpc (fX12_blocks_584 (zsi μ 3 1 (zfl b7 b6 (zbt 1 x) b4 (zbt 3 x) (bc (if ((μ.1 3 2 <<< ((8 : Int32) &&& 31)) ||| μ.1 3 3) = 0 then 0 else 1)) (bc z) b0)) y z (if ((μ.1 3 2 <<< ((8 : Int32) &&& 31)) ||| μ.1 3 3) = 0 then 0 else if z = 0 then 1 else bif b6 then 0 else 1)) Q) : zpc (fX12_blocks_202 (zsi μ 3 1 f) y z x) Q := by
  subst hf
  unfold fX12_blocks_202
  refine zpc_jx (K := fun g => fX12_blocks_216 (zsi μ 3 1 (zfl b7 b6 b5 b4 b3 b2 b1 b0)) y z x g 5) (a := 0) (b := 1) rfl rfl (fun g eg => ?_)
  unfold fX12_blocks_216
  refine zpc_bu p_put (fun s e => ?_)
  rw [pt_5] at e
  subst e
  refine zpc_jx (K := fun k => fX12_blocks_234 (zsi μ 3 1 (zfl b7 b6 (decide (¬ g = 0)) b4 b3 b2 b1 b0)) y z k 3) (a := 0) (b := 1) rfl rfl (fun k ek => ?_)
  unfold fX12_blocks_234
  refine zpc_bu p_put (fun s e => ?_)
  rw [pt_3] at e
  subst e
  have e5 : decide (¬ g = 0) = zbt 1 x := by rw [eg]; exact z_x5
  have e3 : decide (¬ k = 0) = zbt 3 x := by rw [ek]; exact z_x3
  rw [e5, e3]
  rcases hz with e | e
  · subst e
    exact zpc_if (fun q => absurd q (by decide)) (fun _ => p_b249 (Or.inl rfl) rfl c)
  · subst e
    exact zpc_if (fun _ => p_b249 (Or.inr rfl) rfl c) (fun q => absurd rfl q)
theorem t_copy (hI : zIoK I) (h : zTT I σ μ) (hF : zF σ μ) (hW : zWzz σ μ) {op y d : Int32} (k1 : op &&& 16 = 0 ↔ y < 6) (k2 : op &&& 2 = 0 ↔ ¬ 2 ≤ (0 : Int32)) : zp2 (zbi (fX5_copyOne σ d) (fun σ3 v4 => fX5_block_77 σ3 op v4)) (fX12_blocks_11 μ y 0 d) (zEnq I) := by
  refine zp2_bilp (P := zBkk I op) ?_ (fun s v b q a b' ea eb => by cases eb; exact q a ea)
  unfold fX5_copyOne fX12_blocks_11
  refine zp2_ifr (fun q => absurd q (by decide)) (fun _ => ?_)
  refine zp2_sm (t_pair6 h) (fun a ra => zp2_rd h.1 rfl (fun b rb => zp2_ifr (fun _ => ?_) (fun q => absurd rfl q)))
  refine zp2_sm (t_pair4 h) (fun e re => zp2_wr h.1 rfl (z_m255 rb) rb (fun s1 t1 hm q1 q2 => ?_))
  have h1 := h.mem hI hm q1 q2
  have F1 : zF s1 t1 := hF.of (q1.1 36 1 rfl) (q2.1 3 1 rfl)
  have W1 : zWzz s1 t1 := hW.of (q1.1 36 20 rfl) (q2.1 3 20 rfl)
  unfold fX12_blocks_44
  refine t_cnt6 hI h1 F1 W1 (g := fun v => v + d) (fun s2 t2 h2 F2 W2 _ => zp2_ifr (fun _ => ?_) (fun q => absurd rfl q))
  refine t_cnt4 hI h2 F2 W2 (g := fun v => v + d) (fun s3 t3 h3 F3 W3 _ => ?_)
  unfold fX12_blocks_74
  refine t_cnt2 hI h3 F3 W3 (g := fun v => v - 1) (fun s4 t4 h4 F4 W4 _ => zp2_ifr (fun _ => zp2_ckr ?_) (fun q => absurd rfl q))
  have hf : zr 0 255 (s4.1 36 1) := h4.b (by decide)
  have ef : t4.1 3 1 = s4.1 36 1 := F4
  have ea : zgi t4 3 (0 : Int32).toNatClampNeg = s4.1 36 0 := h4.eq (j := 0) (by decide)
  unfold fX12_blocks_111
  rw [ea]
  refine zp2_ifr (fun q => absurd q (by decide)) (fun _ => zp2_bur p_put' (fun t5 e5 => ?_))
  rw [ef, fl_of hf, pt_4] at e5
  subst e5
  -- the class
  have cC : zpc (zbi (fX5_pairAt s4 2) (fun σ19 v20 => if v20 = 0 then fX5_copyOne_78 σ19 b 0 else fX5_copyOne_78 σ19 b 1)) (fun r => r = (zsi s4 36 1 ((((s4.1 36 1 &&& 193) ||| (((s4.1 36 0 + b) &&& 2) <<< ((4 : Int32) &&& 31))) ||| ((s4.1 36 0 + b) &&& 8)) ||| (if ((s4.1 36 2 <<< ((8 : Int32) &&& 31)) ||| s4.1 36 3) = 0 then 0 else 4)), if ((s4.1 36 2 <<< ((8 : Int32) &&& 31)) ||| s4.1 36 3) = 0 then 0 else 1)) := by
    refine zpc_bi p_pC2 (fun s v e => ?_)
    cases e
    have nx : ∀ c g : Int32, (c = 0 → g = 0) → (¬ c = 0 → g = 4) → zpc (fX5_copyOne_78 s4 b c) (fun r => r = (zsi s4 36 1 ((((s4.1 36 1 &&& 193) ||| (((s4.1 36 0 + b) &&& 2) <<< ((4 : Int32) &&& 31))) ||| ((s4.1 36 0 + b) &&& 8)) ||| g), c)) := fun c g g0 g4 => by
      unfold fX5_copyOne_78 fX5_copyOne_126
      refine zpc_ck (zpc_bv (fun x ex => zpc_ck (zpc_if (fun q => zpc_ck (zpc_bv (fun s5 f5 => zpc_ck (zpc_some ?_)))) (fun q => zpc_ck (zpc_bv (fun s5 f5 => zpc_ck (zpc_some ?_)))))))
      · rw [f5, ex, g0 q]; rfl
      · rw [f5, ex, g4 q]; rfl
    refine zpc_if (fun q => ?_) (fun q => ?_)
    · rw [if_pos q, if_pos q]; exact nx 0 0 (fun _ => rfl) (fun q => absurd rfl q)
    · rw [if_neg q, if_neg q]; exact nx 1 4 (fun q => absurd q (by decide)) (fun _ => rfl)
  intro r r' er er'
  have ec := cC r er
  subst ec
  refine zBkk.of ?_ _ r' rfl er'
  intro a' b' ea' eb'
  -- the reference
  have e2 : t4.1 3 2 = s4.1 36 2 := h4.eq (by decide)
  have e3 : t4.1 3 3 = s4.1 36 3 := h4.eq (by decide)
  refine p_b202 (Or.inl rfl) rfl (Q := fun b => zEnq I a' b) (fun b2 eb2 => ?_) b' eb'
  rw [e2, e3] at eb2
  have eN : ∀ n : Int32, (if n = 0 then (0 : Int32) else 4) = bif bc (if n = 0 then 0 else 1) then 4 else 0 := fun n => by
    by_cases q : n = 0
    · rw [if_pos q, if_pos q]; rfl
    · rw [if_neg q, if_neg q]; rfl
  have eF : zfl (decide (¬ s4.1 36 1 &&& 128 = 0)) (decide (¬ s4.1 36 1 &&& 64 = 0)) (zbt 1 (s4.1 36 0 + b)) (decide (¬ (0 : Int32) = 0)) (zbt 3 (s4.1 36 0 + b)) (bc (if ((s4.1 36 2 <<< ((8 : Int32) &&& 31)) ||| s4.1 36 3) = 0 then 0 else 1)) (bc 0) (decide (¬ s4.1 36 1 &&& 1 = 0)) = (((s4.1 36 1 &&& 193) ||| (((s4.1 36 0 + b) &&& 2) <<< ((4 : Int32) &&& 31))) ||| ((s4.1 36 0 + b) &&& 8)) ||| (if ((s4.1 36 2 <<< ((8 : Int32) &&& 31)) ||| s4.1 36 3) = 0 then 0 else 4) := by
    rw [z_193 hf, z_x5s, zbt_m3, eN, ← v_ldB]
    rfl
  rw [eF, if_pos (rfl : (0 : Int32) = 0)] at eb2
  have rF : zr 0 255 ((((s4.1 36 1 &&& 193) ||| (((s4.1 36 0 + b) &&& 2) <<< ((4 : Int32) &&& 31))) ||| ((s4.1 36 0 + b) &&& 8)) ||| (if ((s4.1 36 2 <<< ((8 : Int32) &&& 31)) ||| s4.1 36 3) = 0 then 0 else 4)) := by
    rw [← eF]
    exact zfl_r _ _ _ _ _ _ _ _
  exact t_bk77 hI ((h4.onC hI (Or.inl rfl) (zrg_b (Or.inl (by decide)) rF)).onM hI (Or.inl rfl)) rfl W4 k1 k2 a' b2 ea' eb2
theorem z_mod8 {x g : Int32} {k : Nat} (hk : k = 1 ∨ k = 3) (hx : zr (-255) 255 x) (hg : zr 0 1 g) : zbt k ((x &&& 255) - g) = zbt k (x - g) := by
  have w := z_w8 (v := x) rfl ⟨by have := hx.1; omega, by have := hx.2; omega⟩
  have x0 := hx.1
  have x1 := hx.2
  have g0 := hg.1
  have g1 := hg.2
  have e1 : ((x &&& 255) - g).toInt = (x &&& 255).toInt - g.toInt := z_tsub (z_r8 x) hg (by decide)
  have e2 : (x - g).toInt = x.toInt - g.toInt := z_tsub hx hg (by decide)
  have t1 := z_tc ((x &&& 255) - g)
  have t2 := z_tc (x - g)
  rw [zbt_n, zbt_n]
  rcases hk with e | e <;> subst e
  · have n : (2 : Nat) ^ 1 = 2 := by decide
    rw [n]
    exact decide_eq_decide.mpr (by omega)
  · have n : (2 : Nat) ^ 3 = 8 := by decide
    rw [n]
    exact decide_eq_decide.mpr (by omega)
theorem v_h4 : ∀ h : Bool, (bif h then (16 : Int32) else 0) >>> ((4 : Int32) &&& 31) = bif h then 1 else 0 := by decide
theorem t_cmp (hI : zIoK I) (h : zTT I σ μ) (hF : zF σ μ) (hW : zWzz σ μ) {op y d : Int32} (k1 : op &&& 16 = 0 ↔ y < 6) (k2 : op &&& 2 = 0 ↔ ¬ 2 ≤ (1 : Int32)) : zp2 (zbi (fX5_compareOne σ d) (fun σ3 v4 => fX5_block_77 σ3 op v4)) (fX12_blocks_11 μ y 1 d) (zEnq I) := by
  refine zp2_bilp (P := zBkk I op) ?_ (fun s v b q a b' ea eb => by cases eb; exact q a ea)
  unfold fX5_compareOne fX12_blocks_11
  refine zp2_ifr (fun q => absurd q (by decide)) (fun _ => ?_)
  refine zp2_sm (t_pair6 h) (fun a ra => zp2_rd h.1 rfl (fun b rb => zp2_ifr (fun q => absurd q (by decide)) (fun _ => ?_)))
  refine zp2_ckl (zp2_bvl (fun w ew => zp2_ckl (zp2_bvl (fun hh eh => ?_))))
  have ew : w = (σ.1 36 0 - b) &&& 255 := ew
  have eh : hh = ((σ.1 36 0 ^^^ b) ^^^ w) &&& 16 := eh
  unfold fX12_blocks_44
  refine t_cnt6 hI h hF hW (g := fun v => v + d) (fun s2 t2 h2 F2 W2 a2 => zp2_ifr (fun q => absurd q (by decide)) (fun _ => ?_))
  unfold fX12_blocks_74
  refine t_cnt2 hI h2 F2 W2 (g := fun v => v - 1) (fun s4 t4 h4 F4 W4 a4 => zp2_ifr (fun q => absurd q (by decide)) (fun _ => zp2_ckr ?_))
  unfold fX12_blocks_111
  refine zp2_ifr (fun _ => zp2_ckr (zp2_ckr (zp2_bvr (fun t5 g5 => zp2_ckr ?_)))) (fun q => absurd rfl q)
  refine zp2_ckl (zp2_ckl (zp2_bvl (fun s5 f5 => ?_)))
  rw [show zgi t4 3 (20 : Int32).toNatClampNeg = zgi s4 36 (20 : Int32).toNatClampNeg from W4] at g5
  have zz := zEnq.wz hI h4 F4 (v := ((zgi s4 36 (20 : Int32).toNatClampNeg) + d) &&& 65535) rfl (z_r16 _) (b := 0)
  have f5' : s5 = zsi s4 36 20 (((zgi s4 36 (20 : Int32).toNatClampNeg) + d) &&& 65535) := f5
  have g5' : t5 = zsi t4 3 20 (((zgi s4 36 (20 : Int32).toNatClampNeg) + d) &&& 65535) := g5
  have h5 : zTT I s5 t5 := by rw [f5', g5']; exact zz.1
  have F5 : zF s5 t5 := by rw [f5', g5']; exact zz.2.1
  have W5 : zWzz s5 t5 := by rw [f5', g5']; exact zz.2.2.1
  have a5 : s5.1 36 0 = σ.1 36 0 := by rw [f5']; exact a4.trans a2
  have aM : zgi t5 3 (0 : Int32).toNatClampNeg = σ.1 36 0 := (h5.eq (j := 0) (by decide)).trans a5
  have aM4 : zgi t4 3 (0 : Int32).toNatClampNeg = σ.1 36 0 := (h4.eq (j := 0) (by decide)).trans (a4.trans a2)
  rw [aM, aM4]
  have hf : zr 0 255 (s5.1 36 1) := h5.b (by decide)
  have ef : t5.1 3 1 = s5.1 36 1 := F5
  have rA : zr 0 255 (σ.1 36 0) := h.b (by decide)
  clear f5 g5 f5' g5' zz
  generalize σ.1 36 0 = A at *
  have rw1 : zr 0 255 w := by rw [ew]; exact z_r8 _
  -- half
  have m1 : (A &&& 15).toInt = A.toInt % 16 := z_mask (k := 4) rA.1 rfl (by decide)
  have m2 : (b &&& 15).toInt = b.toInt % 16 := z_mask (k := 4) rb.1 rfl (by decide)
  have r15 : ∀ x : Int32, zr 0 15 (x &&& 15) := fun x => zr_andr (lo := 0) (hi := 15) (zr_c (lo := 15) (hi := 15) (by decide)) (by decide)
  have eS : hS A b 0 = if (b &&& 15) ≤ (A &&& 15) then 0 else 1 := by
    unfold hS
    have e1 : ((A &&& 15) - (b &&& 15)).toInt = (A &&& 15).toInt - (b &&& 15).toInt := z_tsub (r15 _) (r15 _) (by decide)
    rw [Int32.sub_zero]
    have c0 : (0 : Int32).toInt = 0 := rfl
    by_cases q : (b &&& 15) ≤ (A &&& 15)
    · have q1 := Int32.le_iff_toInt_le.mp q
      rw [if_pos q, if_pos (Int32.le_iff_toInt_le.mpr (by omega))]
    · have q1 := Int32.lt_iff_toInt_lt.mp (z_nle q)
      rw [if_neg q, if_neg (fun r => by have := Int32.le_iff_toInt_le.mp r; omega)]
  have eH : hh = bif bc (if (b &&& 15) ≤ (A &&& 15) then 0 else 1) then 16 else 0 := by
    have v := v_hS (a := A) (b := b) (c := 0) (zr_c (by decide))
    rw [eS, Int32.sub_zero, ← ew, ← eh] at v
    exact v
  -- the class
  have cC : zpc (zbi (fX5_pairAt s5 2) (fun σ16 v17 => if v17 = 0 then fX5_compareOne_100 σ16 w hh 0 else fX5_compareOne_100 σ16 w hh 1)) (fun r => r = (zsi s5 36 1 ((((((((s5.1 36 1 &&& 1) ||| (w &&& 128)) ||| (if w = 0 then 64 else 0)) ||| hh) ||| (((w - (hh >>> ((4 : Int32) &&& 31))) &&& 2) <<< ((4 : Int32) &&& 31))) ||| ((w - (hh >>> ((4 : Int32) &&& 31))) &&& 8)) ||| (if ((s5.1 36 2 <<< ((8 : Int32) &&& 31)) ||| s5.1 36 3) = 0 then 0 else 4)) ||| 2), if ((s5.1 36 2 <<< ((8 : Int32) &&& 31)) ||| s5.1 36 3) = 0 then 0 else if w = 0 then 0 else 1)) := by
    refine zpc_bi p_pC2 (fun s v e => ?_)
    cases e
    have nx : ∀ c g : Int32, (c = 0 → g = 0) → (¬ c = 0 → g = 4) → zpc (fX5_compareOne_100 s5 w hh c) (fun r => r = (zsi s5 36 1 ((((((((s5.1 36 1 &&& 1) ||| (w &&& 128)) ||| (if w = 0 then 64 else 0)) ||| hh) ||| (((w - (hh >>> ((4 : Int32) &&& 31))) &&& 2) <<< ((4 : Int32) &&& 31))) ||| ((w - (hh >>> ((4 : Int32) &&& 31))) &&& 8)) ||| g) ||| 2), if c = 0 then 0 else if w = 0 then 0 else 1)) := fun c g g0 g4 => by
      unfold fX5_compareOne_100
      refine zpc_bv (fun x ex => zpc_ck ?_)
      subst ex
      refine zpc_jx (K := fun u => fX5_compareOne_139 s5 w hh c (w - (hh >>> ((4 : Int32) &&& 31))) u (((zgi s5 36 (1 : Int32).toNatClampNeg) &&& 1) ||| (w &&& 128)) 1) (a := 64) (b := 0) rfl rfl (fun u eu => ?_)
      unfold fX5_compareOne_139 fX5_compareOne_166 fX5_compareOne_183 fX5_compareOne_184
      rw [← eu]
      refine zpc_if (fun q => zpc_ck (zpc_bv (fun s6 f6 => zpc_if (fun _ => zpc_ck (zpc_some ?_)) (fun r => absurd q r)))) (fun q => zpc_ck (zpc_bv (fun s6 f6 => zpc_if (fun r => absurd r q) (fun _ => zpc_if (fun q2 => zpc_ck (zpc_some ?_)) (fun q2 => zpc_ck (zpc_some ?_))))))
      · rw [f6, if_pos q, g0 q]; rfl
      · rw [f6, if_neg q, if_pos q2, g4 q]; rfl
      · rw [f6, if_neg q, if_neg q2, g4 q]; rfl
    refine zpc_if (fun q => ?_) (fun q => ?_)
    · rw [if_pos q, if_pos q]; exact nx 0 0 (fun _ => rfl) (fun q => absurd rfl q)
    · rw [if_neg q, if_neg q]; exact nx 1 4 (fun q => absurd q (by decide)) (fun _ => rfl)
  intro r r' er er'
  have ec := cC r er
  subst ec
  refine zBkk.of ?_ _ r' rfl er'
  intro a' b' ea' eb'
  -- the reference
  have e2 : t5.1 3 2 = s5.1 36 2 := h5.eq (by decide)
  have e3 : t5.1 3 3 = s5.1 36 3 := h5.eq (by decide)
  have cM : zpc (if (b &&& 15) ≤ (A &&& 15) then fX12_blocks_159 t5 y 1 (A - b) 0 else fX12_blocks_159 t5 y 1 (A - b) 1) (fun x => zEnq I a' x) := by
    refine zpc_jx (K := fun g => fX12_blocks_159 t5 y 1 (A - b) g) (a := 0) (b := 1) rfl rfl (fun g eg => ?_)
    have rg : zr 0 1 g := by
      rw [eg]
      by_cases q : (b &&& 15) ≤ (A &&& 15)
      · rw [if_pos q]; exact zr_c (by decide)
      · rw [if_neg q]; exact zr_c (by decide)
    unfold fX12_blocks_159
    rw [← ew]
    refine zpc_bu p_by' (fun t6 e6 => ?_)
    rw [ef, fl_of hf, fl_by] at e6
    subst e6
    refine zpc_bu p_put (fun t6 e6 => ?_)
    rw [pt_4] at e6
    subst e6
    have nx : zpc (fX12_blocks_190 (zsi t5 3 1 (zfl (d7 w) (d6 w) (d5 w) (decide (¬ g = 0)) (d3 w) (decide (¬ s5.1 36 1 &&& 4 = 0)) (decide (¬ s5.1 36 1 &&& 2 = 0)) (decide (¬ s5.1 36 1 &&& 1 = 0)))) y 1 g (A - b)) (fun x => zEnq I a' x) := by
      unfold fX12_blocks_190
      refine zpc_bv (fun x ex => ?_)
      refine p_b202 (Or.inr rfl) rfl (fun b2 eb2 => ?_)
      rw [e2, e3] at eb2
      have eN : ∀ n : Int32, (if n = 0 then (0 : Int32) else 4) = bif bc (if n = 0 then 0 else 1) then 4 else 0 := fun n => by
        by_cases q : n = 0
        · rw [if_pos q, if_pos q]; rfl
        · rw [if_neg q, if_neg q]; rfl
      have eg1 : (bif bc g then (1 : Int32) else 0) = g := by
        obtain ⟨i, ei⟩ := z_bit1 rg
        have k : ∀ i : Fin 2, (bif bc (Int32.ofNat i.val) then (1 : Int32) else 0) = Int32.ofNat i.val := by decide
        rw [ei]
        exact k i
      have eh2 : hh = bif bc g then 16 else 0 := by rw [eH, eg]
      have ex2 : w - (hh >>> ((4 : Int32) &&& 31)) = w - g := by rw [eh2, v_h4, eg1]
      have rd : zr (-255) 255 (A - b) := zr_sub (lo := -255) (hi := 255) rA rb (by decide)
      have z1 : zbt 1 (w - g) = zbt 1 x := by rw [ex, ew]; exact z_mod8 (Or.inl rfl) rd rg
      have z3 : zbt 3 (w - g) = zbt 3 x := by rw [ex, ew]; exact z_mod8 (Or.inr rfl) rd rg
      have eF : zfl (d7 w) (d6 w) (zbt 1 x) (decide (¬ g = 0)) (zbt 3 x) (bc (if ((s5.1 36 2 <<< ((8 : Int32) &&& 31)) ||| s5.1 36 3) = 0 then 0 else 1)) (bc 1) (decide (¬ s5.1 36 1 &&& 1 = 0)) = (((((((s5.1 36 1 &&& 1) ||| (w &&& 128)) ||| (if w = 0 then 64 else 0)) ||| hh) ||| (((w - (hh >>> ((4 : Int32) &&& 31))) &&& 2) <<< ((4 : Int32) &&& 31))) ||| ((w - (hh >>> ((4 : Int32) &&& 31))) &&& 8)) ||| (if ((s5.1 36 2 <<< ((8 : Int32) &&& 31)) ||| s5.1 36 3) = 0 then 0 else 4)) ||| 2 := by
        conv => rhs; rw [ex2, z_x5s, zbt_m3, eN, z1, z3, z_f1 hf, eh2]
        obtain ⟨i, ei⟩ := z_byteF rw1
        rw [ei, ← v_cpiB i]
        rfl
      have e6 : (bif d6 w then (0 : Int32) else 1) = if w = 0 then 0 else 1 := by
        unfold d6
        by_cases q : w = 0
        · rw [if_pos q, if_pos q]; rfl
        · rw [if_neg q, if_neg q]; rfl
      rw [eF, if_neg (show ¬ (1 : Int32) = 0 by decide), e6] at eb2
      have rF : zr 0 255 ((((((((s5.1 36 1 &&& 1) ||| (w &&& 128)) ||| (if w = 0 then 64 else 0)) ||| hh) ||| (((w - (hh >>> ((4 : Int32) &&& 31))) &&& 2) <<< ((4 : Int32) &&& 31))) ||| ((w - (hh >>> ((4 : Int32) &&& 31))) &&& 8)) ||| (if ((s5.1 36 2 <<< ((8 : Int32) &&& 31)) ||| s5.1 36 3) = 0 then 0 else 4)) ||| 2) := by
        rw [← eF]
        exact zfl_r _ _ _ _ _ _ _ _
      exact t_bk77 hI ((h5.onC hI (Or.inl rfl) (zrg_b (Or.inl (by decide)) rF)).onM hI (Or.inl rfl)) rfl W5 k1 k2 a' b2 ea' eb2
    by_cases g0 : g = 0
    · rw [if_pos g0]
      rw [g0] at nx ⊢
      exact nx
    · have g1 : g = 1 := by
        obtain ⟨i, ei⟩ := z_bit1 rg
        have : ∀ i : Fin 2, ¬ Int32.ofNat i.val = 0 → Int32.ofNat i.val = 1 := by decide
        rw [ei] at g0 ⊢
        exact this i g0
      rw [if_neg g0]
      rw [g1] at nx ⊢
      exact nx
  exact cM b' eb'
end ZBL
