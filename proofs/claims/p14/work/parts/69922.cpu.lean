/-! HELPERS OF BOTH PROCESSORS -/
theorem zFw.q {σ σ' : zSt} (h : zFw σ σ') : zQ [15, 17, 19] [] [] [] σ σ' := by
  refine ⟨fun k j c => ?_, fun k j _ => by rw [h.2]⟩
  have n : ∀ i, i ∈ [15, 17, 19] → ¬ k = i := fun i hi e => by
    unfold zcv at c
    rw [Bool.or_eq_false_iff, List.any_eq_false] at c
    exact c.1 i hi (by rw [e]; exact Nat.beq_refl i)
  rw [h.1 k (n 15 (by decide)) (n 17 (by decide)) (n 19 (by decide))]
theorem zFv.q {μ μ' : zSt} (h : zFv μ μ') : zQ [5, 6] [(3, 29, 32)] [] [] μ μ' := by
  refine ⟨fun k j c => ?_, fun k j _ => by rw [h.2.2]⟩
  unfold zcv at c
  rw [Bool.or_eq_false_iff, List.any_eq_false, List.any_eq_false] at c
  have n : ∀ i, i ∈ [5, 6] → ¬ k = i := fun i hi e => c.1 i hi (by rw [e]; exact Nat.beq_refl i)
  by_cases e : k = 3
  · subst e
    refine h.2.1 j ?_
    by_cases q : j < 29
    · exact Or.inl q
    · by_cases r : 32 < j
      · exact Or.inr r
      · exact absurd (show (Nat.beq 3 3 && (Nat.ble 29 j && Nat.ble j 32)) = true by rw [Bool.and_eq_true, Bool.and_eq_true]; exact ⟨rfl, Nat.ble_eq.mpr (by omega), Nat.ble_eq.mpr (by omega)⟩) (c.2 (3, 29, 32) List.mem_cons_self)
  · rw [h.1 k e (n 5 (by decide)) (n 6 (by decide))]
section ZT3
variable {I : zSt → zSt → Prop} {σ μ : zSt} {α β : Type} {Q : α → β → Prop}
theorem zM2.rd (h : zM2 σ μ) {x y : Int32} (e : y &&& 65535 = x &&& 65535) : zp2 (fX2_read σ x) (fX12_read μ y) (fun r r' => r.1 = σ ∧ r'.1 = μ ∧ r'.2 = r.2 ∧ zr 0 255 r.2) := by
  rw [← z_rdc (a := x), ← z_rdm (a := y), e]
  exact zp2_mono (zp2_andr (z2_read h.1 h.2) p_readr) (fun a b q => ⟨q.1.1, q.1.2.1, q.1.2.2.symm, by rw [q.1.2.2]; exact q.2⟩)
/-- both read, and go on -/
theorem zp2_rd (h : zM2 σ μ) {x y : Int32} (e : y &&& 65535 = x &&& 65535) {f : zSt → Int32 → Option α} {g : zSt → Int32 → Option β} (k : ∀ v, zr 0 255 v → zp2 (f σ v) (g μ v) Q) : zp2 (zbi (fX2_read σ x) f) (zbi (fX12_read μ y) g) Q := by
  refine zp2_bii (h.rd e) (fun s v t w q => ?_)
  obtain ⟨q1, q2, q3, q4⟩ := q
  have q1 : s = σ := q1
  have q2 : t = μ := q2
  have q3 : w = v := q3
  subst q1
  subst q2
  subst q3
  exact k w q4
theorem zM2.wr (h : zM2 σ μ) {x y v w : Int32} (e : y &&& 65535 = x &&& 65535) (f : w &&& 255 = v) (hv : zr 0 255 v) : zp2 (fX2_write σ x v) (fX12_write μ y w) (fun r r' => zM2 r r' ∧ zQ [15, 17, 19] [] [] [] σ r ∧ zQ [5, 6] [(3, 29, 32)] [] [] μ r') := by
  have e1 : fX2_write σ x v = fX2_write σ (x &&& 65535) v := by unfold fX2_write; rw [z_mm]
  rw [e1, ← z_wrm (a := y), ← z_wrb (v := w), e, f]
  refine zp2_mono (zp2_andr (z2_write h.1 h.2 hv) (p_writer h.2.2.2.2.2.2)) (fun r r' q => ?_)
  obtain ⟨⟨q1, q2, q3⟩, q4⟩ := q
  exact ⟨⟨q1, h.2.of q2 q3 q4⟩, q2.q, q3.q⟩
/-- both write, and go on -/
theorem zp2_wr (h : zM2 σ μ) {x y v w : Int32} (e : y &&& 65535 = x &&& 65535) (f : w &&& 255 = v) (hv : zr 0 255 v) {F : zSt → Option α} {G : zSt → Option β} (k : ∀ s t, zM2 s t → zQ [15, 17, 19] [] [] [] σ s → zQ [5, 6] [(3, 29, 32)] [] [] μ t → zp2 (F s) (G t) Q) : zp2 (zbu (fX2_write σ x v) F) (zbu (fX12_write μ y w) G) Q := zp2_buu (h.wr e f hv) (fun s t q => k s t q.1 q.2.1 q.2.2)
theorem z_r8 (x : Int32) : zr 0 255 (x &&& 255) := zr_andr (lo := 0) (hi := 255) (zr_c (lo := 255) (hi := 255) (by decide)) (by decide)
theorem z_r16 (x : Int32) : zr 0 65535 (x &&& 65535) := zr_andr (lo := 0) (hi := 65535) (zr_c (lo := 65535) (hi := 65535) (by decide)) (by decide)
theorem z_rw {a b : Int32} (ha : zr 0 255 a) (hb : zr 0 255 b) : zr 0 65535 (a ||| (b <<< ((8 : Int32) &&& 31))) := zr_or (lo := 0) (hi := 65535) 16 ha (zr_shl (lo := 0) (hi := 65280) 8 (by decide) hb (by decide)) (by decide)
theorem z_rw' {a b : Int32} (ha : zr 0 255 a) (hb : zr 0 255 b) : zr 0 65535 ((a <<< ((8 : Int32) &&& 31)) ||| b) := zr_or (lo := 0) (hi := 65535) 16 (zr_shl (lo := 0) (hi := 65280) 8 (by decide) ha (by decide)) hb (by decide)
theorem z_m255 {v : Int32} (h : zr 0 255 v) : v &&& 255 = v := Int32.toInt_inj.mp (by rw [z_mask (k := 8) h.1 rfl (by decide)]; have := h.1; have := h.2; show v.toInt % 256 = _; omega)
theorem z_65 {v : Int32} (h : zr 0 65535 v) : v &&& 65535 = v := Int32.toInt_inj.mp (by rw [z_mask (k := 16) h.1 rfl (by decide)]; have := h.1; have := h.2; show v.toInt % 65536 = _; omega)
theorem z_hi {w : Int32} (h : zr 0 65535 w) : zr 0 255 (w >>> ((8 : Int32) &&& 31)) := by
  have e := z_quo (k := 8) (s := (8 : Int32) &&& 31) h.1 rfl
  have h1 := h.1
  have h2 := h.2
  exact ⟨by rw [e]; show 0 ≤ w.toInt / 256; omega, by rw [e]; show w.toInt / 256 ≤ 255; omega⟩
theorem z_hi8 {w : Int32} (h : zr 0 65535 w) : (w >>> ((8 : Int32) &&& 31)) &&& 255 = w >>> ((8 : Int32) &&& 31) := z_m255 (z_hi h)
/-- fetching -/
theorem t_next (hI : zIoK I) (h : zTT I σ μ) : zp2 (fX5_fetch σ ) (fX12_next μ ) (fun r r' => zTT I r.1 r'.1 ∧ r'.2 = r.2 ∧ zr 0 255 r.2 ∧ zQ [] [(36, 19, 19)] [] [] σ r.1 ∧ zQ [] [(3, 19, 19)] [] [] μ r'.1) := by
  unfold fX5_fetch fX12_next
  have e : zgi μ 3 (19 : Int32).toNatClampNeg = zgi σ 36 (19 : Int32).toNatClampNeg := h.eq (j := 19) (by decide)
  refine zp2_ckl (zp2_ckr (zp2_rd h.1 (by rw [e]) (fun v hv => ?_)))
  refine zp2_ckl (zp2_ckl (zp2_bvl (fun s es => zp2_ckr (zp2_ckr (zp2_bvr (fun t et => zp2_some ⟨?_, rfl, hv, ?_, ?_⟩))))))
  · subst es
    subst et
    refine h.upd hI [19] (zQ.wi zQ.rf rfl) (zQ.wi zQ.rf rfl) rfl (zAl1 ⟨?_, zrg_w (by decide) (by decide) (z_r16 _)⟩)
    show (μ.1 3 19 + 1) &&& 65535 = (σ.1 36 19 + 1) &&& 65535
    rw [h.eq (by decide)]
  · subst es; exact zQ.wi zQ.rf rfl
  · subst et; exact zQ.wi zQ.rf rfl
theorem t_op (hI : zIoK I) (h : zTT I σ μ) : zp2 (fX5_fetchOp σ ) (fX12_fetch μ ) (fun r r' => zTT I r.1 r'.1 ∧ r'.2 = r.2 ∧ zr 0 255 r.2 ∧ zQ [] [(36, 19, 19), (36, 22, 22)] [] [] σ r.1 ∧ zQ [] [(3, 19, 19), (3, 22, 22)] [] [] μ r'.1) := by
  unfold fX5_fetchOp fX12_fetch fX5_growR fX5_fetch fX12_next fX12_grows
  have e : μ.1 3 19 = σ.1 36 19 := h.eq (j := 19) (by decide)
  refine zp2_bul (P := fun r => r = zsi σ 36 22 (((zgi σ 36 (22 : Int32).toNatClampNeg) &&& 128) ||| (((zgi σ 36 (22 : Int32).toNatClampNeg) + 1) &&& 127))) (zpc_ck (zpc_ck (zpc_ck (zpc_bv (fun s es => zpc_some es))))) (fun s es => ?_)
  have hm : zM2 s μ := h.1.keep (by subst es; exact zQ.wi zQ.rf rfl) zQ.rf
  have e19 : s.1 36 19 = σ.1 36 19 := by subst es; rfl
  refine zp2_bilp (P := fun r r' => r'.2 = r.2 ∧ zr 0 255 r.2 ∧ r.1 = zsi s 36 19 ((s.1 36 19 + 1) &&& 65535) ∧ r'.1 = zsi (zsi μ 3 19 ((μ.1 3 19 + 1) &&& 65535)) 3 22 ((μ.1 3 22 &&& 128) ||| ((μ.1 3 22 + 1) &&& 127))) ?_ (fun s1 v r' q => zp2_some ?_)
  · -- the reference's fetch, as one
    refine zp2_ckl ?_
    have d : zp2 (fX2_read s (zgi s 36 (19 : Int32).toNatClampNeg)) (fX12_read μ (zgi μ 3 (19 : Int32).toNatClampNeg)) _ := hm.rd (by rw [show zgi s 36 (19 : Int32).toNatClampNeg = σ.1 36 19 from e19, show zgi μ 3 (19 : Int32).toNatClampNeg = σ.1 36 19 from e])
    intro a b ea eb
    cases qa : fX2_read s (zgi s 36 (19 : Int32).toNatClampNeg) with
    | none => rw [qa] at ea; cases ea
    | some x =>
      cases qb : fX12_read μ (zgi μ 3 (19 : Int32).toNatClampNeg) with
      | none => rw [qb] at eb; cases eb
      | some y =>
        obtain ⟨x1, x2⟩ := x
        obtain ⟨y1, y2⟩ := y
        obtain ⟨q1, q2, q3, q4⟩ := d _ _ qa qb
        have q1 : x1 = s := q1
        have q2 : y1 = μ := q2
        have q3 : y2 = x2 := q3
        have q4 : zr 0 255 x2 := q4
        subst q1
        subst q2
        subst q3
        rw [qa] at ea
        rw [qb] at eb
        have ea : some (zsi x1 36 19 ((x1.1 36 19 + 1) &&& 65535), y2) = some a := ea
        have eb : some (zsi (zsi y1 3 19 ((y1.1 3 19 + 1) &&& 65535)) 3 22 ((y1.1 3 22 &&& 128) ||| ((y1.1 3 22 + 1) &&& 127)), y2) = some b := eb
        cases ea
        cases eb
        exact ⟨rfl, q4, rfl, rfl⟩
  · obtain ⟨q1, q2, q3, q4⟩ := q
    have q3 : s1 = zsi s 36 19 ((s.1 36 19 + 1) &&& 65535) := q3
    refine ⟨?_, q1, q2, ?_, ?_⟩
    · show zTT I s1 r'.1
      rw [q3, q4, es]
      refine h.upd hI [19, 22] (zQ.wi (zQ.wi zQ.rf rfl) rfl) (zQ.wi (zQ.wi zQ.rf rfl) rfl) rfl (zAl2 ⟨?_, zrg_w (by decide) (by decide) (z_r16 _)⟩ ⟨?_, zrg_b (Or.inr (Or.inr rfl)) (zr_or (lo := 0) (hi := 255) 8 (zr_andr (lo := 0) (hi := 128) (zr_c (lo := 128) (hi := 128) (by decide)) (by decide)) (zr_andr (lo := 0) (hi := 127) (zr_c (lo := 127) (hi := 127) (by decide)) (by decide)) (by decide))⟩)
      · show (μ.1 3 19 + 1) &&& 65535 = (σ.1 36 19 + 1) &&& 65535
        rw [e]
      · show (μ.1 3 22 &&& 128) ||| ((μ.1 3 22 + 1) &&& 127) = (σ.1 36 22 &&& 128) ||| ((σ.1 36 22 + 1) &&& 127)
        rw [h.eq (by decide)]
    · show zQ _ _ _ _ σ s1
      rw [q3, es]
      exact zQ.wi (zQ.wi zQ.rf rfl) rfl
    · rw [q4]
      exact zQ.wi (zQ.wi zQ.rf rfl) rfl
theorem t_word (hI : zIoK I) (h : zTT I σ μ) : zp2 (fX5_fetchWord σ ) (fX12_nextWord μ ) (fun r r' => zTT I r.1 r'.1 ∧ r'.2 = r.2 ∧ zr 0 65535 r.2 ∧ zQ [] [(36, 19, 19)] [] [] σ r.1 ∧ zQ [] [(3, 19, 19)] [] [] μ r'.1) := by
  unfold fX5_fetchWord fX12_nextWord fX12_next
  have e : μ.1 3 19 = σ.1 36 19 := h.eq (j := 19) (by decide)
  intro a b ea eb
  have d1 := h.1.rd (x := zgi σ 36 (19 : Int32).toNatClampNeg) (y := zgi μ 3 (19 : Int32).toNatClampNeg) (by rw [show zgi μ 3 (19 : Int32).toNatClampNeg = zgi σ 36 (19 : Int32).toNatClampNeg from e])
  cases qa : fX2_read σ (zgi σ 36 (19 : Int32).toNatClampNeg) with
  | none => rw [qa] at ea; cases ea
  | some x =>
    cases qb : fX12_read μ (zgi μ 3 (19 : Int32).toNatClampNeg) with
    | none => rw [qb] at eb; cases eb
    | some y =>
      obtain ⟨x1, x2⟩ := x
      obtain ⟨y1, y2⟩ := y
      obtain ⟨q1, q2, q3, q4⟩ := d1 _ _ qa qb
      have q1 : x1 = σ := q1
      have q2 : y1 = μ := q2
      have q3 : y2 = x2 := q3
      have q4 : zr 0 255 x2 := q4
      subst q1
      subst q2
      subst q3
      rw [qa] at ea
      rw [qb] at eb
      have hm : zM2 x1 (zsi y1 3 19 ((y1.1 3 19 + 1) &&& 65535)) := h.1.keep zQ.rf (zQ.wi zQ.rf rfl)
      have d2 := hm.rd (x := zgi x1 36 (19 : Int32).toNatClampNeg + 1) (y := (y1.1 3 19 + 1) &&& 65535) (by rw [z_mm, e]; rfl)
      cases ra : fX2_read x1 (zgi x1 36 (19 : Int32).toNatClampNeg + 1) with
      | none => 
        have ea : zbi (fX2_read x1 (zgi x1 36 (19 : Int32).toNatClampNeg + 1)) (fun σ3 v4 => some (zsi σ3 36 19 (((zgi σ3 36 19) + 2) &&& 65535), y2 ||| (v4 <<< ((8 : Int32) &&& 31)))) = some a := ea
        rw [ra] at ea; cases ea
      | some u =>
        have ea : zbi (fX2_read x1 (zgi x1 36 (19 : Int32).toNatClampNeg + 1)) (fun σ3 v4 => some (zsi σ3 36 19 (((zgi σ3 36 19) + 2) &&& 65535), y2 ||| (v4 <<< ((8 : Int32) &&& 31)))) = some a := ea
        have eb : zbi (zbi (fX12_read (zsi y1 3 19 ((y1.1 3 19 + 1) &&& 65535)) ((y1.1 3 19 + 1) &&& 65535)) (fun σ3 v4 => some (zsi σ3 3 19 (((zgi σ3 3 19) + 1) &&& 65535), v4))) (fun σ3 v4 => some (σ3, y2 ||| (v4 <<< ((8 : Int32) &&& 31)))) = some b := eb
        cases rb : fX12_read (zsi y1 3 19 ((y1.1 3 19 + 1) &&& 65535)) ((y1.1 3 19 + 1) &&& 65535) with
        | none => rw [rb] at eb; cases eb
        | some w =>
          obtain ⟨u1, u2⟩ := u
          obtain ⟨w1, w2⟩ := w
          obtain ⟨p1, p2, p3, p4⟩ := d2 _ _ ra rb
          have p1 : u1 = x1 := p1
          have p2 : w1 = zsi y1 3 19 ((y1.1 3 19 + 1) &&& 65535) := p2
          have p3 : w2 = u2 := p3
          have p4 : zr 0 255 u2 := p4
          rw [ra] at ea
          rw [rb] at eb
          have ea : some (zsi u1 36 19 ((u1.1 36 19 + 2) &&& 65535), y2 ||| (u2 <<< ((8 : Int32) &&& 31))) = some a := ea
          have eb : some (zsi w1 3 19 ((w1.1 3 19 + 1) &&& 65535), y2 ||| (w2 <<< ((8 : Int32) &&& 31))) = some b := eb
          subst p1
          subst p2
          subst p3
          cases ea
          cases eb
          refine ⟨?_, rfl, z_rw q4 p4, zQ.wi zQ.rf rfl, zQ.wi (zQ.wi zQ.rf rfl) rfl⟩
          refine h.upd hI [19] (zQ.wi zQ.rf rfl) (zQ.wi (zQ.wi zQ.rf rfl) rfl) rfl (zAl1 ⟨?_, zrg_w (by decide) (by decide) (z_r16 _)⟩)
          show (((y1.1 3 19 + 1) &&& 65535) + 1) &&& 65535 = (u1.1 36 19 + 2) &&& 65535
          rw [z_p1, e]
/-- words of the memory -/
theorem t_rword (h : zM2 σ μ) {x y : Int32} (e : y = x) : zp2 (fX5_readWord σ x) (fX12_word μ y) (fun r r' => r.1 = σ ∧ r'.1 = μ ∧ r'.2 = r.2 ∧ zr 0 65535 r.2) := by
  subst e
  unfold fX5_readWord fX12_word
  exact zp2_rd h rfl (fun v hv => zp2_rd h rfl (fun w hw => zp2_some ⟨rfl, rfl, rfl, z_rw hv hw⟩))
theorem t_wword (h : zM2 σ μ) {x y v w : Int32} (e : y = x) (f : w = v) (hv : zr 0 65535 v) : zp2 (fX5_writeWord σ x v) (fX12_wordTo μ y w) (fun r r' => zM2 r r' ∧ zQ [15, 17, 19] [] [] [] σ r ∧ zQ [5, 6] [(3, 29, 32)] [] [] μ r') := by
  subst e
  subst f
  unfold fX5_writeWord fX12_wordTo
  exact zp2_wr h rfl rfl (z_r8 _) (fun s t hm q1 q2 => zp2_wr hm rfl (z_hi8 hv) (z_hi hv) (fun s1 t1 hm1 p1 p2 => zp2_some ⟨hm1, q1.tr p1, q2.tr p2⟩))
end ZT3
