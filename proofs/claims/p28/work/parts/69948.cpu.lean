section ZJN0
/-! ONE STEP -/
theorem z_ick {α : Type} {c : Bool} {o : Option (zSt × Int32)} {f : zSt → Int32 → Option α} : zbi (zck c o) f = zck c (zbi o f) := by
  cases c <;> rfl
theorem zp2_sub {α β : Type} {o o' : Option (zSt × Int32)} {K : zSt → Int32 → Option α} {p : Option β} {Q : α → β → Prop} (hs : zpc o (fun r => o' = some r)) (h : zp2 (zbi o' K) p Q) : zp2 (zbi o K) p Q := by
  intro a b ea eb
  cases e : o with
  | none => rw [e] at ea; cases ea
  | some r =>
    rw [e] at ea
    refine h a b ?_ eb
    rw [hs r e]
    exact ea
theorem z_iu {α : Type} {o : Option zSt} {g : zSt → Option (zSt × Int32)} {f : zSt → Int32 → Option α} : zbi (zbu o g) f = zbu o (fun s => zbi (g s) f) := by
  cases o <;> rfl
/-- the reference's chip asks: a, whatever the registers hold -/
noncomputable def zAsk (a : Int32) (μ : zSt) : Prop := ∀ t : zSt, (∀ j : Nat, 29 ≤ j → t.1 3 j = μ.1 3 j) → zpc (fX12_asks t) (fun r => r = (t, a))
section ZST
variable {I : zSt → zSt → Prop} {σ μ : zSt}
theorem zTT.pq (hI : zIoK I) (h : zTT I σ μ) {v : Int32} (hv : zr 0 1 v) : zTT I (zsi σ 36 27 v) (zsi μ 3 28 v) := by
  refine ⟨h.1.keep (zQ.wi zQ.rf rfl) (zQ.wi zQ.rf rfl), ⟨fun j hj hn hw => ?_, ?_, ?_, fun j hj => ?_⟩, h.2.2.1.imp (fun x => x) (fun x => x), hI _ _ _ _ h.2.2.2 (zQ.wi zQ.rf rfl) (zQ.wi zQ.rf rfl)⟩
  · rw [zsi_nj (by omega), zsi_nj (by omega)]; exact h.2.1.1 j hj hn hw
  · rw [zsi_ej, zsi_ej]
  · rw [zsi_nj (by decide), zsi_nj (by decide)]; exact h.2.1.2.2.1
  · by_cases q : j = 27
    · rw [q, zsi_ej]; exact zrg_1 (by decide) (by decide) hv
    · rw [zsi_nj q]; exact h.2.1.2.2.2 j hj
theorem t_204 (hI : zIoK I) (hPo : zPorts I) (h : zTT I σ μ) (hF : zF σ μ) (hW : zWzz σ μ) (h28 : σ.1 36 28 = 0) {α : Type} {Q : α → zSt → Prop} {F : zSt → Int32 → Option α} (k : ∀ s t b, zTT I s t → zF s t → zWzz s t → zr 1 64 b → zp2 (F s b) (fX12_once_229 t b) Q) : zp2 (zbi (fX5_carryOn σ ) F) (fX12_once_204 μ) Q := by
  unfold fX5_carryOn fX12_once_204
  rw [z_ick]
  refine zp2_ckl (zp2_ckr ?_)
  have e26 : zgi μ 3 (26 : Int32).toNatClampNeg = zgi σ 36 (26 : Int32).toNatClampNeg := h.eq (j := 26) (by decide)
  rw [e26]
  by_cases q : zgi σ 36 (26 : Int32).toNatClampNeg = 1
  · rw [if_pos q, if_pos q, z_iu]
    exact zp2_buu (t_halt hI h hF hW) (fun s t q => k s t 4 q.1 q.2.1 q.2.2 (zr_c (by decide)))
  · rw [if_neg q, if_neg q]
    refine zp2_bii (zp2_andr (t_instr hI hPo h hF hW h28) p_beats) (fun s v t w q => ?_)
    obtain ⟨⟨q1, q2, q3, q4⟩, q5⟩ := q
    have q4 : w = v := q4
    subst q4
    exact k s t w q1 q2 q3 q5
theorem t_once (hI : zIoK I) (hPo : zPorts I) (h : zTT I σ μ) (hF : zF σ μ) (hW : zWzz σ μ) {a : Int32} (ha : zAsk a μ) {α : Type} {Q : α → zSt → Prop} {F : zSt → Int32 → Option α} (k : ∀ s t b, zTT I s t → zF s t → zWzz s t → zr 1 64 b → zp2 (F s b) (fX12_once_229 t b) Q) : zp2 (zbi (fX5_answerCalls σ a) (fun σ9 v10 => if v10 = 0 then zbi (fX5_carryOn σ9 ) F else F σ9 v10)) (zck (zin 27 1048) (if (zgi μ 3 (27 : Int32).toNatClampNeg) = 0 then fX12_once_46 μ 1 else fX12_once_46 μ 0)) Q := by
  have e28 : zgi μ 3 (27 : Int32).toNatClampNeg = σ.1 36 28 := h.2.1.2.2.1
  have e27 : μ.1 3 28 = σ.1 36 27 := h.2.1.2.1
  have e23 : μ.1 3 23 = σ.1 36 23 := h.eq (by decide)
  have r23 : zr 0 1 (σ.1 36 23) := (h.g (j := 23) (by decide)).2.2.2.1 (by decide) (by decide)
  have r25 : zr 0 2 (σ.1 36 25) := (h.g (j := 25) (by decide)).2.2.2.2.1 rfl
  have e25 : μ.1 3 25 = σ.1 36 25 := h.eq (by decide)
  have h0 : zTT I (zsi σ 36 28 0) (zsi μ 3 27 0) := h.pz hI (zr_c (by decide))
  have F0 : zF (zsi σ 36 28 0) (zsi μ 3 27 0) := hF
  have W0 : zWzz (zsi σ 36 28 0) (zsi μ 3 27 0) := hW
  have c0 : (zsi σ 36 28 0).1 36 28 = 0 := rfl
  have car : ∀ o : Option (zSt × Int32), zpc o (fun r => r = (zsi σ 36 28 0, 0)) → zp2 (zbi o (fun σ9 v10 => if v10 = 0 then zbi (fX5_carryOn σ9 ) F else F σ9 v10)) (fX12_once_204 (zsi μ 3 27 0)) Q := fun o ho => by
    refine zp2_bil ho (fun s v e => ?_)
    cases e
    exact zp2_ifl (fun _ => t_204 hI hPo h0 F0 W0 c0 k) (fun q => absurd rfl q)
  refine zp2_ckr ?_
  rw [e28]
  unfold fX12_once_46
  by_cases p : σ.1 36 28 = 0
  · refine zp2_ifr (fun _ => zp2_ckr (zp2_bvr (fun t1 g1 => zp2_ckr ?_))) (fun q => absurd p q)
    have g1 : t1 = zsi μ 3 27 0 := g1
    subst g1
    rw [show zgi (zsi μ 3 27 0) 3 (28 : Int32).toNatClampNeg = σ.1 36 27 from e27]
    by_cases n27 : σ.1 36 27 = 1
    · -- the pause button's call
      refine zp2_ifr (fun _ => zp2_ifr (fun q => absurd q (by decide)) (fun _ => zp2_ckr (zp2_bvr (fun t2 g2 => zp2_ckr (zp2_bvr (fun t3 g3 => zp2_bur p_ans (fun t4 e4 => ?_))))))) (fun q => absurd n27 q)
      have h2 : zTT I (zsi (zsi (zsi σ 36 28 0) 36 27 0) 36 23 0) t3 := by
        rw [g3, g2]
        exact (h0.pq hI (zr_c (by decide))).upd hI [23] (zQ.wi zQ.rf rfl) (zQ.wi zQ.rf rfl) rfl (zAl1 ⟨rfl, zrg_1 (by decide) (by decide) (show zr 0 1 (0 : Int32) from zr_c (by decide))⟩)
      have F2 : zF (zsi (zsi (zsi σ 36 28 0) 36 27 0) 36 23 0) t3 := by rw [g3, g2]; exact hF
      refine zp2_sub (o' := zbu (fX5_breakOff (zsi (zsi (zsi σ 36 28 0) 36 27 0) 36 23 0) 102) (fun s => some (s, 11))) ?_ ?_
      · unfold fX5_answerCalls fX5_answerCalls_15
        refine zpc_ck (zpc_if (fun _ => zpc_ck (zpc_bv (fun s1 e1 => zpc_if (fun q => absurd q (by decide)) (fun _ => zpc_ck (zpc_if (fun _ => zpc_ck (zpc_bv (fun s2 e2 => zpc_ck (zpc_bv (fun s3 e3 => ?_))))) (fun q => absurd (show zgi s1 36 (27 : Int32).toNatClampNeg = 1 by rw [e1]; exact n27) q)))))) (fun q => absurd p q))
        have es : s3 = zsi (zsi (zsi σ 36 28 0) 36 27 0) 36 23 0 := by rw [e3, e2, e1]; rfl
        rw [es]
        exact fun r er => er
      · rw [z_iu]
        exact t_brk hI h2 F2 (zr_c (by decide)) e4 (fun s t q1 q2 q3 _ => show zp2 (if (11 : Int32) = 0 then zbi (fX5_carryOn s ) F else F s 11) (fX12_once_229 t 11) Q from zp2_ifl (fun q => absurd q (by decide)) (fun _ => k s t 11 q1 q2 q3 (zr_c (by decide))))
    · refine zp2_ifr (fun q => absurd q n27) (fun _ => ?_)
      have c82 : (a = 0 ∨ σ.1 36 23 = 0) → zpc (fX5_answerCalls σ a) (fun r => r = (zsi σ 36 28 0, 0)) := fun hh => by
        unfold fX5_answerCalls fX5_answerCalls_15 fX5_answerCalls_64 fX5_answerCalls_82
        refine zpc_ck (zpc_if (fun _ => zpc_ck (zpc_bv (fun s1 e1 => zpc_if (fun q => absurd q (by decide)) (fun _ => zpc_ck (zpc_if (fun q => absurd (show σ.1 36 27 = 1 by rw [e1] at q; exact q) n27) (fun _ => zpc_if (fun q => absurd q (by decide)) (fun _ => ?_))))))) (fun q => absurd p q))
        have e1 : s1 = zsi σ 36 28 0 := e1
        subst e1
        refine zpc_if (fun _ => zpc_some rfl) (fun a0 => zpc_ck (zpc_if (fun _ => zpc_some rfl) (fun q => ?_)))
        rcases hh with x | x
        · exact absurd x a0
        · exact absurd x q
      unfold fX12_once_102
      refine zp2_ckr ?_
      rw [show zgi (zsi μ 3 27 0) 3 (23 : Int32).toNatClampNeg = σ.1 36 23 from e23]
      by_cases n23 : σ.1 36 23 = 1
      · refine zp2_ifr (fun _ => zp2_ifr (fun q => absurd q (by decide)) (fun _ => ?_)) (fun q => absurd n23 q)
        refine zp2_bir (ha (zsi μ 3 27 0) (fun j hj => zsi_nj (by omega))) (fun t v e => ?_)
        cases e
        by_cases a0 : a = 0
        · exact zp2_ifr (fun _ => car _ (c82 (Or.inl a0))) (fun q => absurd a0 q)
        refine zp2_ifr (fun q => absurd q a0) (fun _ => zp2_ckr (zp2_bvr (fun t2 g2 => zp2_ckr (zp2_bvr (fun t3 g3 => zp2_bur p_ans (fun t4 e4 => zp2_ckr ?_))))))
        have h2 : zTT I (zsi (zsi (zsi σ 36 28 0) 36 23 0) 36 24 0) t3 := by
          rw [g3, g2]
          exact h0.upd hI [23, 24] (zQ.wi (zQ.wi zQ.rf rfl) rfl) (zQ.wi (zQ.wi zQ.rf rfl) rfl) rfl (zAl2 ⟨rfl, zrg_1 (by decide) (by decide) (show zr 0 1 (0 : Int32) from zr_c (by decide))⟩ ⟨rfl, zrg_1 (by decide) (by decide) (show zr 0 1 (0 : Int32) from zr_c (by decide))⟩)
        have F2 : zF (zsi (zsi (zsi σ 36 28 0) 36 23 0) 36 24 0) t3 := by rw [g3, g2]; exact hF
        have m25 : t3.1 3 25 = σ.1 36 25 := by rw [g3, g2]; exact e25
        have m25' : zgi t4 3 (25 : Int32).toNatClampNeg = σ.1 36 25 := by rw [e4]; exact m25
        rw [m25']
        refine zp2_sub (o' := if σ.1 36 25 = 2 then zbi (fX5_readWord (zsi (zsi (zsi σ 36 28 0) 36 23 0) 36 24 0) ((σ.1 36 21 <<< ((8 : Int32) &&& 31)) ||| 255)) (fun σ4 v5 => zbu (fX5_breakOff σ4 v5) (fun σ6 => some (σ6, 19))) else zbu (fX5_breakOff (zsi (zsi (zsi σ 36 28 0) 36 23 0) 36 24 0) 56) (fun s => some (s, 13))) ?_ ?_
        · unfold fX5_answerCalls fX5_answerCalls_15 fX5_answerCalls_64
          refine zpc_ck (zpc_if (fun _ => zpc_ck (zpc_bv (fun s1 e1 => zpc_if (fun q => absurd q (by decide)) (fun _ => zpc_ck (zpc_if (fun q => absurd (show σ.1 36 27 = 1 by rw [e1] at q; exact q) n27) (fun _ => zpc_if (fun q => absurd q (by decide)) (fun _ => zpc_if (fun q => absurd q a0) (fun _ => zpc_ck (zpc_if (fun q => ?_) (fun _ => zpc_ck (zpc_bv (fun s2 e2 => zpc_ck (zpc_bv (fun s3 e3 => zpc_ck ?_)))))))))))))) (fun q => absurd p q))
          · rw [e1] at q
            exact absurd (show σ.1 36 23 = 0 from q) (fun z => by rw [n23] at z; exact absurd z (by decide))
          · have es : s3 = zsi (zsi (zsi σ 36 28 0) 36 23 0) 36 24 0 := by rw [e3, e2, e1]; rfl
            subst es
            refine zpc_if (fun q => zpc_ck ?_) (fun q => ?_)
            · rw [if_pos (show σ.1 36 25 = 2 from q)]
              exact fun r er => er
            · rw [if_neg (show ¬ σ.1 36 25 = 2 from q)]
              exact fun r er => er
        · have fin : ∀ x b : Int32, zr 0 65535 x → ¬ b = 0 → (b = 19 ∧ 2 ≤ σ.1 36 25 ∨ b = 13 ∧ ¬ 2 ≤ σ.1 36 25) → zp2 (zbi (zbu (fX5_breakOff (zsi (zsi (zsi σ 36 28 0) 36 23 0) 36 24 0) x) (fun s => some (s, b))) (fun σ9 v10 => if v10 = 0 then zbi (fX5_carryOn σ9 ) F else F σ9 v10)) (fX12_once_179 t4 x) Q := fun x b rx b0 hb => by
            rw [z_iu]
            unfold fX12_once_179 fX12_once_200
            refine t_brk hI h2 F2 rx e4 (fun s t q1 q2 q3 q5 => zp2_ckr ?_)
            rw [show zgi t 3 (25 : Int32).toNatClampNeg = σ.1 36 25 from q5.trans m25]
            have rb : zr 1 64 b := by
              rcases hb with ⟨x1, _⟩ | ⟨x1, _⟩
              · rw [x1]; exact zr_c (by decide)
              · rw [x1]; exact zr_c (by decide)
            have kk : zp2 (if b = 0 then zbi (fX5_carryOn s ) F else F s b) (fX12_once_229 t b) Q := zp2_ifl (fun q => absurd q b0) (fun _ => k s t b q1 q2 q3 rb)
            rcases hb with ⟨x1, x2⟩ | ⟨x1, x2⟩
            · subst x1
              exact zp2_ifr (fun _ => kk) (fun q => absurd x2 q)
            · subst x1
              exact zp2_ifr (fun q => absurd q x2) (fun _ => kk)
          by_cases m2 : σ.1 36 25 = 2
          · have le : 2 ≤ σ.1 36 25 := by rw [m2]; decide
            rw [if_pos m2, if_pos le, z_ia]
            refine zp2_ckr ?_
            have hm : zM2 (zsi (zsi (zsi σ 36 28 0) 36 23 0) 36 24 0) t4 := by rw [e4]; exact h2.1.keep zQ.rf (zQ.wi (zQ.wi zQ.rf rfl) rfl)
            have e21 : zgi t4 3 (21 : Int32).toNatClampNeg = σ.1 36 21 := by
              rw [e4]
              exact h2.eq (j := 21) (by decide)
            rw [e21]
            exact zp2_sm (t_rword hm rfl) (fun x rx => fin x 19 rx (by decide) (Or.inl ⟨rfl, le⟩))
          · have nle : ¬ 2 ≤ σ.1 36 25 := fun q => m2 (Int32.toInt_inj.mp (by have := Int32.le_iff_toInt_le.mp q; have c : (2 : Int32).toInt = 2 := rfl; have := r25.2; omega))
            rw [if_neg m2, if_neg nle]
            exact fin 56 13 (zr_c (by decide)) (by decide) (Or.inr ⟨rfl, nle⟩)
      · have z23 : σ.1 36 23 = 0 := by
          rcases zr_hd (c := 0) r23 rfl with e | r
          · exact e
          rcases zr_hd (c := 1) r rfl with e | r
          · exact absurd e n23
          exact zr_no9 r (by decide)
        exact zp2_ifr (fun q => absurd q n23) (fun _ => car _ (c82 (Or.inr z23)))
  · refine zp2_ifr (fun q => absurd q p) (fun _ => zp2_ckr (zp2_bvr (fun t1 g1 => zp2_ckr ?_)))
    have g1 : t1 = zsi μ 3 27 0 := g1
    subst g1
    have e102 : zp2 (zbi (fX5_answerCalls σ a) (fun σ9 v10 => if v10 = 0 then zbi (fX5_carryOn σ9 ) F else F σ9 v10)) (fX12_once_102 (zsi μ 3 27 0) 0) Q := by
      have ca : zpc (fX5_answerCalls σ a) (fun r => r = (zsi σ 36 28 0, 0)) := by
        unfold fX5_answerCalls fX5_answerCalls_15 fX5_answerCalls_64 fX5_answerCalls_82
        exact zpc_ck (zpc_if (fun q => absurd q p) (fun _ => zpc_ck (zpc_bv (fun s es => zpc_if (fun _ => zpc_if (fun _ => zpc_some (by rw [es]; rfl)) (fun q => absurd rfl q)) (fun q => absurd rfl q)))))
      unfold fX12_once_102
      refine zp2_ckr (zp2_ifr (fun _ => zp2_ifr (fun _ => car _ ca) (fun q => absurd rfl q)) (fun _ => car _ ca))
    exact zp2_ifr (fun _ => zp2_ifr (fun _ => e102) (fun q => absurd rfl q)) (fun _ => e102)
end ZST
end ZJN0
section ZJN1
/-! CELLS THAT BELONG TOGETHER, AROUND THE PROCESSOR -/
/-- class's row, first cell, how many; reference's row, first cell; mask -/
noncomputable def zTb : List (Nat × Nat × Nat × Nat × Nat × Int32) := [(34, 0, 1, 3, 33, (-1)), (34, 1, 5, 3, 37, (-1)), (34, 6, 1, 3, 35, (-1)), (34, 7, 5, 3, 42, (-1)), (23, 0, 17, 3, 47, (-1)), (23, 18, 4, 3, 64, (-1)), (23, 26, 1, 3, 68, (-1)), (23, 32, 64, 8, 0, 255), (21, 0, 16384, 7, 0, 255), (30, 0, 3, 3, 69, (-1)), (30, 9, 5, 3, 78, (-1)), (30, 17, 1, 3, 86, (-1)), (30, 18, 1, 3, 34, (-1)), (32, 0, 64, 3, 98, (-1)), (32, 64, 1, 3, 163, (-1)), (32, 68, 1, 3, 162, (-1)), (40, 0, 8, 3, 90, (-1)), (40, 8, 1, 3, 89, (-1)), (25, 0, 61440, 9, 0, (-1))]
noncomputable def zE (σ μ : zSt) : Prop := ∀ t ∈ zTb, ∀ i : Nat, i < t.2.2.1 → μ.1 t.2.2.2.1 (t.2.2.2.2.1 + i) &&& t.2.2.2.2.2 = σ.1 t.1 (t.2.1 + i)
noncomputable def zDj (s t : Nat × Nat × Nat × Nat × Nat × Int32) : Bool := (Nat.beq s.1 t.1 && (Nat.beq s.2.1 t.2.1 && (Nat.beq s.2.2.1 t.2.2.1 && (Nat.beq s.2.2.2.1 t.2.2.2.1 && (Nat.beq s.2.2.2.2.1 t.2.2.2.2.1 && decide (s.2.2.2.2.2 = t.2.2.2.2.2)))))) || ((!(Nat.beq s.1 t.1) || (Nat.ble (s.2.1 + s.2.2.1) t.2.1 || Nat.ble (t.2.1 + t.2.2.1) s.2.1)) && (!(Nat.beq s.2.2.2.1 t.2.2.2.1) || (Nat.ble (s.2.2.2.2.1 + s.2.2.1) t.2.2.2.2.1 || Nat.ble (t.2.2.2.2.1 + t.2.2.1) s.2.2.2.2.1)))
theorem zTb_dj : (zTb.all (fun s => zTb.all (fun t => zDj s t))) = true := by decide +kernel
theorem zTb_d {s t : Nat × Nat × Nat × Nat × Nat × Int32} (hs : s ∈ zTb) (ht : t ∈ zTb) : s = t ∨ ((¬ s.1 = t.1 ∨ s.2.1 + s.2.2.1 ≤ t.2.1 ∨ t.2.1 + t.2.2.1 ≤ s.2.1) ∧ (¬ s.2.2.2.1 = t.2.2.2.1 ∨ s.2.2.2.2.1 + s.2.2.1 ≤ t.2.2.2.2.1 ∨ t.2.2.2.2.1 + t.2.2.1 ≤ s.2.2.2.2.1)) := by
  have d := zTb_dj
  rw [List.all_eq_true] at d
  have d1 := d s hs
  rw [List.all_eq_true] at d1
  have d2 := d1 t ht
  unfold zDj at d2
  rw [Bool.or_eq_true] at d2
  rcases d2 with q | q
  · left
    rw [Bool.and_eq_true, Bool.and_eq_true, Bool.and_eq_true, Bool.and_eq_true, Bool.and_eq_true] at q
    obtain ⟨q1, q2, q3, q4, q5, q6⟩ := q
    obtain ⟨s1, s2, s3, s4, s5, s6⟩ := s
    obtain ⟨t1, t2, t3, t4, t5, t6⟩ := t
    have e1 : s1 = t1 := Nat.eq_of_beq_eq_true q1
    have e2 : s2 = t2 := Nat.eq_of_beq_eq_true q2
    have e3 : s3 = t3 := Nat.eq_of_beq_eq_true q3
    have e4 : s4 = t4 := Nat.eq_of_beq_eq_true q4
    have e5 : s5 = t5 := Nat.eq_of_beq_eq_true q5
    have e6 : s6 = t6 := of_decide_eq_true q6
    rw [e1, e2, e3, e4, e5, e6]
  · right
    rw [Bool.and_eq_true, Bool.or_eq_true, Bool.or_eq_true, Bool.or_eq_true, Bool.or_eq_true] at q
    obtain ⟨q1, q2⟩ := q
    refine ⟨?_, ?_⟩
    · rcases q1 with x | x | x
      · left
        intro e
        rw [e, Nat.beq_refl] at x
        exact absurd x (by decide)
      · exact Or.inr (Or.inl (Nat.le_of_ble_eq_true x))
      · exact Or.inr (Or.inr (Nat.le_of_ble_eq_true x))
    · rcases q2 with x | x | x
      · left
        intro e
        rw [e, Nat.beq_refl] at x
        exact absurd x (by decide)
      · exact Or.inr (Or.inl (Nat.le_of_ble_eq_true x))
      · exact Or.inr (Or.inr (Nat.le_of_ble_eq_true x))
/-- partners -/
noncomputable def zPn (k j r i : Nat) (m : Int32) : Prop := ∃ t ∈ zTb, t.1 = k ∧ t.2.2.2.1 = r ∧ t.2.2.2.2.2 = m ∧ ∃ d : Nat, d < t.2.2.1 ∧ t.2.1 + d = j ∧ t.2.2.2.2.1 + d = i
theorem zE.at {σ μ : zSt} (h : zE σ μ) {k j r i : Nat} {m : Int32} (p : zPn k j r i m) : μ.1 r i &&& m = σ.1 k j := by
  obtain ⟨t, ht, e1, e2, e3, d, hd, e4, e5⟩ := p
  have q := h t ht d hd
  rw [e1, e2, e3, e4, e5] at q
  exact q
theorem zE.wr {σ μ : zSt} (h : zE σ μ) {k j r i : Nat} {m v w : Int32} (p : zPn k j r i m) (e : w &&& m = v) : zE (zsi σ k j v) (zsi μ r i w) := by
  obtain ⟨t, ht, e1, e2, e3, d, hd, e4, e5⟩ := p
  intro s hs x hx
  rw [zsi_at, zsi_at]
  rcases zTb_d hs ht with q | ⟨q1, q2⟩
  · subst q
    by_cases y : x = d
    · subst y
      rw [if_pos ⟨e2, e5⟩, if_pos ⟨e1, e4⟩, e3]
      exact e
    · rw [if_neg (fun z => y (by have := z.2; omega)), if_neg (fun z => y (by have := z.2; omega))]
      exact h s hs x hx
  · rw [if_neg (fun z => by
      rcases q2 with a | a | a
      · exact a (z.1.trans e2.symm)
      · have := z.2; omega
      · have := z.2; omega), if_neg (fun z => by
      rcases q1 with a | a | a
      · exact a (z.1.trans e1.symm)
      · have := z.2; omega
      · have := z.2; omega)]
    exact h s hs x hx
/-- cells without a partner -/
noncomputable def zNc (k j : Nat) : Bool := zTb.all (fun t => !(Nat.beq t.1 k) || (Nat.blt j t.2.1 || Nat.ble (t.2.1 + t.2.2.1) j))
noncomputable def zNmm (r i : Nat) : Bool := zTb.all (fun t => !(Nat.beq t.2.2.2.1 r) || (Nat.blt i t.2.2.2.2.1 || Nat.ble (t.2.2.2.2.1 + t.2.2.1) i))
theorem zE.wc {σ μ : zSt} (h : zE σ μ) {k j : Nat} {v : Int32} (c : zNc k j = true) : zE (zsi σ k j v) μ := by
  intro s hs x hx
  unfold zNc at c
  rw [List.all_eq_true] at c
  have d := c s hs
  rw [Bool.or_eq_true, Bool.or_eq_true] at d
  rw [zsi_at, if_neg (fun z => ?_)]
  · exact h s hs x hx
  · rcases d with a | a | a
    · rw [z.1, Nat.beq_refl] at a
      exact absurd a (by decide)
    · have := Nat.le_of_ble_eq_true a
      have := z.2
      omega
    · have := Nat.le_of_ble_eq_true a
      have := z.2
      omega
theorem zE.wm {σ μ : zSt} (h : zE σ μ) {r i : Nat} {v : Int32} (c : zNmm r i = true) : zE σ (zsi μ r i v) := by
  intro s hs x hx
  unfold zNmm at c
  rw [List.all_eq_true] at c
  have d := c s hs
  rw [Bool.or_eq_true, Bool.or_eq_true] at d
  rw [zsi_at, if_neg (fun z => ?_)]
  · exact h s hs x hx
  · rcases d with a | a | a
    · rw [z.1, Nat.beq_refl] at a
      exact absurd a (by decide)
    · have := Nat.le_of_ble_eq_true a
      have := z.2
      omega
    · have := Nat.le_of_ble_eq_true a
      have := z.2
      omega
theorem zE.keep {σ μ σ' μ' : zSt} (h : zE σ μ) (c : ∀ t ∈ zTb, ∀ i : Nat, i < t.2.2.1 → σ'.1 t.1 (t.2.1 + i) = σ.1 t.1 (t.2.1 + i)) (d : ∀ t ∈ zTb, ∀ i : Nat, i < t.2.2.1 → μ'.1 t.2.2.2.1 (t.2.2.2.2.1 + i) = μ.1 t.2.2.2.1 (t.2.2.2.2.1 + i)) : zE σ' μ' := fun t ht i hi => by
  rw [c t ht i hi, d t ht i hi]
  exact h t ht i hi
theorem z_pn34_0 {d : Nat} (h : d < 1) : zPn 34 (0 + d) 3 (33 + d) (-1) := ⟨(34, 0, 1, 3, 33, (-1)), by decide +kernel, rfl, rfl, rfl, d, h, rfl, rfl⟩
theorem z_pn34_1 {d : Nat} (h : d < 5) : zPn 34 (1 + d) 3 (37 + d) (-1) := ⟨(34, 1, 5, 3, 37, (-1)), by decide +kernel, rfl, rfl, rfl, d, h, rfl, rfl⟩
theorem z_pn34_6 {d : Nat} (h : d < 1) : zPn 34 (6 + d) 3 (35 + d) (-1) := ⟨(34, 6, 1, 3, 35, (-1)), by decide +kernel, rfl, rfl, rfl, d, h, rfl, rfl⟩
theorem z_pn34_7 {d : Nat} (h : d < 5) : zPn 34 (7 + d) 3 (42 + d) (-1) := ⟨(34, 7, 5, 3, 42, (-1)), by decide +kernel, rfl, rfl, rfl, d, h, rfl, rfl⟩
theorem z_pn23_0 {d : Nat} (h : d < 17) : zPn 23 (0 + d) 3 (47 + d) (-1) := ⟨(23, 0, 17, 3, 47, (-1)), by decide +kernel, rfl, rfl, rfl, d, h, rfl, rfl⟩
theorem z_pn23_18 {d : Nat} (h : d < 4) : zPn 23 (18 + d) 3 (64 + d) (-1) := ⟨(23, 18, 4, 3, 64, (-1)), by decide +kernel, rfl, rfl, rfl, d, h, rfl, rfl⟩
theorem z_pn23_26 {d : Nat} (h : d < 1) : zPn 23 (26 + d) 3 (68 + d) (-1) := ⟨(23, 26, 1, 3, 68, (-1)), by decide +kernel, rfl, rfl, rfl, d, h, rfl, rfl⟩
theorem z_pn23_32 {d : Nat} (h : d < 64) : zPn 23 (32 + d) 8 (0 + d) 255 := ⟨(23, 32, 64, 8, 0, 255), by decide +kernel, rfl, rfl, rfl, d, h, rfl, rfl⟩
theorem z_pn21_0 {d : Nat} (h : d < 16384) : zPn 21 (0 + d) 7 (0 + d) 255 := ⟨(21, 0, 16384, 7, 0, 255), by decide +kernel, rfl, rfl, rfl, d, h, rfl, rfl⟩
theorem z_pn30_0 {d : Nat} (h : d < 3) : zPn 30 (0 + d) 3 (69 + d) (-1) := ⟨(30, 0, 3, 3, 69, (-1)), by decide +kernel, rfl, rfl, rfl, d, h, rfl, rfl⟩
theorem z_pn30_9 {d : Nat} (h : d < 5) : zPn 30 (9 + d) 3 (78 + d) (-1) := ⟨(30, 9, 5, 3, 78, (-1)), by decide +kernel, rfl, rfl, rfl, d, h, rfl, rfl⟩
theorem z_pn30_17 {d : Nat} (h : d < 1) : zPn 30 (17 + d) 3 (86 + d) (-1) := ⟨(30, 17, 1, 3, 86, (-1)), by decide +kernel, rfl, rfl, rfl, d, h, rfl, rfl⟩
theorem z_pn30_18 {d : Nat} (h : d < 1) : zPn 30 (18 + d) 3 (34 + d) (-1) := ⟨(30, 18, 1, 3, 34, (-1)), by decide +kernel, rfl, rfl, rfl, d, h, rfl, rfl⟩
theorem z_pn32_0 {d : Nat} (h : d < 64) : zPn 32 (0 + d) 3 (98 + d) (-1) := ⟨(32, 0, 64, 3, 98, (-1)), by decide +kernel, rfl, rfl, rfl, d, h, rfl, rfl⟩
theorem z_pn32_64 {d : Nat} (h : d < 1) : zPn 32 (64 + d) 3 (163 + d) (-1) := ⟨(32, 64, 1, 3, 163, (-1)), by decide +kernel, rfl, rfl, rfl, d, h, rfl, rfl⟩
theorem z_pn32_68 {d : Nat} (h : d < 1) : zPn 32 (68 + d) 3 (162 + d) (-1) := ⟨(32, 68, 1, 3, 162, (-1)), by decide +kernel, rfl, rfl, rfl, d, h, rfl, rfl⟩
theorem z_pn40_0 {d : Nat} (h : d < 8) : zPn 40 (0 + d) 3 (90 + d) (-1) := ⟨(40, 0, 8, 3, 90, (-1)), by decide +kernel, rfl, rfl, rfl, d, h, rfl, rfl⟩
theorem z_pn40_8 {d : Nat} (h : d < 1) : zPn 40 (8 + d) 3 (89 + d) (-1) := ⟨(40, 8, 1, 3, 89, (-1)), by decide +kernel, rfl, rfl, rfl, d, h, rfl, rfl⟩
theorem z_pn25_0 {d : Nat} (h : d < 61440) : zPn 25 (0 + d) 9 (0 + d) (-1) := ⟨(25, 0, 61440, 9, 0, (-1)), by decide +kernel, rfl, rfl, rfl, d, h, rfl, rfl⟩
end ZJN1
section ZJN2
/-! RANGES OF THE CLASS'S CELLS, BY A TABLE -/
theorem z_an1 (x : Int32) : x &&& (-1) = x := by
  refine Int32.toBitVec_inj.1 ?_
  rw [Int32.toBitVec_and]
  exact BitVec.and_allOnes
noncomputable def zGt : List (Nat × Nat × Nat × Int × Int) := [(23, 0, 11, 0, 255), (23, 11, 1, 0, 16383), (23, 12, 1, 0, 3), (23, 13, 1, 0, 255), (23, 14, 1, 0, 1), (23, 15, 1, 0, 255), (23, 16, 1, 0, 1), (23, 18, 1, -1, 255), (23, 19, 1, 0, 255), (23, 20, 1, 0, 312), (23, 21, 1, 0, 227), (23, 26, 1, 0, 255), (34, 0, 7, 0, 255), (34, 7, 2, 0, 63), (34, 9, 3, 0, 1), (30, 0, 3, 0, 1023), (30, 9, 4, 0, 15), (30, 13, 1, 0, 7), (30, 17, 1, 0, 7), (30, 18, 1, 0, 255), (32, 0, 64, 0, 255), (32, 64, 1, 0, 3), (32, 68, 1, 0, 63), (40, 8, 1, 0, 8)]
noncomputable def zGf (k j : Nat) : List (Nat × Nat × Nat × Int × Int) → Option (Int × Int)
  | [] => none
  | t :: l => bif (Nat.beq t.1 k && (Nat.ble t.2.1 j && Nat.blt j (t.2.1 + t.2.2.1))) then some t.2.2.2 else zGf k j l
noncomputable def zGo (k j : Nat) (v : Int32) : Prop := ∀ a b : Int, zGf k j zGt = some (a, b) → zr a b v
noncomputable def zG (σ : zSt) : Prop := ∀ k j : Nat, zGo k j (σ.1 k j)
theorem zGo.n {k j : Nat} {v : Int32} (e : zGf k j zGt = none) : zGo k j v := fun a b q => by
  rw [e] at q
  cases q
theorem zGo.r {k j : Nat} {a b : Int} {v : Int32} (e : zGf k j zGt = some (a, b)) (h : zr a b v) : zGo k j v := fun c d q => by
  rw [e] at q
  cases q
  exact h
theorem zG.at {σ : zSt} (h : zG σ) {k j : Nat} {a b : Int} (e : zGf k j zGt = some (a, b)) : zr a b (σ.1 k j) := h k j a b e
theorem zG.w {σ : zSt} (h : zG σ) {k j : Nat} {v : Int32} (g : zGo k j v) : zG (zsi σ k j v) := fun x y => by
  rw [zsi_at]
  by_cases q : x = k ∧ y = j
  · rw [if_pos q, q.1, q.2]
    exact g
  · rw [if_neg q]
    exact h x y
theorem zg_23r : ∀ j : Fin 11, zGf 23 j.val zGt = some (0, 255) := by decide +kernel
theorem zg_23c : ∀ j : Fin 64, zGf 23 (32 + j.val) zGt = none := by decide +kernel
theorem zg_34 : ∀ j : Fin 7, zGf 34 j.val zGt = some (0, 255) := by decide +kernel
theorem zg_32 : ∀ j : Fin 64, zGf 32 j.val zGt = some (0, 255) := by decide +kernel
theorem zg_30a : ∀ j : Fin 3, zGf 30 j.val zGt = some (0, 1023) := by decide +kernel
theorem zg_30b : ∀ j : Fin 4, zGf 30 (9 + j.val) zGt = some (0, 15) := by decide +kernel
/-! THE RELATION AROUND THE PROCESSOR -/
noncomputable def zFr (k j : Nat) : Bool := !(Nat.beq k 0 || (Nat.beq k 2 || (Nat.beq k 3 || Nat.beq k 6))) && !(Nat.beq k 23 && Nat.beq j 20)
noncomputable def zLn (σ : zSt) : Prop := (σ.1 23 20).toInt < (σ.1 2 1).toInt
noncomputable def zVe (σ μ : zSt) : Prop := zE σ μ ∧ zG σ ∧ zRk σ μ ∧ zLn σ
theorem zTb_r : (zTb.all (fun t => !(Nat.beq t.2.2.2.1 0))) = true := by decide +kernel
theorem zPn.r0 {k j r i : Nat} {m : Int32} (p : zPn k j r i m) : ¬ r = 0 := fun q => by
  obtain ⟨t, ht, e1, e2, e3, d, hd, e4, e5⟩ := p
  have a := zTb_r
  rw [List.all_eq_true] at a
  have b := a t ht
  rw [e2, q] at b
  exact absurd b (by decide)
theorem zTb_n : (zTb.all (fun t => !(Nat.beq t.1 30 && (Nat.ble t.2.1 16 && Nat.blt 16 (t.2.1 + t.2.2.1))) && !(Nat.beq t.2.2.2.1 3 && (Nat.ble t.2.2.2.2.1 85 && Nat.blt 85 (t.2.2.2.2.1 + t.2.2.1))))) = true := by decide +kernel
theorem zPn.nz {k j r i : Nat} {m : Int32} (p : zPn k j r i m) : ¬ (30 = k ∧ 16 = j) ∧ ¬ (3 = r ∧ 85 = i) := by
  obtain ⟨t, ht, e1, e2, e3, d, hd, e4, e5⟩ := p
  have a := zTb_n
  rw [List.all_eq_true] at a
  have b := a t ht
  rw [Bool.and_eq_true, Bool.not_eq_true', Bool.not_eq_true'] at b
  obtain ⟨b1, b2⟩ := b
  refine ⟨fun q => ?_, fun q => ?_⟩
  · have c : (Nat.beq t.1 30 && (Nat.ble t.2.1 16 && Nat.blt 16 (t.2.1 + t.2.2.1))) = true := by
      rw [Bool.and_eq_true, Bool.and_eq_true]
      exact ⟨by rw [e1, ← q.1]; rfl, Nat.ble_eq.mpr (by have := q.2; omega), Nat.ble_eq.mpr (by have := q.2; omega)⟩
    rw [c] at b1
    cases b1
  · have c : (Nat.beq t.2.2.2.1 3 && (Nat.ble t.2.2.2.2.1 85 && Nat.blt 85 (t.2.2.2.2.1 + t.2.2.1))) = true := by
      rw [Bool.and_eq_true, Bool.and_eq_true]
      exact ⟨by rw [e2, ← q.1]; rfl, Nat.ble_eq.mpr (by have := q.2; omega), Nat.ble_eq.mpr (by have := q.2; omega)⟩
    rw [c] at b2
    cases b2
section ZVP
variable {σ μ s t : zSt}
theorem zsi_no {ν : zSt} {k j k1 j1 : Nat} {v : Int32} (h : ¬ k1 = k) : (zsi ν k j v).1 k1 j1 = ν.1 k1 j1 := by rw [zsi_ne h]
theorem zE.e (h : zE σ μ) {k j r i : Nat} (p : zPn k j r i (-1)) : μ.1 r i = σ.1 k j := by
  have q := h.at p
  rw [z_an1] at q
  exact q
theorem zVe.of (h : zVe σ μ) (a : zE s t) (b : zG s) (c : s.1 0 0 = σ.1 0 0 ∧ s.1 2 0 = σ.1 2 0 ∧ s.1 3 1 = σ.1 3 1 ∧ s.1 6 0 = σ.1 6 0 ∧ s.1 2 1 = σ.1 2 1) (d : t.1 0 3 = μ.1 0 3) (e : s.1 23 20 = σ.1 23 20) : zVe s t := by
  obtain ⟨c1, c2, c3, c4, c5⟩ := c
  refine ⟨a, b, ?_, ?_⟩
  · unfold zRk
    rw [c1, c2, c3, c4, c5, d]
    exact h.2.2.1
  · unfold zLn
    rw [e, c5]
    exact h.2.2.2
theorem zVe.w (h : zVe σ μ) {k j r i : Nat} {m v w : Int32} (p : zPn k j r i m) (f : zFr k j = true) (g : zGo k j v) (e : w &&& m = v) : zVe (zsi σ k j v) (zsi μ r i w) := by
  unfold zFr at f
  rw [Bool.and_eq_true, Bool.not_eq_true', Bool.not_eq_true', Bool.or_eq_false_iff, Bool.or_eq_false_iff, Bool.or_eq_false_iff] at f
  obtain ⟨⟨f0, f2, f3, f6⟩, f4⟩ := f
  have n0 : ¬ 0 = k := fun q => by rw [← q] at f0; exact absurd f0 (by decide)
  have n2 : ¬ 2 = k := fun q => by rw [← q] at f2; exact absurd f2 (by decide)
  have n3 : ¬ 3 = k := fun q => by rw [← q] at f3; exact absurd f3 (by decide)
  have n6 : ¬ 6 = k := fun q => by rw [← q] at f6; exact absurd f6 (by decide)
  refine h.of (h.1.wr p e) (h.2.1.w g) ⟨?_, ?_, ?_, ?_, ?_⟩ ?_ ?_
  · rw [zsi_ne n0]
  · rw [zsi_ne n2]
  · rw [zsi_ne n3]
  · rw [zsi_ne n6]
  · rw [zsi_ne n2]
  · rw [zsi_ne (fun q => p.r0 q.symm)]
  · rw [zsi_at, if_neg]
    intro q
    rw [← q.1, ← q.2] at f4
    exact absurd f4 (by decide)
/-- what the ports may touch -/
noncomputable def zFC (σ s : zSt) : Prop := zQ [21, 23, 34] [(30, 0, 2), (30, 9, 13), (30, 16, 18), (32, 0, 64), (32, 68, 68)] [] [] σ s
noncomputable def zFM (μ t : zSt) : Prop := zQ [7, 8] [(3, 33, 65), (3, 68, 71), (3, 78, 82), (3, 85, 86), (3, 98, 163)] [] [] μ t
/-- the noise's row: left alone or set anew on both sides -/
noncomputable def zNz (σ μ s t : zSt) : Prop := (s.1 30 16 = σ.1 30 16 ∧ t.1 3 85 = μ.1 3 85) ∨ (s.1 30 16 = 32768 ∧ t.1 3 85 = 32768)
noncomputable def zPo (σ μ s t : zSt) : Prop := zVe s t ∧ zFC σ s ∧ zFM μ t ∧ zNz σ μ s t
theorem zPo.rf (h : zVe σ μ) : zPo σ μ σ μ := ⟨h, zQ.rf, zQ.rf, Or.inl ⟨rfl, rfl⟩⟩
theorem zPo.tr {s' t' : zSt} (h : zPo σ μ s t) (k : zPo s t s' t') : zPo σ μ s' t' := by
  refine ⟨k.1, zQ.tr h.2.1 k.2.1, zQ.tr h.2.2.1 k.2.2.1, ?_⟩
  rcases k.2.2.2 with ⟨a, b⟩ | q
  · rcases h.2.2.2 with ⟨c, d⟩ | ⟨c, d⟩
    · exact Or.inl ⟨a.trans c, b.trans d⟩
    · exact Or.inr ⟨a.trans c, b.trans d⟩
  · exact Or.inr q
theorem zPo.w (h : zPo σ μ s t) {k j r i : Nat} {m v w : Int32} (p : zPn k j r i m) (f : zFr k j = true) (g : zGo k j v) (e : w &&& m = v) (c : zcv [21, 23, 34] [(30, 0, 2), (30, 9, 13), (30, 16, 18), (32, 0, 64), (32, 68, 68)] k j = true) (d : zcv [7, 8] [(3, 33, 65), (3, 68, 71), (3, 78, 82), (3, 85, 86), (3, 98, 163)] r i = true) : zPo σ μ (zsi s k j v) (zsi t r i w) := by
  refine ⟨h.1.w p f g e, zQ.wi h.2.1 c, zQ.wi h.2.2.1 d, ?_⟩
  unfold zNz
  rw [zsi_at, zsi_at, if_neg p.nz.1, if_neg p.nz.2]
  exact h.2.2.2
theorem zPo.w1 (h : zPo σ μ s t) {k j r i : Nat} {v w : Int32} (p : zPn k j r i (-1)) (f : zFr k j = true) (g : zGo k j v) (e : w = v) (c : zcv [21, 23, 34] [(30, 0, 2), (30, 9, 13), (30, 16, 18), (32, 0, 64), (32, 68, 68)] k j = true) (d : zcv [7, 8] [(3, 33, 65), (3, 68, 71), (3, 78, 82), (3, 85, 86), (3, 98, 163)] r i = true) : zPo σ μ (zsi s k j v) (zsi t r i w) := h.w p f g (by rw [z_an1]; exact e) c d
theorem zPo.nz (h : zPo σ μ s t) : zPo σ μ (zsi s 30 16 32768) (zsi t 3 85 32768) := by
  refine ⟨h.1.of ((h.1.1.wc (by decide +kernel)).wm (by decide +kernel)) (h.1.2.1.w (zGo.n rfl)) ⟨zsi_no (by decide), zsi_no (by decide), zsi_no (by decide), zsi_no (by decide), zsi_no (by decide)⟩ (zsi_no (by decide)) (zsi_no (by decide)), zQ.wi h.2.1 rfl, zQ.wi h.2.2.1 rfl, Or.inr ⟨zsi_ej, zsi_ej⟩⟩
theorem zcv_m {R : List Nat} {A : List (Nat × Nat × Nat)} {k j a b : Nat} (m : (k, a, b) ∈ A) (h1 : a ≤ j) (h2 : j ≤ b) : zcv R A k j = true := by
  unfold zcv
  rw [Bool.or_eq_true]
  right
  rw [List.any_eq_true]
  exact ⟨(k, a, b), m, by rw [Bool.and_eq_true, Bool.and_eq_true]; exact ⟨Nat.beq_refl k, Nat.ble_eq.mpr h1, Nat.ble_eq.mpr h2⟩⟩
theorem zPo.v11 (h : zPo σ μ s t) {v w : Int32} (r : zr 0 16383 v) (e : w = v) : zPo σ μ (zsi s 23 11 v) (zsi t 3 58 w) := h.w1 (z_pn23_0 (d := 11) (by decide)) rfl (zGo.r rfl r) e rfl rfl
theorem zPo.v12 (h : zPo σ μ s t) {v w : Int32} (r : zr 0 3 v) (e : w = v) : zPo σ μ (zsi s 23 12 v) (zsi t 3 59 w) := h.w1 (z_pn23_0 (d := 12) (by decide)) rfl (zGo.r rfl r) e rfl rfl
theorem zPo.v13 (h : zPo σ μ s t) {v w : Int32} (r : zr 0 255 v) (e : w = v) : zPo σ μ (zsi s 23 13 v) (zsi t 3 60 w) := h.w1 (z_pn23_0 (d := 13) (by decide)) rfl (zGo.r rfl r) e rfl rfl
theorem zPo.v14 (h : zPo σ μ s t) {v w : Int32} (r : zr 0 1 v) (e : w = v) : zPo σ μ (zsi s 23 14 v) (zsi t 3 61 w) := h.w1 (z_pn23_0 (d := 14) (by decide)) rfl (zGo.r rfl r) e rfl rfl
theorem zPo.v15 (h : zPo σ μ s t) {v w : Int32} (r : zr 0 255 v) (e : w = v) : zPo σ μ (zsi s 23 15 v) (zsi t 3 62 w) := h.w1 (z_pn23_0 (d := 15) (by decide)) rfl (zGo.r rfl r) e rfl rfl
theorem zPo.v16 (h : zPo σ μ s t) {v w : Int32} (r : zr 0 1 v) (e : w = v) : zPo σ μ (zsi s 23 16 v) (zsi t 3 63 w) := h.w1 (z_pn23_0 (d := 16) (by decide)) rfl (zGo.r rfl r) e rfl rfl
theorem zVe.e11 (h : zVe σ μ) : μ.1 3 58 = σ.1 23 11 := h.1.e (z_pn23_0 (d := 11) (by decide))
theorem zVe.e12 (h : zVe σ μ) : μ.1 3 59 = σ.1 23 12 := h.1.e (z_pn23_0 (d := 12) (by decide))
theorem zVe.e13 (h : zVe σ μ) : μ.1 3 60 = σ.1 23 13 := h.1.e (z_pn23_0 (d := 13) (by decide))
theorem zVe.e14 (h : zVe σ μ) : μ.1 3 61 = σ.1 23 14 := h.1.e (z_pn23_0 (d := 14) (by decide))
theorem zVe.e15 (h : zVe σ μ) : μ.1 3 62 = σ.1 23 15 := h.1.e (z_pn23_0 (d := 15) (by decide))
theorem zVe.e16 (h : zVe σ μ) : μ.1 3 63 = σ.1 23 16 := h.1.e (z_pn23_0 (d := 16) (by decide))
theorem t_status (h : zVe σ μ) : zp2 (fX9_readStatus σ ) (fX12_status μ ) (fun r r' => zPo σ μ r.1 r'.1 ∧ r'.2 = r.2 ∧ zr 0 255 r.2) := by
  unfold fX9_readStatus fX12_status
  refine zp2_ckl (zp2_bvl (fun v ev => zp2_ckl (zp2_bvl (fun s1 f1 => zp2_ckl (zp2_bvl (fun s2 f2 => zp2_ckl (zp2_bvl (fun s3 f3 => ?_))))))))
  refine zp2_ckr (zp2_bvr (fun v' ev' => zp2_ckr (zp2_bvr (fun t1 g1 => zp2_ckr (zp2_bvr (fun t2 g2 => zp2_ckr (zp2_bvr (fun t3 g3 => zp2_some ?_))))))))
  have ev : v = σ.1 23 15 := ev
  have ev' : v' = μ.1 3 62 := ev'
  have z0 : zr 0 1 (0 : Int32) := zr_c (by decide)
  have z1 : zr 0 255 (0 : Int32) := zr_c (by decide)
  subst f3
  subst f2
  subst f1
  subst g3
  subst g2
  subst g1
  refine ⟨(((zPo.rf h).v14 z0 rfl).v15 z1 rfl).v16 z0 rfl, ?_, ?_⟩
  · show v' = v
    rw [ev, ev', h.e15]
  · show zr 0 255 v
    rw [ev]
    exact h.2.1.at (k := 23) (j := 15) rfl
theorem z_vr (h : zE σ μ) {j : Nat} (hj : j < 16384) : μ.1 7 j &&& 255 = σ.1 21 j := by
  have q := h.at (z_pn21_0 (d := j) hj)
  rw [Nat.zero_add] at q
  exact q
theorem z_r14 (x : Int32) : zr 0 16383 (x &&& 16383) := zr_andr (lo := 0) (hi := 16383) (zr_c (lo := 16383) (hi := 16383) (by decide)) (by decide)
theorem z_m14 {v : Int32} (h : zr 0 16383 v) : v &&& 16383 = v := Int32.toInt_inj.mp (by rw [z_mask (k := 14) h.1 rfl (by decide)]; have := h.1; have := h.2; show v.toInt % 16384 = _; omega)
/-- one byte ahead -/
theorem t_ahead (h : zVe σ μ) {α β : Type} {Q : α → β → Prop} {f : zSt → Option α} {g : zSt → Option β} (k : ∀ s t, zPo σ μ s t → zp2 (f s) (g t) Q) : zp2 (zbu (fX9_readAhead σ ) f) (zck (zin 58 1048) (zbi (fX12_video8 μ (zgi μ 3 (58 : Int32).toNatClampNeg)) (fun σ3 v4 => zck (zin 60 1048) (zbv (zsi σ3 3 ((60 : Int32).toNatClampNeg) v4) (fun σ5 => zbu (fX12_further σ5 ) g))))) Q := by
  have e11 : μ.1 3 58 = σ.1 23 11 := h.e11
  have r14 := z_r14 (σ.1 23 11)
  have hj : (σ.1 23 11 &&& 16383).toNatClampNeg < 16384 := by
    have := z_clamp r14.1
    have := r14.2
    omega
  have cC : zpc (fX9_readAhead σ ) (fun r => r = zsi (zsi σ 23 13 (σ.1 21 (σ.1 23 11 &&& 16383).toNatClampNeg)) 23 11 ((σ.1 23 11 + 1) &&& 16383)) := by
    unfold fX9_readAhead
    exact zpc_ck (zpc_ck (zpc_ck (zpc_bv (fun s1 f1 => zpc_ck (zpc_ck (zpc_bv (fun s2 f2 => zpc_some (by rw [f2, f1]; rfl))))))))
  refine zp2_bul cC (fun s es => zp2_ckr ?_)
  rw [show zgi μ 3 (58 : Int32).toNatClampNeg = σ.1 23 11 from e11]
  unfold fX12_video8 fX12_further
  refine zp2_bir (P := fun r => r = (μ, σ.1 21 (σ.1 23 11 &&& 16383).toNatClampNeg)) (zpc_ck (zpc_some (by rw [← z_vr h.1 hj]; rfl))) (fun t0 v0 e0 => ?_)
  cases e0
  refine zp2_ckr (zp2_bvr (fun t1 g1 => zp2_bur (P := fun r => r = zsi t1 3 58 ((σ.1 23 11 + 1) &&& 16383)) (zpc_ck (zpc_ck (zpc_bv (fun t2 g2 => zpc_some ?_)))) (fun t2 e2 => ?_)))
  · rw [g2]
    have e : zgi t1 3 (58 : Int32).toNatClampNeg = σ.1 23 11 := by rw [g1]; exact e11
    rw [e]
    rfl
  · have g1 : t1 = zsi μ 3 60 (σ.1 21 (σ.1 23 11 &&& 16383).toNatClampNeg) := g1
    subst e2
    subst g1
    subst es
    refine k _ _ (((zPo.rf h).v13 ?_ rfl).v11 (z_r14 _) rfl)
    rw [← z_vr h.1 hj]
    exact z_r8 _
theorem t_data (h : zVe σ μ) : zp2 (fX9_readData σ ) (fX12_data μ ) (fun r r' => zPo σ μ r.1 r'.1 ∧ r'.2 = r.2 ∧ zr 0 255 r.2) := by
  unfold fX9_readData fX12_data
  refine zp2_ckl (zp2_bvl (fun v ev => zp2_ckl (zp2_bvl (fun s1 f1 => zp2_ckr (zp2_bvr (fun v' ev' => zp2_ckr (zp2_bvr (fun t1 g1 => ?_))))))))
  have ev : v = σ.1 23 13 := ev
  have ev' : v' = σ.1 23 13 := ev'.trans h.e13
  have f1 : s1 = zsi σ 23 14 0 := f1
  have g1 : t1 = zsi μ 3 61 0 := g1
  subst f1
  subst g1
  have h1 : zPo σ μ (zsi σ 23 14 0) (zsi μ 3 61 0) := (zPo.rf h).v14 (zr_c (by decide)) rfl
  refine t_ahead h1.1 (fun s t q => zp2_some ⟨h1.tr q, ?_, ?_⟩)
  · show v' = v
    rw [ev, ev']
  · show zr 0 255 v
    rw [ev]
    exact h.2.1.at (k := 23) (j := 13) rfl
end ZVP
end ZJN2
section ZJN3
/-! THE CONTROL PORT -/
section ZVC
variable {σ μ s t : zSt}
theorem z_nbeq {a b : Nat} (h : ¬ a = b) : Nat.beq a b = false := by
  cases q : Nat.beq a b with
  | true => exact absurd (Nat.eq_of_beq_eq_true q) h
  | false => rfl
theorem v_x16 : ∀ i : Fin 256, zrem (Int32.ofNat i.val) 16 = Int32.ofNat i.val &&& 15 := by decide +kernel
theorem zPo.vj (h : zPo σ μ s t) {d : Nat} {v w : Int32} (hd : d ≤ 10) (r : zr 0 255 v) (e : w = v) : zPo σ μ (zsi s 23 d v) (zsi t 3 (47 + d) w) := by
  have p := z_pn23_0 (d := d) (by omega)
  rw [Nat.zero_add] at p
  refine h.w1 p ?_ (zGo.r (zg_23r ⟨d, by omega⟩) r) e rfl (zcv_m (a := 33) (b := 65) (by decide) (by omega) (by omega))
  show (true && !(true && Nat.beq d 20)) = true
  rw [show Nat.beq d 20 = false from z_nbeq (by omega)]
  rfl
theorem t_ctl (h : zVe σ μ) {x : Int32} (hx : zr 0 255 x) : zp2 (fX9_writeControl σ x) (fX12_control μ x) (zPo σ μ) := by
  have e14 : zgi μ 3 (61 : Int32).toNatClampNeg = zgi σ 23 (14 : Int32).toNatClampNeg := h.e14
  have e11 : ∀ s t : zSt, zVe s t → zgi t 3 (58 : Int32).toNatClampNeg = zgi s 23 (11 : Int32).toNatClampNeg := fun s t q => q.e11
  have e12 : ∀ s t : zSt, zVe s t → zgi t 3 (59 : Int32).toNatClampNeg = zgi s 23 (12 : Int32).toNatClampNeg := fun s t q => q.e12
  unfold fX9_writeControl fX12_control
  refine zp2_ckl (zp2_ckr ?_)
  rw [e14]
  refine zp2_if (fun _ => ?_) (fun _ => ?_)
  · refine zp2_ckl (zp2_ckl (zp2_bvl (fun s1 f1 => zp2_ckl (zp2_bvl (fun s2 f2 => zp2_ckr (zp2_ckr (zp2_bvr (fun t1 g1 => zp2_ckr (zp2_bvr (fun t2 g2 => zp2_some ?_))))))))))
    rw [e11 _ _ h] at g1
    rw [f2, g2, f1, g1]
    exact ((zPo.rf h).v11 (zr_or (lo := 0) (hi := 16383) 14 (zr_andr (lo := 0) (hi := 16128) (zr_c (lo := 16128) (hi := 16128) (by decide)) (by decide)) hx (by decide)) rfl).v14 (zr_c (by decide)) rfl
  · refine zp2_ckl (zp2_bvl (fun s1 f1 => zp2_ckl (zp2_ckl (zp2_bvl (fun s2 f2 => zp2_ckl (zp2_bvl (fun s3 f3 => zp2_ckl ?_)))))))
    refine zp2_ckr (zp2_bvr (fun t1 g1 => zp2_ckr (zp2_ckr (zp2_bvr (fun t2 g2 => zp2_ckr (zp2_bvr (fun t3 g3 => zp2_ckr ?_)))))))
    have h1 : zPo σ μ s1 t1 := by
      rw [f1, g1]
      exact (zPo.rf h).v14 (zr_c (by decide)) rfl
    rw [e11 _ _ h1.1] at g2
    have h2 : zPo σ μ s2 t2 := by
      rw [f2, g2]
      exact h1.v11 (zr_or (lo := 0) (hi := 16383) 14 (zr_shl (lo := 0) (hi := 16128) 8 (by decide) (zr_andr (lo := 0) (hi := 63) (zr_c (lo := 63) (hi := 63) (by decide)) (by decide)) (by decide)) (zr_andr (lo := 0) (hi := 255) (zr_c (lo := 255) (hi := 255) (by decide)) (by decide)) (by decide)) rfl
    have h3 : zPo σ μ s3 t3 := by
      rw [f3, g3]
      exact h2.v12 (z_dec hx).1 rfl
    unfold fX9_writeControl_141 fX12_control_162
    rw [e12 _ _ h3.1]
    refine zp2_if (fun _ => ?_) (fun _ => zp2_ckl (zp2_ckr (zp2_if (fun _ => zp2_ckr ?_) (fun _ => zp2_some h3))))
    · exact t_ahead h3.1 (fun s t q => zp2_some (h3.tr q))
    · have ex : zrem x 16 = x &&& 15 := by
        obtain ⟨i, e⟩ := z_byteF hx
        subst e
        exact v_x16 i
      rw [ex]
      have r15 : zr 0 15 (x &&& 15) := zr_andr (lo := 0) (hi := 15) (zr_c (lo := 15) (hi := 15) (by decide)) (by decide)
      by_cases q : 10 < x &&& 15
      · have q2 : 11 ≤ x &&& 15 := Int32.le_iff_toInt_le.mpr (by have := Int32.lt_iff_toInt_lt.mp q; have c : (10 : Int32).toInt = 10 := rfl; have d : (11 : Int32).toInt = 11 := rfl; omega)
        exact zp2_ifl (fun _ => zp2_ifr (fun _ => zp2_some h3) (fun r => absurd q2 r)) (fun r => absurd q r)
      · have q1 := Int32.le_iff_toInt_le.mp (z_nlt q)
        have c10 : (10 : Int32).toInt = 10 := rfl
        have c11 : (11 : Int32).toInt = 11 := rfl
        have q2 : ¬ 11 ≤ x &&& 15 := fun r => by have := Int32.le_iff_toInt_le.mp r; omega
        refine zp2_ifl (fun r => absurd r q) (fun _ => zp2_ifr (fun r => absurd r q2) (fun _ => ?_))
        refine zp2_ckl (zp2_ckl (zp2_bvl (fun s4 f4 => zp2_ckr (zp2_ckr (zp2_ckr (zp2_bvr (fun t4 g4 => zp2_some ?_)))))))
        have kj := z_clamp r15.1
        have hj : (x &&& 15).toNatClampNeg ≤ 10 := by omega
        rw [e11 _ _ h3.1, z_off r15 (k := 47) rfl (by decide)] at g4
        rw [f4, g4]
        exact h3.vj hj (z_r8 _) rfl
end ZVC
end ZJN3
