/-! ONE STEP -/
theorem z_ick {α : Type} {c : Bool} {o : Option (zSt × Int32)} {f : zSt → Int32 → Option α} : zbi (zck c o) f = zck c (zbi o f) := by
  cases c <;> rfl
theorem zp2_sub {α β : Type} {o o' : Option (zSt × Int32)} {K : zSt → Int32 → Option α} {p : Option β} {Q : α → β → Prop} (hs : zpc o (fun r => o' = some r)) (h : zp2 (zbi o' K) p Q) : zp2 (zbi o K) p Q := by
  intro a b ea eb
  cases e : o with
  | none => rw [e] at ea; cases ea
  | some r =>
    rw [e] at ea
    refine h a b ?_ eb
    rw [hs r e]
    exact ea
theorem z_iu {α : Type} {o : Option zSt} {g : zSt → Option (zSt × Int32)} {f : zSt → Int32 → Option α} : zbi (zbu o g) f = zbu o (fun s => zbi (g s) f) := by
  cases o <;> rfl
/-- the reference's chip asks: a, whatever the registers hold -/
def zAsk (a : Int32) (μ : zSt) : Prop := ∀ t : zSt, (∀ j : Nat, 29 ≤ j → t.1 3 j = μ.1 3 j) → zpc (fX12_asks t) (fun r => r = (t, a))
section ZST
variable {I : zSt → zSt → Prop} {σ μ : zSt}
theorem zTT.pq (hI : zIoK I) (h : zTT I σ μ) {v : Int32} (hv : zr 0 1 v) : zTT I (zsi σ 36 27 v) (zsi μ 3 28 v) := by
  refine ⟨h.1.keep (zQ.wi zQ.rf rfl) (zQ.wi zQ.rf rfl), ⟨fun j hj hn hw => ?_, ?_, ?_, fun j hj => ?_⟩, h.2.2.1.imp (fun x => x) (fun x => x), hI _ _ _ _ h.2.2.2 (zQ.wi zQ.rf rfl) (zQ.wi zQ.rf rfl)⟩
  · rw [zsi_nj (by omega), zsi_nj (by omega)]; exact h.2.1.1 j hj hn hw
  · rw [zsi_ej, zsi_ej]
  · rw [zsi_nj (by decide), zsi_nj (by decide)]; exact h.2.1.2.2.1
  · by_cases q : j = 27
    · rw [q, zsi_ej]; exact zrg_1 (by decide) (by decide) hv
    · rw [zsi_nj q]; exact h.2.1.2.2.2 j hj
theorem t_204 (hI : zIoK I) (hPo : zPorts I) (h : zTT I σ μ) (hF : zF σ μ) (hW : zWzz σ μ) (h28 : σ.1 36 28 = 0) {α : Type} {Q : α → zSt → Prop} {F : zSt → Int32 → Option α} (k : ∀ s t b, zTT I s t → zF s t → zWzz s t → zr 1 64 b → zp2 (F s b) (fX12_once_229 t b) Q) : zp2 (zbi (fX5_carryOn σ ) F) (fX12_once_204 μ) Q := by
  unfold fX5_carryOn fX12_once_204
  rw [z_ick]
  refine zp2_ckl (zp2_ckr ?_)
  have e26 : zgi μ 3 (26 : Int32).toNatClampNeg = zgi σ 36 (26 : Int32).toNatClampNeg := h.eq (j := 26) (by decide)
  rw [e26]
  by_cases q : zgi σ 36 (26 : Int32).toNatClampNeg = 1
  · rw [if_pos q, if_pos q, z_iu]
    exact zp2_buu (t_halt hI h hF hW) (fun s t q => k s t 4 q.1 q.2.1 q.2.2 (zr_c (by decide)))
  · rw [if_neg q, if_neg q]
    refine zp2_bii (zp2_andr (t_instr hI hPo h hF hW h28) p_beats) (fun s v t w q => ?_)
    obtain ⟨⟨q1, q2, q3, q4⟩, q5⟩ := q
    have q4 : w = v := q4
    subst q4
    exact k s t w q1 q2 q3 q5
theorem t_once (hI : zIoK I) (hPo : zPorts I) (h : zTT I σ μ) (hF : zF σ μ) (hW : zWzz σ μ) {a : Int32} (ha : zAsk a μ) {α : Type} {Q : α → zSt → Prop} {F : zSt → Int32 → Option α} (k : ∀ s t b, zTT I s t → zF s t → zWzz s t → zr 1 64 b → zp2 (F s b) (fX12_once_229 t b) Q) : zp2 (zbi (fX5_answerCalls σ a) (fun σ9 v10 => if v10 = 0 then zbi (fX5_carryOn σ9 ) F else F σ9 v10)) (zck (zin 27 1048) (if (zgi μ 3 (27 : Int32).toNatClampNeg) = 0 then fX12_once_46 μ 1 else fX12_once_46 μ 0)) Q := by
  have e28 : zgi μ 3 (27 : Int32).toNatClampNeg = σ.1 36 28 := h.2.1.2.2.1
  have e27 : μ.1 3 28 = σ.1 36 27 := h.2.1.2.1
  have e23 : μ.1 3 23 = σ.1 36 23 := h.eq (by decide)
  have r23 : zr 0 1 (σ.1 36 23) := (h.g (j := 23) (by decide)).2.2.2.1 (by decide) (by decide)
  have r25 : zr 0 2 (σ.1 36 25) := (h.g (j := 25) (by decide)).2.2.2.2.1 rfl
  have e25 : μ.1 3 25 = σ.1 36 25 := h.eq (by decide)
  have h0 : zTT I (zsi σ 36 28 0) (zsi μ 3 27 0) := h.pz hI (zr_c (by decide))
  have F0 : zF (zsi σ 36 28 0) (zsi μ 3 27 0) := hF
  have W0 : zWzz (zsi σ 36 28 0) (zsi μ 3 27 0) := hW
  have c0 : (zsi σ 36 28 0).1 36 28 = 0 := rfl
  have car : ∀ o : Option (zSt × Int32), zpc o (fun r => r = (zsi σ 36 28 0, 0)) → zp2 (zbi o (fun σ9 v10 => if v10 = 0 then zbi (fX5_carryOn σ9 ) F else F σ9 v10)) (fX12_once_204 (zsi μ 3 27 0)) Q := fun o ho => by
    refine zp2_bil ho (fun s v e => ?_)
    cases e
    exact zp2_ifl (fun _ => t_204 hI hPo h0 F0 W0 c0 k) (fun q => absurd rfl q)
  refine zp2_ckr ?_
  rw [e28]
  unfold fX12_once_46
  by_cases p : σ.1 36 28 = 0
  · refine zp2_ifr (fun _ => zp2_ckr (zp2_bvr (fun t1 g1 => zp2_ckr ?_))) (fun q => absurd p q)
    have g1 : t1 = zsi μ 3 27 0 := g1
    subst g1
    rw [show zgi (zsi μ 3 27 0) 3 (28 : Int32).toNatClampNeg = σ.1 36 27 from e27]
    by_cases n27 : σ.1 36 27 = 1
    · -- the pause button's call
      refine zp2_ifr (fun _ => zp2_ifr (fun q => absurd q (by decide)) (fun _ => zp2_ckr (zp2_bvr (fun t2 g2 => zp2_ckr (zp2_bvr (fun t3 g3 => zp2_bur p_ans (fun t4 e4 => ?_))))))) (fun q => absurd n27 q)
      have h2 : zTT I (zsi (zsi (zsi σ 36 28 0) 36 27 0) 36 23 0) t3 := by
        rw [g3, g2]
        exact (h0.pq hI (zr_c (by decide))).upd hI [23] (zQ.wi zQ.rf rfl) (zQ.wi zQ.rf rfl) rfl (zAl1 ⟨rfl, zrg_1 (by decide) (by decide) (show zr 0 1 (0 : Int32) from zr_c (by decide))⟩)
      have F2 : zF (zsi (zsi (zsi σ 36 28 0) 36 27 0) 36 23 0) t3 := by rw [g3, g2]; exact hF
      refine zp2_sub (o' := zbu (fX5_breakOff (zsi (zsi (zsi σ 36 28 0) 36 27 0) 36 23 0) 102) (fun s => some (s, 11))) ?_ ?_
      · unfold fX5_answerCalls fX5_answerCalls_15
        refine zpc_ck (zpc_if (fun _ => zpc_ck (zpc_bv (fun s1 e1 => zpc_if (fun q => absurd q (by decide)) (fun _ => zpc_ck (zpc_if (fun _ => zpc_ck (zpc_bv (fun s2 e2 => zpc_ck (zpc_bv (fun s3 e3 => ?_))))) (fun q => absurd (show zgi s1 36 (27 : Int32).toNatClampNeg = 1 by rw [e1]; exact n27) q)))))) (fun q => absurd p q))
        have es : s3 = zsi (zsi (zsi σ 36 28 0) 36 27 0) 36 23 0 := by rw [e3, e2, e1]; rfl
        rw [es]
        exact fun r er => er
      · rw [z_iu]
        exact t_brk hI h2 F2 (zr_c (by decide)) e4 (fun s t q1 q2 q3 _ => show zp2 (if (11 : Int32) = 0 then zbi (fX5_carryOn s ) F else F s 11) (fX12_once_229 t 11) Q from zp2_ifl (fun q => absurd q (by decide)) (fun _ => k s t 11 q1 q2 q3 (zr_c (by decide))))
    · refine zp2_ifr (fun q => absurd q n27) (fun _ => ?_)
      have c82 : (a = 0 ∨ σ.1 36 23 = 0) → zpc (fX5_answerCalls σ a) (fun r => r = (zsi σ 36 28 0, 0)) := fun hh => by
        unfold fX5_answerCalls fX5_answerCalls_15 fX5_answerCalls_64 fX5_answerCalls_82
        refine zpc_ck (zpc_if (fun _ => zpc_ck (zpc_bv (fun s1 e1 => zpc_if (fun q => absurd q (by decide)) (fun _ => zpc_ck (zpc_if (fun q => absurd (show σ.1 36 27 = 1 by rw [e1] at q; exact q) n27) (fun _ => zpc_if (fun q => absurd q (by decide)) (fun _ => ?_))))))) (fun q => absurd p q))
        have e1 : s1 = zsi σ 36 28 0 := e1
        subst e1
        refine zpc_if (fun _ => zpc_some rfl) (fun a0 => zpc_ck (zpc_if (fun _ => zpc_some rfl) (fun q => ?_)))
        rcases hh with x | x
        · exact absurd x a0
        · exact absurd x q
      unfold fX12_once_102
      refine zp2_ckr ?_
      rw [show zgi (zsi μ 3 27 0) 3 (23 : Int32).toNatClampNeg = σ.1 36 23 from e23]
      by_cases n23 : σ.1 36 23 = 1
      · refine zp2_ifr (fun _ => zp2_ifr (fun q => absurd q (by decide)) (fun _ => ?_)) (fun q => absurd n23 q)
        refine zp2_bir (ha (zsi μ 3 27 0) (fun j hj => zsi_nj (by omega))) (fun t v e => ?_)
        cases e
        by_cases a0 : a = 0
        · exact zp2_ifr (fun _ => car _ (c82 (Or.inl a0))) (fun q => absurd a0 q)
        refine zp2_ifr (fun q => absurd q a0) (fun _ => zp2_ckr (zp2_bvr (fun t2 g2 => zp2_ckr (zp2_bvr (fun t3 g3 => zp2_bur p_ans (fun t4 e4 => zp2_ckr ?_))))))
        have h2 : zTT I (zsi (zsi (zsi σ 36 28 0) 36 23 0) 36 24 0) t3 := by
          rw [g3, g2]
          exact h0.upd hI [23, 24] (zQ.wi (zQ.wi zQ.rf rfl) rfl) (zQ.wi (zQ.wi zQ.rf rfl) rfl) rfl (zAl2 ⟨rfl, zrg_1 (by decide) (by decide) (show zr 0 1 (0 : Int32) from zr_c (by decide))⟩ ⟨rfl, zrg_1 (by decide) (by decide) (show zr 0 1 (0 : Int32) from zr_c (by decide))⟩)
        have F2 : zF (zsi (zsi (zsi σ 36 28 0) 36 23 0) 36 24 0) t3 := by rw [g3, g2]; exact hF
        have m25 : t3.1 3 25 = σ.1 36 25 := by rw [g3, g2]; exact e25
        have m25' : zgi t4 3 (25 : Int32).toNatClampNeg = σ.1 36 25 := by rw [e4]; exact m25
        rw [m25']
        refine zp2_sub (o' := if σ.1 36 25 = 2 then zbi (fX5_readWord (zsi (zsi (zsi σ 36 28 0) 36 23 0) 36 24 0) ((σ.1 36 21 <<< ((8 : Int32) &&& 31)) ||| 255)) (fun σ4 v5 => zbu (fX5_breakOff σ4 v5) (fun σ6 => some (σ6, 19))) else zbu (fX5_breakOff (zsi (zsi (zsi σ 36 28 0) 36 23 0) 36 24 0) 56) (fun s => some (s, 13))) ?_ ?_
        · unfold fX5_answerCalls fX5_answerCalls_15 fX5_answerCalls_64
          refine zpc_ck (zpc_if (fun _ => zpc_ck (zpc_bv (fun s1 e1 => zpc_if (fun q => absurd q (by decide)) (fun _ => zpc_ck (zpc_if (fun q => absurd (show σ.1 36 27 = 1 by rw [e1] at q; exact q) n27) (fun _ => zpc_if (fun q => absurd q (by decide)) (fun _ => zpc_if (fun q => absurd q a0) (fun _ => zpc_ck (zpc_if (fun q => ?_) (fun _ => zpc_ck (zpc_bv (fun s2 e2 => zpc_ck (zpc_bv (fun s3 e3 => zpc_ck ?_)))))))))))))) (fun q => absurd p q))
          · rw [e1] at q
            exact absurd (show σ.1 36 23 = 0 from q) (fun z => by rw [n23] at z; exact absurd z (by decide))
          · have es : s3 = zsi (zsi (zsi σ 36 28 0) 36 23 0) 36 24 0 := by rw [e3, e2, e1]; rfl
            subst es
            refine zpc_if (fun q => zpc_ck ?_) (fun q => ?_)
            · rw [if_pos (show σ.1 36 25 = 2 from q)]
              exact fun r er => er
            · rw [if_neg (show ¬ σ.1 36 25 = 2 from q)]
              exact fun r er => er
        · have fin : ∀ x b : Int32, zr 0 65535 x → ¬ b = 0 → (b = 19 ∧ 2 ≤ σ.1 36 25 ∨ b = 13 ∧ ¬ 2 ≤ σ.1 36 25) → zp2 (zbi (zbu (fX5_breakOff (zsi (zsi (zsi σ 36 28 0) 36 23 0) 36 24 0) x) (fun s => some (s, b))) (fun σ9 v10 => if v10 = 0 then zbi (fX5_carryOn σ9 ) F else F σ9 v10)) (fX12_once_179 t4 x) Q := fun x b rx b0 hb => by
            rw [z_iu]
            unfold fX12_once_179 fX12_once_200
            refine t_brk hI h2 F2 rx e4 (fun s t q1 q2 q3 q5 => zp2_ckr ?_)
            rw [show zgi t 3 (25 : Int32).toNatClampNeg = σ.1 36 25 from q5.trans m25]
            have rb : zr 1 64 b := by
              rcases hb with ⟨x1, _⟩ | ⟨x1, _⟩
              · rw [x1]; exact zr_c (by decide)
              · rw [x1]; exact zr_c (by decide)
            have kk : zp2 (if b = 0 then zbi (fX5_carryOn s ) F else F s b) (fX12_once_229 t b) Q := zp2_ifl (fun q => absurd q b0) (fun _ => k s t b q1 q2 q3 rb)
            rcases hb with ⟨x1, x2⟩ | ⟨x1, x2⟩
            · subst x1
              exact zp2_ifr (fun _ => kk) (fun q => absurd x2 q)
            · subst x1
              exact zp2_ifr (fun q => absurd q x2) (fun _ => kk)
          by_cases m2 : σ.1 36 25 = 2
          · have le : 2 ≤ σ.1 36 25 := by rw [m2]; decide
            rw [if_pos m2, if_pos le, z_ia]
            refine zp2_ckr ?_
            have hm : zM2 (zsi (zsi (zsi σ 36 28 0) 36 23 0) 36 24 0) t4 := by rw [e4]; exact h2.1.keep zQ.rf (zQ.wi (zQ.wi zQ.rf rfl) rfl)
            have e21 : zgi t4 3 (21 : Int32).toNatClampNeg = σ.1 36 21 := by
              rw [e4]
              exact h2.eq (j := 21) (by decide)
            rw [e21]
            exact zp2_sm (t_rword hm rfl) (fun x rx => fin x 19 rx (by decide) (Or.inl ⟨rfl, le⟩))
          · have nle : ¬ 2 ≤ σ.1 36 25 := fun q => m2 (Int32.toInt_inj.mp (by have := Int32.le_iff_toInt_le.mp q; have c : (2 : Int32).toInt = 2 := rfl; have := r25.2; omega))
            rw [if_neg m2, if_neg nle]
            exact fin 56 13 (zr_c (by decide)) (by decide) (Or.inr ⟨rfl, nle⟩)
      · have z23 : σ.1 36 23 = 0 := by
          rcases zr_hd (c := 0) r23 rfl with e | r
          · exact e
          rcases zr_hd (c := 1) r rfl with e | r
          · exact absurd e n23
          exact zr_no9 r (by decide)
        exact zp2_ifr (fun q => absurd q n23) (fun _ => car _ (c82 (Or.inr z23)))
  · refine zp2_ifr (fun q => absurd q p) (fun _ => zp2_ckr (zp2_bvr (fun t1 g1 => zp2_ckr ?_)))
    have g1 : t1 = zsi μ 3 27 0 := g1
    subst g1
    have e102 : zp2 (zbi (fX5_answerCalls σ a) (fun σ9 v10 => if v10 = 0 then zbi (fX5_carryOn σ9 ) F else F σ9 v10)) (fX12_once_102 (zsi μ 3 27 0) 0) Q := by
      have ca : zpc (fX5_answerCalls σ a) (fun r => r = (zsi σ 36 28 0, 0)) := by
        unfold fX5_answerCalls fX5_answerCalls_15 fX5_answerCalls_64 fX5_answerCalls_82
        exact zpc_ck (zpc_if (fun q => absurd q p) (fun _ => zpc_ck (zpc_bv (fun s es => zpc_if (fun _ => zpc_if (fun _ => zpc_some (by rw [es]; rfl)) (fun q => absurd rfl q)) (fun q => absurd rfl q)))))
      unfold fX12_once_102
      refine zp2_ckr (zp2_ifr (fun _ => zp2_ifr (fun _ => car _ ca) (fun q => absurd rfl q)) (fun _ => car _ ca))
    exact zp2_ifr (fun _ => zp2_ifr (fun _ => e102) (fun q => absurd rfl q)) (fun _ => e102)
end ZST
