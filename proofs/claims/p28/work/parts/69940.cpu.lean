section ZJN0
/-! THE BLOCKS' PORTS -/
noncomputable def cTl (B v k : Int32) : Int32 := ((cby B ||| ((v >>> ((6 : Int32) &&& 31)) &&& 2)) ||| (if k ≤ 255 then 0 else 17)) ||| cpar ((k &&& 7) ^^^ B)
section ZBP
variable {I : zSt → zSt → Prop} {σ μ : zSt}
theorem p_tell {v k : Int32} : zpc (fX5_tellOfPort σ v k) (fun r => r = zsi σ 36 1 (cTl (σ.1 36 2) v k)) := by
  unfold fX5_tellOfPort cTl
  refine zpc_ck (zpc_bi p_byC (fun s x e => ?_))
  cases e
  refine zpc_jx (K := fun g => fX5_tellOfPort_34 σ k g (cby (zgi σ 36 (2 : Int32).toNatClampNeg) ||| ((v >>> ((6 : Int32) &&& 31)) &&& 2)) 1) (a := 0) (b := 17) rfl rfl (fun g eg => ?_)
  unfold fX5_tellOfPort_34
  refine zpc_ck (zpc_bi p_parC (fun s x e => ?_))
  cases e
  refine zpc_ck (zpc_bv (fun t et => zpc_some ?_))
  rw [et, eg]
  rfl
theorem fl_tell {f B v k : Int32} (hf : zr 0 255 f) (hB : zr 0 255 B) (hv : zr 0 255 v) : pt (pt (pt (pt (gby f B) 1 (if v ≤ 127 then 0 else 1)) 4 (if k ≤ 255 then 0 else 1)) 0 (if k ≤ 255 then 0 else 1)) 2 (gev ((k &&& 7) ^^^ B)) = cTl B v k := by
  have r7 : zr 0 255 ((k &&& 7) ^^^ B) := z_xb (zr_w (z_r7 k) (by decide)) hB
  unfold cTl
  have e1 : (v >>> ((6 : Int32) &&& 31)) &&& 2 = bif bc (if v ≤ 127 then 0 else 1) then 2 else 0 := by
    obtain ⟨i, e⟩ := z_byteF hv
    rw [e]
    exact (v_tellf i).1
  have e2 : cpar ((k &&& 7) ^^^ B) = bif bc (gev ((k &&& 7) ^^^ B)) then 4 else 0 := by
    obtain ⟨i, e⟩ := z_byteF r7
    rw [e]
    exact (v_tellf i).2
  have e3 : (if k ≤ 255 then (0 : Int32) else 17) = bif bc (if k ≤ 255 then 0 else 1) then 17 else 0 := by
    by_cases q : k ≤ 255
    · rw [if_pos q, if_pos q]; rfl
    · rw [if_neg q, if_neg q]; rfl
  rw [e1, e2, e3, v_cby hB, ← v_tellB]
  conv => lhs; rw [fl_of hf, fl_by, pt_1, pt_4, pt_0, pt_2]
  rfl
theorem r_tell {f B v k : Int32} (hf : zr 0 255 f) (hB : zr 0 255 B) (hv : zr 0 255 v) : zr 0 255 (cTl B v k) := by
  rw [← fl_tell hf hB hv, fl_of hf, fl_by, pt_1, pt_4, pt_0, pt_2]
  exact zfl_r _ _ _ _ _ _ _ _
theorem p_485 {y z v k : Int32} {Q : zSt × Int32 → Prop} (c : zpc (fX12_blocks_584 (zsi μ 3 1 (pt (pt (pt (pt (gby (μ.1 3 1) (μ.1 3 2)) 1 (if v ≤ 127 then 0 else 1)) 4 (if k ≤ 255 then 0 else 1)) 0 (if k ≤ 255 then 0 else 1)) 2 (gev ((k &&& 7) ^^^ μ.1 3 2)))) y z (if μ.1 3 2 = 0 then 0 else 1)) Q) : zpc (fX12_blocks_485 μ y z v k) Q := by
  unfold fX12_blocks_485
  refine zpc_ck (zpc_bu p_by' (fun s e => ?_))
  have e : s = zsi μ 3 1 (gby (μ.1 3 1) (μ.1 3 2)) := e
  subst e
  refine zpc_jx (K := fun g => fX12_blocks_509 (zsi μ 3 1 (gby (μ.1 3 1) (μ.1 3 2))) y z k g 1) (a := 0) (b := 1) rfl rfl (fun g1 e1 => ?_)
  unfold fX12_blocks_509
  refine zpc_bu p_put (fun s e => ?_)
  subst e
  refine zpc_jx (K := fun g => fX12_blocks_527 (zsi μ 3 1 (pt (gby (μ.1 3 1) (μ.1 3 2)) 1 g1)) y z k g 4) (a := 0) (b := 1) rfl rfl (fun g2 e2 => ?_)
  unfold fX12_blocks_527
  refine zpc_bu p_put (fun s e => ?_)
  subst e
  refine zpc_jx (K := fun g => fX12_blocks_545 (zsi μ 3 1 (pt (pt (gby (μ.1 3 1) (μ.1 3 2)) 1 g1) 4 g2)) y z k g 0) (a := 0) (b := 1) rfl rfl (fun g3 e3 => ?_)
  unfold fX12_blocks_545 fX12_blocks_582
  refine zpc_bu p_put (fun s e => zpc_ck ?_)
  subst e
  refine zpc_bi p_even (fun s x e => ?_)
  cases e
  refine zpc_bu p_put (fun s e => zpc_ck ?_)
  subst e
  rw [← e1, ← e2] at c
  have e32 : g3 = g2 := e3.trans e2.symm
  rw [e32]
  refine zpc_jx (K := fun g => fX12_blocks_584 _ y z g) (a := 0) (b := 1) rfl rfl (fun g eg => ?_)
  rw [eg]
  exact c
theorem t_tell (hI : zIoK I) (h : zTT I σ μ) (hF : zF σ μ) (hW : zWzz σ μ) {op y z v k : Int32} (k1 : op &&& 16 = 0 ↔ y < 6) (k2 : op &&& 2 = 0 ↔ ¬ 2 ≤ z) (hv : zr 0 255 v) {L : zSt → Int32 → Option (zSt × Int32)} (hL : ∀ s c, zpc (L s c) (fun r => r = (s, c))) : zp2 (zbu (fX5_tellOfPort σ v k) (fun σ13 => zck (zin 2 29) (if (zgi σ13 36 (2 : Int32).toNatClampNeg) = 0 then L σ13 0 else L σ13 1))) (fX12_blocks_485 μ y z v k) (zBkk I op) := by
  have hf : zr 0 255 (σ.1 36 1) := h.b (by decide)
  have hB : zr 0 255 (σ.1 36 2) := h.b (by decide)
  have ef : μ.1 3 1 = σ.1 36 1 := hF
  have eb : μ.1 3 2 = σ.1 36 2 := h.eq (by decide)
  have cC : zpc (zbu (fX5_tellOfPort σ v k) (fun σ13 => zck (zin 2 29) (if (zgi σ13 36 (2 : Int32).toNatClampNeg) = 0 then L σ13 0 else L σ13 1))) (fun r => r = (zsi σ 36 1 (cTl (σ.1 36 2) v k), if σ.1 36 2 = 0 then 0 else 1)) := by
    refine zpc_bu p_tell (fun s e => zpc_ck ?_)
    subst e
    refine zpc_if (fun q => ?_) (fun q => ?_)
    · intro r er
      rw [hL _ _ r er, if_pos (show σ.1 36 2 = 0 from q)]
    · intro r er
      rw [hL _ _ r er, if_neg (show ¬ σ.1 36 2 = 0 from q)]
  intro r r' er er'
  have ec := cC r er
  subst ec
  refine zBkk.of ?_ _ r' rfl er'
  intro a' b' ea' eb'
  refine p_485 (Q := fun x => zEnq I a' x) (fun b2 eb2 => ?_) b' eb'
  rw [ef, eb, fl_tell hf hB hv] at eb2
  exact t_bk77 hI ((h.onC hI (Or.inl rfl) (zrg_b (Or.inl (by decide)) (r_tell hf hB hv))).onM hI (Or.inl rfl)) rfl hW k1 k2 a' b2 ea' eb2
/-- B is counted down -/
theorem t_bdn (hI : zIoK I) (h : zTT I σ μ) {s t : zSt} (f : s = zsi σ 36 ((2 : Int32).toNatClampNeg) (((zgi σ 36 (2 : Int32).toNatClampNeg) - 1) &&& 255)) (g : t = zsi μ 3 ((2 : Int32).toNatClampNeg) (((zgi μ 3 (2 : Int32).toNatClampNeg) - 1) &&& 255)) : zTT I s t := by
  rw [show zgi μ 3 (2 : Int32).toNatClampNeg = zgi σ 36 (2 : Int32).toNatClampNeg from h.eq (j := 2) (by decide)] at g
  subst f
  subst g
  exact h.upd hI [2] (zQ.wi zQ.rf rfl) (zQ.wi zQ.rf rfl) rfl (zAl1 ⟨rfl, zrg_b (Or.inl (by decide)) (z_r8 _)⟩)
theorem t_take (hI : zIoK I) (hPo : zPorts I) (h : zTT I σ μ) (hF : zF σ μ) {op y d : Int32} (k1 : op &&& 16 = 0 ↔ y < 6) (k2 : op &&& 2 = 0 ↔ ¬ 2 ≤ (2 : Int32)) : zp2 (zbi (fX5_takeOne σ d) (fun σ3 v4 => fX5_block_77 σ3 op v4)) (fX12_blocks_11 μ y 2 d) (zEnq I) := by
  refine zp2_bilp (P := zBkk I op) ?_ (fun s v b q a b' ea eb => by cases eb; exact q a ea)
  unfold fX5_takeOne fX12_blocks_11
  refine zp2_ifr (fun _ => zp2_ifr (fun _ => ?_) (fun q => absurd rfl q)) (fun q => absurd (by decide) q)
  refine zp2_sm (t_pair2 h) (fun a ra => zp2_ckl (zp2_bvl (fun s1 f1 => zp2_ckr (zp2_bvr (fun t1 g1 => ?_)))))
  have zz := zEnq.wz hI h hF (v := (a + d) &&& 65535) rfl (z_r16 _) (b := 0)
  have h1 : zTT I s1 t1 := by rw [f1, g1]; exact zz.1
  have F1 : zF s1 t1 := by rw [f1, g1]; exact zz.2.1
  have W1 : zWzz s1 t1 := by rw [f1, g1]; exact zz.2.2.1
  refine zp2_ckl (zp2_ckr ?_)
  rw [show zgi t1 3 (3 : Int32).toNatClampNeg = zgi s1 36 (3 : Int32).toNatClampNeg from h1.eq (j := 3) (by decide)]
  refine zp2_bii (hPo.2 _ _ _ h1 (h1.b (j := 3) (by decide))) (fun s2 v t2 v' q => ?_)
  obtain ⟨h2, e2, rv, p2⟩ := q
  have e2 : v' = v := e2
  subst e2
  have F2 := p2.f F1
  have W2 := p2.w W1
  refine zp2_ckl (zp2_ckl (zp2_bvl (fun s3 f3 => zp2_ckr (zp2_ckr (zp2_bvr (fun t3 g3 => ?_))))))
  have h3 := t_bdn hI h2 f3 g3
  have F3 : zF s3 t3 := F2.of (by rw [f3]; rfl) (by rw [g3]; rfl)
  have W3 : zWzz s3 t3 := W2.of (by rw [f3]; rfl) (by rw [g3]; rfl)
  refine zp2_sm (t_pair6 h3) (fun x rx => zp2_wr h3.1 rfl (z_m255 rv) rv (fun s4 t4 hm q1 q2 => ?_))
  have h4 := h3.mem hI hm q1 q2
  have F4 : zF s4 t4 := F3.of (q1.1 36 1 rfl) (q2.1 3 1 rfl)
  have W4 : zWzz s4 t4 := W3.of (q1.1 36 20 rfl) (q2.1 3 20 rfl)
  refine t_cnt6 hI h4 F4 W4 (g := fun v => v + d) (fun s5 t5 h5 F5 W5 _ => zp2_ckl (zp2_ckr (zp2_bvr (fun k ek => ?_))))
  rw [show zgi t5 3 (3 : Int32).toNatClampNeg = zgi s5 36 (3 : Int32).toNatClampNeg from h5.eq (j := 3) (by decide)] at ek
  rw [← ek]
  exact t_tell hI h5 F5 W5 k1 k2 rv (L := fX5_takeOne_110) (fun s c => zpc_ck (zpc_some rfl))
theorem t_give (hI : zIoK I) (hPo : zPorts I) (h : zTT I σ μ) (hF : zF σ μ) {op y d : Int32} (k1 : op &&& 16 = 0 ↔ y < 6) (k2 : op &&& 2 = 0 ↔ ¬ 2 ≤ (3 : Int32)) : zp2 (zbi (fX5_giveOne σ d) (fun σ3 v4 => fX5_block_77 σ3 op v4)) (fX12_blocks_11 μ y 3 d) (zEnq I) := by
  refine zp2_bilp (P := zBkk I op) ?_ (fun s v b q a b' ea eb => by cases eb; exact q a ea)
  unfold fX5_giveOne fX12_blocks_11
  refine zp2_ifr (fun _ => zp2_ifr (fun q => absurd q (by decide)) (fun _ => ?_)) (fun q => absurd (by decide) q)
  refine zp2_sm (t_pair6 h) (fun a ra => zp2_rd h.1 rfl (fun v rv => ?_))
  refine zp2_ckl (zp2_ckl (zp2_bvl (fun s3 f3 => zp2_ckr (zp2_ckr (zp2_bvr (fun t3 g3 => ?_))))))
  have h3 := t_bdn hI h f3 g3
  have F3 : zF s3 t3 := hF.of (by rw [f3]; rfl) (by rw [g3]; rfl)
  refine zp2_ckl (zp2_ckr ?_)
  rw [show zgi t3 3 (3 : Int32).toNatClampNeg = zgi s3 36 (3 : Int32).toNatClampNeg from h3.eq (j := 3) (by decide)]
  refine zp2_buu (hPo.1 _ _ _ _ h3 (h3.b (j := 3) (by decide)) rv) (fun s4 t4 q => ?_)
  obtain ⟨h4, p4⟩ := q
  have F4 := p4.f F3
  refine zp2_sm (t_pair6 h4) (fun x rx => zp2_buu (t_pairTo6 hI h4 rfl) (fun s5 t5 q => ?_))
  obtain ⟨h5, qc, qm⟩ := q
  have F5 : zF s5 t5 := F4.of (qc.1 36 1 rfl) (qm.1 3 1 rfl)
  refine zp2_sm (t_pair2 h5) (fun x2 rx2 => zp2_ckl (zp2_bvl (fun s6 f6 => zp2_ckr (zp2_bvr (fun t6 g6 => ?_)))))
  have zz := zEnq.wz hI h5 F5 (v := (x2 + d) &&& 65535) rfl (z_r16 _) (b := 0)
  have h6 : zTT I s6 t6 := by rw [f6, g6]; exact zz.1
  have F6 : zF s6 t6 := by rw [f6, g6]; exact zz.2.1
  have W6 : zWzz s6 t6 := by rw [f6, g6]; exact zz.2.2.1
  refine zp2_ckl (zp2_ckr (zp2_bvr (fun k ek => ?_)))
  rw [show zgi t6 3 (7 : Int32).toNatClampNeg = zgi s6 36 (7 : Int32).toNatClampNeg from h6.eq (j := 7) (by decide)] at ek
  rw [← ek]
  exact t_tell hI h6 F6 W6 k1 k2 rv (L := fX5_giveOne_105) (fun s c => zpc_ck (zpc_some rfl))
theorem t_block (hI : zIoK I) (hPo : zPorts I) (h : zTT I σ μ) (hF : zF σ μ) (hW : zWzz σ μ) {op : Int32} (ho : zr 0 255 op) (hb : op &&& 228 = 160) : zp2 (fX5_block σ op) (fX12_more μ op) (zEnq I) := by
  have hz : zr 0 7 (op &&& 7) := z_r7 _
  have b2 := (z_blk ho).mpr hb
  have v : (op &&& 3 = op &&& 7 ∧ ((op &&& 8 = 0 ∧ zrem ((op >>> ((3 : Int32) &&& 31)) &&& 7) 2 = 0) ∨ (op &&& 8 = 8 ∧ zrem ((op >>> ((3 : Int32) &&& 31)) &&& 7) 2 = 1)) ∧ (op &&& 16 = 0 ↔ (op >>> ((3 : Int32) &&& 31)) &&& 7 < 6) ∧ (op &&& 2 = 0 ↔ ¬ 2 ≤ op &&& 7) ∧ (op &&& 7).toInt ≤ 3) := by
    obtain ⟨i, e⟩ := z_byteF ho
    subst e
    exact v_bk2 i hb
  obtain ⟨v1, par, k1, k2, z3⟩ := v
  have eM : fX12_more μ op = zbi (fX12_blocks μ ((op >>> ((3 : Int32) &&& 31)) &&& 7) (op &&& 7)) (fun σ44 v45 => some (σ44, v45)) := by
    unfold fX12_more
    show (if op >>> ((6 : Int32) &&& 31) = 2 then (if (op >>> ((3 : Int32) &&& 31)) &&& 7 ≤ 3 then fX12_more_42 μ (op >>> ((6 : Int32) &&& 31)) ((op >>> ((3 : Int32) &&& 31)) &&& 7) (op &&& 7) else if 4 ≤ op &&& 7 then fX12_more_42 μ (op >>> ((6 : Int32) &&& 31)) ((op >>> ((3 : Int32) &&& 31)) &&& 7) (op &&& 7) else zbi (fX12_blocks μ ((op >>> ((3 : Int32) &&& 31)) &&& 7) (op &&& 7)) (fun σ44 v45 => some (σ44, v45))) else fX12_more_42 μ (op >>> ((6 : Int32) &&& 31)) ((op >>> ((3 : Int32) &&& 31)) &&& 7) (op &&& 7)) = _
    rw [if_pos b2.1, if_neg b2.2.1, if_neg b2.2.2]
  rw [eM]
  have main : ∀ d : Int32, zp2 (fX5_block_12 σ op d) (fX12_blocks_11 μ ((op >>> ((3 : Int32) &&& 31)) &&& 7) (op &&& 7) d) (zEnq I) := fun d => by
    unfold fX5_block_12
    rw [v1]
    generalize hzz : op &&& 7 = z at *
    have rz : zr 0 3 z := ⟨hz.1, z3⟩
    rcases zr_hd (c := 0) rz rfl with e | rz
    · subst e
      exact zp2_ifl (fun _ => t_copy hI h hF hW k1 k2) (fun q => absurd rfl q)
    rcases zr_hd (c := 1) rz rfl with e | rz
    · subst e
      exact zp2_ifl (fun q => absurd q (by decide)) (fun _ => zp2_ifl (fun _ => t_cmp hI h hF hW k1 k2) (fun q => absurd rfl q))
    rcases zr_hd (c := 2) rz rfl with e | rz
    · subst e
      exact zp2_ifl (fun q => absurd q (by decide)) (fun _ => zp2_ifl (fun q => absurd q (by decide)) (fun _ => zp2_ifl (fun _ => t_take hI hPo h hF k1 k2) (fun q => absurd rfl q)))
    rcases zr_hd (c := 3) rz rfl with e | rz
    · subst e
      exact zp2_ifl (fun q => absurd q (by decide)) (fun _ => zp2_ifl (fun q => absurd q (by decide)) (fun _ => zp2_ifl (fun q => absurd q (by decide)) (fun _ => t_give hI hPo h hF k1 k2)))
    exact zr_no9 rz (by decide)
  refine zp2_birp (P := zEnq I) ?_ (fun a t w q => zp2_some q)
  unfold fX5_block fX12_blocks
  refine zp2_ckr ?_
  rcases par with ⟨e1, e2⟩ | ⟨e1, e2⟩
  · rw [e1, e2]
    exact zp2_ifl (fun _ => zp2_ifr (fun _ => main 1) (fun q => absurd rfl q)) (fun q => absurd rfl q)
  · rw [e1, e2]
    exact zp2_ifl (fun q => absurd q (by decide)) (fun _ => zp2_ifr (fun q => absurd q (by decide)) (fun _ => main (-1)))
end ZBP
end ZJN0
section ZJN1
/-! AN INSTRUCTION -/
theorem zsi_cr {ν : zSt} {k l i j : Nat} {v w : Int32} (h : ¬ k = l) : zsi (zsi ν k i v) l j w = zsi (zsi ν l j w) k i v := by
  refine Prod.ext (funext fun a => funext fun b => ?_) rfl
  rw [zsi_at, zsi_at, zsi_at, zsi_at]
  by_cases p : a = l ∧ b = j
  · rw [if_pos p, if_neg (fun q => h (q.1.symm.trans p.1)), if_pos p]
  · rw [if_neg p]
    by_cases q : a = k ∧ b = i
    · rw [if_pos q, if_pos q]
    · rw [if_neg q, if_neg q, if_neg p]
theorem v_opdec : ∀ i : Fin 256, (0 ≤ (Int32.ofNat i.val >>> ((6 : Int32) &&& 31)).toInt ∧ (Int32.ofNat i.val >>> ((6 : Int32) &&& 31)).toInt ≤ 3) ∧ (Int32.ofNat i.val >>> ((6 : Int32) &&& 31) = 3 → ((¬ Int32.ofNat i.val = 203 → Int32.ofNat i.val &&& 7 = 3 → ¬ (Int32.ofNat i.val >>> ((3 : Int32) &&& 31)) &&& 7 = 1) ∧ (¬ Int32.ofNat i.val = 221 → ¬ Int32.ofNat i.val = 237 → ¬ Int32.ofNat i.val = 253 → Int32.ofNat i.val &&& 7 = 5 → ((Int32.ofNat i.val >>> ((3 : Int32) &&& 31)) &&& 7 = 0 ∨ (Int32.ofNat i.val >>> ((3 : Int32) &&& 31)) &&& 7 = 1 ∨ (Int32.ofNat i.val >>> ((3 : Int32) &&& 31)) &&& 7 = 2 ∨ (Int32.ofNat i.val >>> ((3 : Int32) &&& 31)) &&& 7 = 4 ∨ (Int32.ofNat i.val >>> ((3 : Int32) &&& 31)) &&& 7 = 6)))) := by decide +kernel
theorem z_dec {op : Int32} (h : zr 0 255 op) : zr 0 3 (op >>> ((6 : Int32) &&& 31)) ∧ (op >>> ((6 : Int32) &&& 31) = 3 → ((¬ op = 203 → op &&& 7 = 3 → ¬ (op >>> ((3 : Int32) &&& 31)) &&& 7 = 1) ∧ (¬ op = 221 → ¬ op = 237 → ¬ op = 253 → op &&& 7 = 5 → ((op >>> ((3 : Int32) &&& 31)) &&& 7 = 0 ∨ (op >>> ((3 : Int32) &&& 31)) &&& 7 = 1 ∨ (op >>> ((3 : Int32) &&& 31)) &&& 7 = 2 ∨ (op >>> ((3 : Int32) &&& 31)) &&& 7 = 4 ∨ (op >>> ((3 : Int32) &&& 31)) &&& 7 = 6)))) := by
  obtain ⟨i, e⟩ := z_byteF h
  subst e
  exact v_opdec i
/-- both ends, with beats added on both sides -/
noncomputable def zEn2 (I : zSt → zSt → Prop) (c : Int32) (r : zSt × Int32) (b : zSt × Int32) : Prop := zEnq I r (b.1, b.2 + c)
section ZIN
variable {I : zSt → zSt → Prop} {σ μ : zSt}
/-- the four quarters -/
theorem t_quart (hI : zIoK I) (hPo : zPorts I) (h : zTT I σ μ) (hF : zF σ μ) (hW : zWzz σ μ) (hp : zPlc σ μ) (h28 : σ.1 36 28 = 0) {op x2 : Int32} (ho : zr 0 255 op) (n1 : ¬ op = 203) (n2 : ¬ op = 237) (n3 : ¬ op = 221) (n4 : ¬ op = 253) : zp2 (fX5_carryOn_141 σ op x2) (fX12_plain μ op) (zEn2 I x2) := by
  obtain ⟨rx, d⟩ := z_dec ho
  unfold fX5_carryOn_141 fX5_carryOn_275
  refine zp2_ifl (fun q => absurd q n1) (fun _ => zp2_ifl (fun q => absurd q n2) (fun _ => ?_))
  have fin : ∀ (s : zSt) (v : Int32) (b : zSt × Int32), zEnq I (s, v) b → zp2 (some (s, x2 + v)) (some b) (zEn2 I x2) := fun s v b q => zp2_some (by
    obtain ⟨q1, q2, q3, q4⟩ := q
    refine ⟨q1, q2, q3, ?_⟩
    show b.2 + x2 = x2 + v
    have q4 : b.2 = v := q4
    rw [q4, Int32.add_comm])
  by_cases x0 : op >>> ((6 : Int32) &&& 31) = 0
  · exact zp2_ifl (fun _ => zp2_bilp (t_first hI h hF hW hp x0) fin) (fun q => absurd x0 q)
  by_cases x1 : op >>> ((6 : Int32) &&& 31) = 1
  · exact zp2_ifl (fun q => absurd q x0) (fun _ => zp2_ifl (fun _ => zp2_bilp (t_move hI h hF hW hp x1) fin) (fun q => absurd x1 q))
  by_cases x2' : op >>> ((6 : Int32) &&& 31) = 2
  · exact zp2_ifl (fun q => absurd q x0) (fun _ => zp2_ifl (fun q => absurd q x1) (fun _ => zp2_ifl (fun _ => zp2_bilp (t_dor hI h hF hW hp x2') fin) (fun q => absurd x2' q)))
  have x3 : op >>> ((6 : Int32) &&& 31) = 3 := by
    rcases zr_hd (c := 0) rx rfl with e | rx
    · exact absurd e x0
    rcases zr_hd (c := 1) rx rfl with e | rx
    · exact absurd e x1
    rcases zr_hd (c := 2) rx rfl with e | rx
    · exact absurd e x2'
    rcases zr_hd (c := 3) rx rfl with e | rx
    · exact e
    exact zr_no9 rx (by decide)
  obtain ⟨d1, d2⟩ := d x3
  refine zp2_ifl (fun q => absurd q x0) (fun _ => zp2_ifl (fun q => absurd q x1) (fun _ => zp2_ifl (fun q => absurd q x2') (fun _ => ?_)))
  by_cases z3 : op &&& 7 = 3
  · exact zp2_ifl (fun _ => zp2_bilp (t_lx hI hPo h hF hW h28 x3 z3 (d1 n1 z3)) fin) (fun q => absurd z3 q)
  · exact zp2_ifl (fun q => absurd q z3) (fun _ => zp2_bilp (t_last hI h hF hW x3 z3 (d2 n3 n2 n4)) fin)
/-- the four quarters -/
theorem t_quart_r1 (hI : zIoK I) (hPo : zPorts I) (h : zTT I σ μ) (hF : zF σ μ) (hW : zWzz σ μ) (hp : zPlc σ μ) (h28 : σ.1 36 28 = 0) {op x2 : Int32} (ho : zr 0 255 op) (n1 : ¬ op = 203) (n2 : ¬ op = 237) (n3 : ¬ op = 221) (n4 : ¬ op = 253) : zp2 (fX5_carryOn_141 σ op x2) (fX12_plain_r1 μ op) (zEn2 I x2) := by
  obtain ⟨rx, d⟩ := z_dec ho
  unfold fX5_carryOn_141 fX5_carryOn_275
  refine zp2_ifl (fun q => absurd q n1) (fun _ => zp2_ifl (fun q => absurd q n2) (fun _ => ?_))
  have fin : ∀ (s : zSt) (v : Int32) (b : zSt × Int32), zEnq I (s, v) b → zp2 (some (s, x2 + v)) (some b) (zEn2 I x2) := fun s v b q => zp2_some (by
    obtain ⟨q1, q2, q3, q4⟩ := q
    refine ⟨q1, q2, q3, ?_⟩
    show b.2 + x2 = x2 + v
    have q4 : b.2 = v := q4
    rw [q4, Int32.add_comm])
  by_cases x0 : op >>> ((6 : Int32) &&& 31) = 0
  · exact zp2_ifl (fun _ => zp2_bilp (t_first_r1 hI h hF hW hp x0) fin) (fun q => absurd x0 q)
  by_cases x1 : op >>> ((6 : Int32) &&& 31) = 1
  · exact zp2_ifl (fun q => absurd q x0) (fun _ => zp2_ifl (fun _ => zp2_bilp (t_move_r1 hI h hF hW hp x1) fin) (fun q => absurd x1 q))
  by_cases x2' : op >>> ((6 : Int32) &&& 31) = 2
  · exact zp2_ifl (fun q => absurd q x0) (fun _ => zp2_ifl (fun q => absurd q x1) (fun _ => zp2_ifl (fun _ => zp2_bilp (t_dor_r1 hI h hF hW hp x2') fin) (fun q => absurd x2' q)))
  have x3 : op >>> ((6 : Int32) &&& 31) = 3 := by
    rcases zr_hd (c := 0) rx rfl with e | rx
    · exact absurd e x0
    rcases zr_hd (c := 1) rx rfl with e | rx
    · exact absurd e x1
    rcases zr_hd (c := 2) rx rfl with e | rx
    · exact absurd e x2'
    rcases zr_hd (c := 3) rx rfl with e | rx
    · exact e
    exact zr_no9 rx (by decide)
  obtain ⟨d1, d2⟩ := d x3
  refine zp2_ifl (fun q => absurd q x0) (fun _ => zp2_ifl (fun q => absurd q x1) (fun _ => zp2_ifl (fun q => absurd q x2') (fun _ => ?_)))
  by_cases z3 : op &&& 7 = 3
  · exact zp2_ifl (fun _ => zp2_bilp (t_lx_r1 hI hPo h hF hW h28 x3 z3 (d1 n1 z3)) fin) (fun q => absurd z3 q)
  · exact zp2_ifl (fun q => absurd q z3) (fun _ => zp2_bilp (t_last_r1 hI h hF hW x3 z3 (d2 n3 n2 n4)) fin)
/-- CB and ED -/
theorem t_cb (hI : zIoK I) (h : zTT I σ μ) (hF : zF σ μ) (hW : zWzz σ μ) (hp : zPlc σ μ) (h32 : μ.1 0 32 = 0) {x2 : Int32} : zp2 (fX5_carryOn_141 σ 203 x2) (fX12_plain μ 203) (zEnq I) := by
  unfold fX5_carryOn_141 fX12_plain fX12_plain_160
  refine zp2_ifl (fun _ => ?_) (fun q => absurd rfl q)
  refine zp2_bvr (fun y ey => zp2_bvr (fun z ez => ?_))
  have ey : y = 1 := ey.trans (by decide)
  have ez : z = 3 := ez.trans (by decide)
  subst ey
  subst ez
  refine zp2_ifr (fun q => absurd q (by decide)) (fun _ => zp2_ifr (fun q => absurd q (by decide)) (fun _ => zp2_ifr (fun q => absurd q (by decide)) (fun _ => zp2_ifr (fun q => absurd q (by decide)) (fun _ => ?_))))
  rw [e_th2 (by decide) (by decide)]
  refine zp2_birp (P := zEnq I) ?_ (fun a t w q => zp2_some q)
  unfold fX12_three_88 fX12_turns
  refine zp2_ifr (fun q => absurd q (by decide)) (fun _ => zp2_ifr (fun q => absurd q (by decide)) (fun _ => zp2_ifr (fun q => absurd q (by decide)) (fun _ => zp2_ifr (fun _ => ?_) (fun q => absurd rfl q))))
  refine zp2_birp (P := zEnq I) ?_ (fun a t w q => zp2_some q)
  refine zp2_bii (t_op hI h) (fun s v t v' q => ?_)
  obtain ⟨h1, e1, rv, qc, qm⟩ := q
  have e1 : v' = v := e1
  subst e1
  exact zp2_bii (t_turns hI h1 (hF.of (qc.1 36 1 rfl) (qm.1 3 1 rfl)) (hW.of (qc.1 36 20 rfl) (qm.1 3 20 rfl)) (hp.of (qc.1 7 5 rfl) (qc.1 36 6 rfl) (qc.1 36 7 rfl) (qm.1 3 20 rfl) (qm.1 0 32 rfl)) ((qm.1 0 32 rfl).trans h32) (z_dec rv).1) (fun s v t w q => zp2_some q)
theorem t_edp (hI : zIoK I) (hPo : zPorts I) (h : zTT I σ μ) (hF : zF σ μ) (hW : zWzz σ μ) (hp : zPlc σ μ) {x2 : Int32} : zp2 (fX5_carryOn_141 σ 237 x2) (fX12_plain μ 237) (zEnq I) := by
  unfold fX5_carryOn_141 fX12_plain fX12_plain_160 fX5_carryOn_193
  refine zp2_ifl (fun q => absurd q (by decide)) (fun _ => zp2_ifl (fun _ => ?_) (fun q => absurd rfl q))
  refine zp2_bvr (fun y ey => zp2_bvr (fun z ez => ?_))
  have ey : y = 5 := ey.trans (by decide)
  have ez : z = 5 := ez.trans (by decide)
  subst ey
  subst ez
  refine zp2_ifr (fun q => absurd q (by decide)) (fun _ => zp2_ifr (fun q => absurd q (by decide)) (fun _ => zp2_ifr (fun q => absurd q (by decide)) (fun _ => zp2_ifr (fun _ => ?_) (fun q => absurd (by decide) q))))
  refine zp2_birp (P := zEnq I) ?_ (fun a t w q => zp2_some q)
  unfold fX12_more3 fX12_more3_200
  refine zp2_bvr (fun p ep => zp2_ifr (fun q => absurd q (by decide)) (fun _ => zp2_ifr (fun q => absurd q (by decide)) (fun _ => zp2_ifr (fun q => absurd q (by decide)) (fun _ => zp2_ckr (zp2_ifr (fun q => absurd q (by decide)) (fun _ => ?_))))))
  have ep : p = 2 := ep.trans (by decide)
  subst ep
  refine zp2_ifr (fun q => absurd q (by decide)) (fun _ => zp2_ifr (fun _ => ?_) (fun q => absurd rfl q))
  refine zp2_bii (t_op hI h) (fun s v t v' q => ?_)
  obtain ⟨h1, e1, rv, qc, qm⟩ := q
  have e1 : v' = v := e1
  subst e1
  have F1 := hF.of (qc.1 36 1 rfl) (qm.1 3 1 rfl)
  have W1 := hW.of (qc.1 36 20 rfl) (qm.1 3 20 rfl)
  by_cases b : v' &&& 228 = 160
  · exact zp2_ifl (fun _ => zp2_bii (t_block hI hPo h1 F1 W1 rv b) (fun s v t w q => zp2_some q)) (fun q => absurd b q)
  · exact zp2_ifl (fun q => absurd q b) (fun _ => zp2_bii (t_ed hI hPo h1 F1 W1 (hp.of (qc.1 7 5 rfl) (qc.1 36 6 rfl) (qc.1 36 7 rfl) (qm.1 3 20 rfl) (qm.1 0 32 rfl)) rv b) (fun s v t w q => zp2_some q))
/-! behind a prefix: j is already set -/
theorem zTT.j6 (hI : zIoK I) (h : zTT I σ μ) {w : Int32} (hw : w = 16 ∨ w = 17) : zTT I (zsi σ 7 4 w) (zsi μ 0 31 w) := by
  refine ⟨h.1.keep (zQ.wi zQ.rf rfl) (zQ.wi zQ.rf rfl), ⟨fun j a b c => h.2.1.1 j a b c, h.2.1.2.1, h.2.1.2.2.1, h.2.1.2.2.2⟩, ?_, hI _ _ _ _ h.2.2.2 (zQ.wi zQ.rf rfl) (zQ.wi zQ.rf rfl)⟩
  rcases hw with e | e
  · subst e; exact Or.inr (Or.inl ⟨rfl, rfl⟩)
  · subst e; exact Or.inr (Or.inr ⟨rfl, rfl⟩)
theorem t_nextJ (hI : zIoK I) (h : zTT I σ μ) {w : Int32} : zp2 (fX5_fetch (zsi σ 7 4 w)) (fX12_next μ ) (fun r r' => ∃ s, r.1 = zsi s 7 4 w ∧ zTT I s r'.1 ∧ r'.2 = r.2 ∧ zr 0 255 r.2 ∧ zQ [] [(36, 19, 19)] [] [] σ s ∧ zQ [] [(3, 19, 19)] [] [] μ r'.1) := by
  have hm : zM2 (zsi σ 7 4 w) μ := h.1.keep (zQ.wi zQ.rf rfl) zQ.rf
  unfold fX5_fetch fX12_next
  have e : zgi μ 3 (19 : Int32).toNatClampNeg = zgi (zsi σ 7 4 w) 36 (19 : Int32).toNatClampNeg := h.eq (j := 19) (by decide)
  refine zp2_ckl (zp2_ckr (zp2_rd hm (by rw [e]) (fun v hv => ?_)))
  refine zp2_ckl (zp2_ckl (zp2_bvl (fun s es => zp2_ckr (zp2_ckr (zp2_bvr (fun t et => zp2_some ?_))))))
  refine ⟨zsi σ 36 19 ((σ.1 36 19 + 1) &&& 65535), ?_, ?_, rfl, hv, zQ.wi zQ.rf rfl, ?_⟩
  · rw [es]
    exact zsi_cr (by decide)
  · subst et
    refine h.upd hI [19] (zQ.wi zQ.rf rfl) (zQ.wi zQ.rf rfl) rfl (zAl1 ⟨?_, zrg_w (by decide) (by decide) (z_r16 _)⟩)
    show (μ.1 3 19 + 1) &&& 65535 = (σ.1 36 19 + 1) &&& 65535
    rw [h.eq (by decide)]
  · subst et; exact zQ.wi zQ.rf rfl
theorem zp2_rdE {α β : Type} {Q : α → β → Prop} (h : zM2 σ μ) {x y : Int32} (e : y &&& 65535 = x &&& 65535) {f : zSt → Int32 → Option α} {g : zSt → Int32 → Option β} (k : ∀ v, zr 0 255 v → fX12_read μ y = some (μ, v) → zp2 (f σ v) (g μ v) Q) : zp2 (zbi (fX2_read σ x) f) (zbi (fX12_read μ y) g) Q := by
  intro a b ea eb
  have d := h.rd e
  cases qa : fX2_read σ x with
  | none => rw [qa] at ea; cases ea
  | some r =>
    cases qb : fX12_read μ y with
    | none => rw [qb] at eb; cases eb
    | some r' =>
      obtain ⟨s, v⟩ := r
      obtain ⟨t, v'⟩ := r'
      obtain ⟨q1, q2, q3, q4⟩ := d _ _ qa qb
      have q1 : s = σ := q1
      have q2 : t = μ := q2
      have q3 : v' = v := q3
      subst q1
      subst q2
      subst q3
      rw [qa] at ea
      rw [qb] at eb
      exact k v' q4 qb a b ea eb
theorem t_opJ (hI : zIoK I) (h : zTT I σ μ) {w : Int32} : zp2 (fX5_fetchOp (zsi σ 7 4 w)) (fX12_fetch μ ) (fun r r' => ∃ s, r.1 = zsi s 7 4 w ∧ zTT I s r'.1 ∧ r'.2 = r.2 ∧ zr 0 255 r.2 ∧ zQ [] [(36, 19, 19), (36, 22, 22)] [] [] σ s ∧ zQ [] [(3, 19, 19), (3, 22, 22)] [] [] μ r'.1 ∧ fX12_read μ (zgi μ 3 (19 : Int32).toNatClampNeg) = some (μ, r'.2)) := by
  unfold fX5_fetchOp fX12_fetch
  have c22 : zpc (fX5_growR (zsi σ 7 4 w)) (fun r => r = zsi (zsi σ 36 22 ((σ.1 36 22 &&& 128) ||| ((σ.1 36 22 + 1) &&& 127))) 7 4 w) := by
    unfold fX5_growR
    exact zpc_ck (zpc_ck (zpc_ck (zpc_bv (fun s es => zpc_some (by rw [es]; exact zsi_cr (by decide))))))
  have m22 : ∀ t : zSt, zpc (fX12_grows t) (fun r => r = zsi t 3 22 ((t.1 3 22 &&& 128) ||| ((t.1 3 22 + 1) &&& 127))) := fun t => by
    unfold fX12_grows
    exact zpc_ck (zpc_ck (zpc_ck (zpc_bv (fun s es => zpc_some es))))
  have rr : ∀ x : Int32, zr 0 255 ((x &&& 128) ||| ((x + 1) &&& 127)) := fun x => zr_or (lo := 0) (hi := 255) 8 (zr_andr (lo := 0) (hi := 128) (zr_c (lo := 128) (hi := 128) (by decide)) (by decide)) (zr_andr (lo := 0) (hi := 127) (zr_c (lo := 127) (hi := 127) (by decide)) (by decide)) (by decide)
  have e22 : μ.1 3 22 = σ.1 36 22 := h.eq (by decide)
  have h0 : zTT I (zsi σ 36 22 ((σ.1 36 22 &&& 128) ||| ((σ.1 36 22 + 1) &&& 127))) (zsi μ 3 22 ((σ.1 36 22 &&& 128) ||| ((σ.1 36 22 + 1) &&& 127))) := h.upd hI [22] (zQ.wi zQ.rf rfl) (zQ.wi zQ.rf rfl) rfl (zAl1 ⟨rfl, zrg_b (Or.inr (Or.inr rfl)) (rr _)⟩)
  refine zp2_bul c22 (fun s0 e0 => ?_)
  have hm : zM2 s0 μ := by rw [e0]; exact h.1.keep (zQ.wi (zQ.wi zQ.rf rfl) rfl) zQ.rf
  have e19 : s0.1 36 19 = σ.1 36 19 := by rw [e0]; rfl
  have m19 : μ.1 3 19 = σ.1 36 19 := h.eq (by decide)
  have nx : zp2 (fX5_fetch s0) (fX12_next μ ) (fun r r' => r'.2 = r.2 ∧ zr 0 255 r.2 ∧ r.1 = zsi s0 36 19 ((σ.1 36 19 + 1) &&& 65535) ∧ r'.1 = zsi μ 3 19 ((σ.1 36 19 + 1) &&& 65535) ∧ fX12_read μ (zgi μ 3 (19 : Int32).toNatClampNeg) = some (μ, r'.2)) := by
    unfold fX5_fetch fX12_next
    refine zp2_ckl (zp2_ckr (zp2_rdE hm (by rw [show zgi μ 3 (19 : Int32).toNatClampNeg = σ.1 36 19 from m19, show zgi s0 36 (19 : Int32).toNatClampNeg = σ.1 36 19 from e19]) (fun v hv ee => zp2_ckl (zp2_ckl (zp2_bvl (fun s es => zp2_ckr (zp2_ckr (zp2_bvr (fun t et => zp2_some ⟨rfl, hv, ?_, ?_, ee⟩)))))))))
    · rw [es]
      show zsi s0 36 19 ((s0.1 36 19 + 1) &&& 65535) = _
      rw [e19]
    · rw [et]
      show zsi μ 3 19 ((μ.1 3 19 + 1) &&& 65535) = _
      rw [m19]
  refine zp2_bii nx (fun s v t v' q => ?_)
  obtain ⟨q1, q2, q3, q4, q5⟩ := q
  have q3 : s = zsi s0 36 19 ((σ.1 36 19 + 1) &&& 65535) := q3
  have q4 : t = zsi μ 3 19 ((σ.1 36 19 + 1) &&& 65535) := q4
  refine zp2_bur (m22 t) (fun t2 e2 => zp2_some ?_)
  have e2' : t2 = zsi (zsi μ 3 19 ((σ.1 36 19 + 1) &&& 65535)) 3 22 ((σ.1 36 22 &&& 128) ||| ((σ.1 36 22 + 1) &&& 127)) := by
    rw [e2, q4]
    show zsi (zsi μ 3 19 ((σ.1 36 19 + 1) &&& 65535)) 3 22 ((μ.1 3 22 &&& 128) ||| ((μ.1 3 22 + 1) &&& 127)) = _
    rw [e22]
  refine ⟨zsi (zsi σ 36 22 ((σ.1 36 22 &&& 128) ||| ((σ.1 36 22 + 1) &&& 127))) 36 19 ((σ.1 36 19 + 1) &&& 65535), ?_, ?_, q1, q2, zQ.wi (zQ.wi zQ.rf rfl) rfl, ?_, q5⟩
  · show s = _
    rw [q3, e0]
    exact zsi_cr (by decide)
  · show zTT I _ t2
    rw [e2']
    exact h.upd hI [19, 22] (zQ.wi (zQ.wi zQ.rf rfl) rfl) (zQ.wi (zQ.wi zQ.rf rfl) rfl) rfl (zAl2 ⟨rfl, zrg_w (by decide) (by decide) (z_r16 _)⟩ ⟨rfl, zrg_b (Or.inr (Or.inr rfl)) (rr _)⟩)
  · show zQ _ _ _ _ μ t2
    rw [e2']
    exact zQ.wi (zQ.wi zQ.rf rfl) rfl
end ZIN
end ZJN1
section ZJN2
/-! PREFIXES -/
noncomputable def mpl (op : Int32) : Int32 := if op >>> ((6 : Int32) &&& 31) = 0 then (if (if op &&& 56 = 48 then (1 : Int32) else 0) = 0 then 0 else if op &&& 7 < 4 then 0 else if 6 < op &&& 7 then 0 else 1) else if op >>> ((6 : Int32) &&& 31) = 1 then (if (if op &&& 56 = 48 then (1 : Int32) else 0) = (if op &&& 7 = 6 then 1 else 0) then 0 else 1) else if op >>> ((6 : Int32) &&& 31) = 2 then (if op &&& 7 = 6 then 1 else 0) else 0
noncomputable def pml6 (x z : Int32) : Int32 := if x = 2 then (if z = 6 then 1 else 0) else 0
noncomputable def pml2 (op x z : Int32) : Int32 := if op = 118 then pml6 x z else 1
noncomputable def pml0 (op x y z : Int32) : Int32 := if x = 1 then (if y = 6 then pml2 op x z else if z = 6 then pml2 op x z else pml6 x z) else pml6 x z
noncomputable def pml (op x y z : Int32) : Int32 := if x = 0 then (if z ≤ 3 then pml0 op x y z else if 7 ≤ z then pml0 op x y z else if y = 6 then 1 else pml0 op x y z) else pml0 op x y z
theorem v_mpl : ∀ i : Fin 256, pml (Int32.ofNat i.val) (Int32.ofNat i.val >>> ((6 : Int32) &&& 31)) ((Int32.ofNat i.val >>> ((3 : Int32) &&& 31)) &&& 7) (Int32.ofNat i.val &&& 7) = mpl (Int32.ofNat i.val) ∧ (mpl (Int32.ofNat i.val) = 0 ∨ mpl (Int32.ofNat i.val) = 1) := by decide +kernel
theorem z_mpl {op : Int32} (h : zr 0 255 op) : pml op (op >>> ((6 : Int32) &&& 31)) ((op >>> ((3 : Int32) &&& 31)) &&& 7) (op &&& 7) = mpl op ∧ (mpl op = 0 ∨ mpl op = 1) := by
  obtain ⟨i, e⟩ := z_byteF h
  subst e
  exact v_mpl i
section ZPX
variable {I : zSt → zSt → Prop} {σ μ : zSt}
theorem p_mpl {op : Int32} : zpc (fX5_meansPlace σ op) (fun r => r = (σ, mpl op)) := by
  unfold fX5_meansPlace mpl
  refine zpc_jx (K := fun v => fX5_meansPlace_14 σ op v) (a := 1) (b := 0) rfl rfl (fun a ea => ?_)
  unfold fX5_meansPlace_14
  refine zpc_jx (K := fun v => fX5_meansPlace_29 σ op a v) (a := 1) (b := 0) rfl rfl (fun b eb => ?_)
  rw [← ea, ← eb]
  unfold fX5_meansPlace_29 fX5_meansPlace_85 fX5_meansPlace_86 fX5_meansPlace_97
  refine zpc_if (fun x => ?_) (fun x => ?_)
  · rw [if_pos x]
    exact zpc_if (fun q => zpc_ck (zpc_some (by rw [if_pos q]))) (fun q => zpc_if (fun r => zpc_ck (zpc_some (by rw [if_neg q, if_pos r]))) (fun r => zpc_if (fun u => zpc_ck (zpc_some (by rw [if_neg q, if_neg r, if_pos u]))) (fun u => zpc_ck (zpc_some (by rw [if_neg q, if_neg r, if_neg u])))))
  · rw [if_neg x]
    refine zpc_if (fun x1 => ?_) (fun x1 => ?_)
    · rw [if_pos x1]
      exact zpc_if (fun q => zpc_ck (zpc_some (by rw [if_pos q]))) (fun q => zpc_ck (zpc_some (by rw [if_neg q])))
    · rw [if_neg x1]
      exact zpc_if (fun q => zpc_ck (zpc_some (by rw [if_pos q]))) (fun q => zpc_ck (zpc_some (by rw [if_neg q])))
theorem e_pml {op w x y z : Int32} : (if x = 0 then if z ≤ 3 then fX12_prefixed_200 μ w op y z x else if 7 ≤ z then fX12_prefixed_200 μ w op y z x else if y = 6 then fX12_prefixed_239 μ w op else fX12_prefixed_200 μ w op y z x else fX12_prefixed_200 μ w op y z x) = fX12_prefixed_244 μ w op (pml op x y z) := by
  have e6 : fX12_prefixed_226 μ w op z x = fX12_prefixed_244 μ w op (pml6 x z) := z_jx (K := fun v => fX12_prefixed_244 μ w op v) (z_jx (a := 1) (b := 0) rfl rfl) (b := 0) rfl
  have e2 : fX12_prefixed_220 μ w op z x = fX12_prefixed_244 μ w op (pml2 op x z) := z_jx (K := fun v => fX12_prefixed_244 μ w op v) e6 (b := 1) rfl
  have e0 : fX12_prefixed_200 μ w op y z x = fX12_prefixed_244 μ w op (pml0 op x y z) := z_jx (K := fun v => fX12_prefixed_244 μ w op v) (z_jx e2 (z_jx e2 e6)) e6
  exact z_jx (K := fun v => fX12_prefixed_244 μ w op v) (z_jx e0 (z_jx e0 (z_jx (a := 1) rfl e0))) e0
theorem zTT.pl (hI : zIoK I) (h : zTT I σ μ) {v u : Int32} : zTT I (zsi σ 7 5 v) (zsi μ 0 32 u) := ⟨h.1.keep (zQ.wi zQ.rf rfl) (zQ.wi zQ.rf rfl), ⟨fun j a b c => h.2.1.1 j a b c, h.2.1.2.1, h.2.1.2.2.1, h.2.1.2.2.2⟩, h.2.2.1.of rfl rfl, hI _ _ _ _ h.2.2.2 (zQ.wi zQ.rf rfl) (zQ.wi zQ.rf rfl)⟩
theorem z_ia {α : Type} {o : Option (zSt × Int32)} {f : zSt → Int32 → Option (zSt × Int32)} {k : zSt → Int32 → Option α} : zbi (zbi o f) k = zbi o (fun s v => zbi (f s v) k) := by
  cases o with
  | none => rfl
  | some r => rfl
/-- the class fetches within; the reference fetches -/
theorem zp2_fx {α β : Type} {c : Bool} {o p : Option (zSt × Int32)} {f : zSt → Int32 → Option (zSt × Int32)} {k : zSt → Int32 → Option α} {g : zSt → Int32 → Option β} {P : zSt × Int32 → zSt × Int32 → Prop} {Q : α → β → Prop} (h : zp2 o p P) (n : ∀ s v t w, P (s, v) (t, w) → zp2 (zbi (f s v) k) (g t w) Q) : zp2 (zbi (zck c (zbi o f)) k) (zbi p g) Q := by
  intro a b ea eb
  cases c with
  | false => cases ea
  | true =>
    have ea : zbi (zbi o f) k = some a := ea
    cases e1 : o with
    | none => rw [e1] at ea; cases ea
    | some r =>
      cases e2 : p with
      | none => rw [e2] at eb; cases eb
      | some r' =>
        rw [e1] at ea
        rw [e2] at eb
        exact n r.1 r.2 r'.1 r'.2 (h r r' e1 e2) a b ea eb
theorem t_px (hI : zIoK I) (hPo : zPorts I) (h : zTT I σ μ) (hF : zF σ μ) (hW : zWzz σ μ) (hp : zPlc σ μ) (h7 : σ.1 7 4 = 6) (h28 : σ.1 36 28 = 0) {op w : Int32} (hw : w = 16 ∨ w = 17) (ho : zr 0 255 op) (n1 : ¬ op = 203) (n2 : ¬ op = 237) (n3 : ¬ op = 221) (n4 : ¬ op = 253) : zp2 (zbi (fX5_takePlace (zsi σ 7 4 w) op) (fun σ25 v26 => fX5_carryOn_141 σ25 op v26)) (fX12_prefixed_244 μ w op (mpl op)) (zEnq I) := by
  have en : ∀ (c : Int32) (r b : zSt × Int32), zEn2 I c r b → zEnq I r (b.1, b.2 + c) := fun c r b q => q
  unfold fX5_takePlace fX12_prefixed_244
  rcases (z_mpl ho).2 with m0 | m1
  · refine zp2_bil (P := fun r => r = (zsi σ 7 4 w, 4)) (zpc_bi p_mpl (fun s v e => ?_)) (fun s v e => ?_)
    · cases e
      exact zpc_if (fun _ => zpc_some rfl) (fun q => absurd m0 q)
    · cases e
      refine zp2_ifr (fun _ => zp2_bvr (fun t1 g1 => ?_)) (fun q => absurd m0 q)
      subst g1
      have hq := t_quart_r1 hI hPo (h.j6 hI hw) (show zF (zsi σ 7 4 w) (zsi μ 0 31 w) from hF) (show zWzz (zsi σ 7 4 w) (zsi μ 0 31 w) from hW) (hp.of (σ1 := zsi σ 7 4 w) (μ1 := zsi μ 0 31 w) rfl rfl rfl rfl rfl) (show (zsi σ 7 4 w).1 36 28 = 0 from h28) (op := op) (x2 := 4) ho n1 n2 n3 n4
      exact zp2_birp hq (fun a t v q => zp2_some (en 4 a (t, v) q))
  · refine zp2_ifr (fun q => absurd (m1.symm.trans q) (by decide)) (fun _ => zp2_ckr ?_)
    rw [z_ia]
    refine zp2_bil p_mpl (fun s v e => ?_)
    cases e
    rw [if_neg (fun q => absurd (m1.symm.trans q) (by decide))]
    have ej : zgi (zsi σ 7 4 w) 7 4 = w := rfl
    have ei : zgi (zsi σ 7 4 w) 36 w.toNatClampNeg = zgi μ 3 w.toNatClampNeg := by
      rcases hw with e | e
      · subst e; exact (h.eq (j := 16) (by decide)).symm
      · subst e; exact (h.eq (j := 17) (by decide)).symm
    rw [ej, ei]
    -- the class fetches, then goes on
    refine zp2_fx (t_nextJ hI h (w := w)) (fun s1 v t v' q => ?_)
    obtain ⟨s', q1, h1, q3, q4, qc, qm⟩ := q
    have q3 : v' = v := q3
    subst q3
    have q4 : zr 0 255 v' := q4
    refine zp2_bir p_signed (fun t1 v1 et => ?_)
    cases et
    refine zp2_ckr (zp2_bvr (fun t2 g2 => zp2_ckr (zp2_bvr (fun t3 g3 => ?_))))
    have ev : v'.toInt8.toInt32 = if 128 ≤ v' then v' - 256 else v' := z_i8s q4
    rw [ev]
    generalize hV : ((zgi μ 3 w.toNatClampNeg) + (if 128 ≤ v' then v' - 256 else v')) &&& 65535 = V at g2
    have rV : zr 0 65535 V := by rw [← hV]; exact z_r16 _
    have zz := (zEnq.wz hI h1 (hF.of (qc.1 36 1 rfl) (qm.1 3 1 rfl)) (v := V) rfl rV (b := 0))
    have q1 : s1 = zsi s' 7 4 w := q1
    have s7 : s'.1 7 4 = 6 := (qc.1 7 4 rfl).trans h7
    have eS : zsi (zsi (zsi s1 36 20 V) 7 5 V) 7 4 6 = zsi (zsi s' 36 20 V) 7 5 V := by
      rw [q1, zsi_cr (k := 7) (l := 36) (by decide), zsi_comm (ν := zsi s' 36 20 V) (k := 7) (i := 4) (j := 5) (by decide), zsi_ow]
      have e4 : zsi (zsi (zsi s' 36 20 V) 7 5 V) 7 4 ((zsi (zsi s' 36 20 V) 7 5 V).1 7 4) = zsi (zsi s' 36 20 V) 7 5 V := zsi_own
      rw [show (zsi (zsi s' 36 20 V) 7 5 V).1 7 4 = 6 from s7] at e4
      exact e4
    have hS : zTT I (zsi (zsi s' 36 20 V) 7 5 V) t3 := by rw [g3, g2]; exact zz.1.pl hI
    have fS : zF (zsi (zsi s' 36 20 V) 7 5 V) t3 := by rw [g3, g2]; exact zz.2.1
    have wS : zWzz (zsi (zsi s' 36 20 V) 7 5 V) t3 := by rw [g3, g2]; rfl
    have pS : zPlc (zsi (zsi s' 36 20 V) 7 5 V) t3 := by
      rw [g3, g2]
      exact Or.inr ⟨show ¬ (1 : Int32) = 0 by decide, rfl⟩
    have c28 : (zsi (zsi s' 36 20 V) 7 5 V).1 36 28 = 0 := (qc.1 36 28 rfl).trans h28
    have hq := fun x2 => t_quart_r1 hI hPo hS fS wS pS c28 (op := op) (x2 := x2) ho n1 n2 n3 n4
    have fin : ∀ c : Int32, zp2 (fX5_carryOn_141 (zsi (zsi (zsi s1 36 20 V) 7 5 V) 7 4 6) op c) (zbi (fX12_plain_r1 t3 op) (fun σ8 v9 => fX12_prefixed_311 σ8 c v9)) (zEnq I) := fun c => by
      rw [eS]
      exact zp2_birp (hq c) (fun a t v q => zp2_some (en c a (t, v) q))
    by_cases o54 : op = 54
    · have e1 : (zck (zin 20 29) (zbv (zsi s1 36 ((20 : Int32).toNatClampNeg) V) (fun σ5 => zck (zin 20 29) (zbv (zsi σ5 7 5 (zgi σ5 36 (20 : Int32).toNatClampNeg)) (fun σ6 => zbv (zsi σ6 7 4 6) (fun σ7 => if op = 54 then fX5_takePlace_64 σ7 9 else fX5_takePlace_64 σ7 12)))))) = some (zsi (zsi (zsi s1 36 20 V) 7 5 V) 7 4 6, 9) := by
        show (if op = 54 then some (zsi (zsi (zsi s1 36 20 V) 7 5 V) 7 4 6, (9 : Int32)) else some (zsi (zsi (zsi s1 36 20 V) 7 5 V) 7 4 6, (12 : Int32))) = _
        rw [if_pos o54]
      rw [e1]
      simp only [if_pos o54]
      exact fin 9
    · have e1 : (zck (zin 20 29) (zbv (zsi s1 36 ((20 : Int32).toNatClampNeg) V) (fun σ5 => zck (zin 20 29) (zbv (zsi σ5 7 5 (zgi σ5 36 (20 : Int32).toNatClampNeg)) (fun σ6 => zbv (zsi σ6 7 4 6) (fun σ7 => if op = 54 then fX5_takePlace_64 σ7 9 else fX5_takePlace_64 σ7 12)))))) = some (zsi (zsi (zsi s1 36 20 V) 7 5 V) 7 4 6, 12) := by
        show (if op = 54 then some (zsi (zsi (zsi s1 36 20 V) 7 5 V) 7 4 6, (9 : Int32)) else some (zsi (zsi (zsi s1 36 20 V) 7 5 V) 7 4 6, (12 : Int32))) = _
        rw [if_neg o54]
      rw [e1]
      simp only [if_neg o54]
      exact fin 12
end ZPX
end ZJN2
section ZJN3
/-! DD CB, FD CB -/
section ZDD
variable {I : zSt → zSt → Prop} {σ μ : zSt}
theorem zp2_burx {α β : Type} {o p : Option zSt} {f : zSt → Option α} {g : zSt → Option β} {P : zSt → zSt → Prop} {Q : α → β → Prop} (h : zp2 o p P) (k : ∀ s t, P s t → zp2 (f s) (g t) Q) : zp2 (zbu o f) (zbu p g) Q := zp2_buu h k
theorem t_r6 (h : zTT I σ μ) (hp : zPlc σ μ) : zp2 (fX2_read σ (zgi σ 7 5)) (fX12_r μ 6) (fun r r' => r.1 = σ ∧ r'.1 = μ ∧ r'.2 = r.2 ∧ zr 0 255 r.2) := by
  unfold fX12_r fX12_r_73
  refine zp2_ifr (fun _ => ?_) (fun q => absurd rfl q)
  refine zp2_bir (p_m h hp) (fun t w et => ?_)
  cases et
  exact zp2_birp (h.1.rd rfl) (fun a t w q => zp2_some q)
/-- bits, behind DD CB -/
theorem t_dbit (hI : zIoK I) (h : zTT I σ μ) (hF : zF σ μ) (hW : zWzz σ μ) (hp : zPlc σ μ) (h32 : ¬ μ.1 0 32 = 0) {op : Int32} (x1 : op >>> ((6 : Int32) &&& 31) = 1) : zp2 (zbi (fX2_read σ (zgi σ 7 5)) (fun σ8 v9 => zck (zin 20 29) (zbu (fX5_askBit σ8 ((op >>> ((3 : Int32) &&& 31)) &&& 7) v9 ((zgi σ8 36 (20 : Int32).toNatClampNeg) >>> ((8 : Int32) &&& 31))) (fun σ14 => some (σ14, (20 : Int32)))))) (fX12_turn μ op) (fun r r' => zEnq I r (r'.1, 20)) := by
  unfold fX12_turn
  refine zp2_bvr (fun y ey => zp2_ifr (fun q => absurd q h32) (fun _ => ?_))
  unfold fX12_turn_23
  refine zp2_sm (t_r6 h hp) (fun v rv => zp2_bvr (fun x ex => ?_))
  have x1' : x = 1 := ex.trans x1
  refine zp2_ifr (fun _ => ?_) (fun q => absurd x1' q)
  refine zp2_bvr (fun w ew => zp2_bur p_by' (fun t2 e2 => ?_))
  subst e2
  have rw1 : zr 0 255 w := by rw [ew]; exact zr_andl (lo := 0) (hi := 255) rv (by decide)
  intro r r' er er'
  have em := p_bitM (μ := μ) (f := gby (μ.1 3 1) w) (z := 6) (v := v) (w := w) r' er'
  have hf : zr 0 255 (σ.1 36 1) := h.b (by decide)
  have hs : zr 0 255 (σ.1 36 20 >>> ((8 : Int32) &&& 31)) := z_hi (h.w (j := 20) (by decide) (by decide))
  have ef : μ.1 3 1 = σ.1 36 1 := hF
  have ew20 : μ.1 3 20 = σ.1 36 20 := hW
  rw [if_pos (rfl : (6 : Int32) = 6), ef, ew20, v_bit hf rw1 hs] at em
  have cC : zpc (zck (zin 20 29) (zbu (fX5_askBit σ ((op >>> ((3 : Int32) &&& 31)) &&& 7) v ((zgi σ 36 (20 : Int32).toNatClampNeg) >>> ((8 : Int32) &&& 31))) (fun σ14 => some (σ14, (20 : Int32))))) (fun r => r = (zsi σ 36 1 (cbit (σ.1 36 1) w (σ.1 36 20 >>> ((8 : Int32) &&& 31))), 20)) := by
    refine zpc_ck (zpc_bu p_bitC (fun s e => zpc_some ?_))
    rw [e, ew, ey]
    rfl
  rw [cC r er, em]
  exact ⟨(h.onC hI (Or.inl rfl) (zrg_b (Or.inl (by decide)) (r_bit hf rw1 hs))).onM hI (Or.inl rfl), rfl, hW, rfl⟩
/-- rotations, behind DD CB: up to the write -/
theorem t_drot (hI : zIoK I) (h : zTT I σ μ) (hF : zF σ μ) (hW : zWzz σ μ) (hp : zPlc σ μ) (h32 : ¬ μ.1 0 32 = 0) {op : Int32} (hx : zr 0 3 (op >>> ((6 : Int32) &&& 31))) (x1 : ¬ op >>> ((6 : Int32) &&& 31) = 1) : zp2 (zbi (fX2_read σ (zgi σ 7 5)) (fun σ8 v9 => zbi (fX5_turned σ8 op v9) (fun σ10 v11 => zbu (fX2_write σ10 (zgi σ10 7 5) v11) (fun σ12 => some (σ12, v11))))) (fX12_turn μ op) (fun r r' => zTT I r.1 r'.1 ∧ zF r.1 r'.1 ∧ zWzz r.1 r'.1 ∧ r'.1.1 0 33 = r.2 ∧ r'.2 = 15 ∧ zr 0 255 r.2) := by
  unfold fX12_turn
  refine zp2_bvr (fun y ey => zp2_ifr (fun q => absurd q h32) (fun _ => ?_))
  unfold fX12_turn_23
  refine zp2_sm (t_r6 h hp) (fun v rv => zp2_bvr (fun x ex => ?_))
  have x1' : ¬ x = 1 := fun q => x1 (ex.symm.trans q)
  refine zp2_ifr (fun q => absurd q x1') (fun _ => ?_)
  rw [ex, ey]
  unfold fX12_turn_191
  refine t_tk hI h hF hx x1 rv (g := fun t w => fX12_turn_193 t 6 w) (fun s t w h1 f1 qc qm rw1 => ?_)
  unfold fX12_turn_193 fX12_turn_219 fX12_rTo
  refine zp2_burx (P := fun s2 t2 => zTT I s2 t2 ∧ zQ [15, 17, 19] [] [] [] s s2 ∧ zQ [5, 6] [(3, 29, 32)] [] [] t t2) ?_ (fun s2 t2 q => zp2_bvr (fun t3 g3 => zp2_ifr (fun _ => zp2_some ?_) (fun q => absurd rfl q)))
  · refine zp2_bvr (fun u eu => ?_)
    have eu : u = w := eu.trans (z_m255 rw1)
    subst eu
    refine zp2_ifr (fun _ => ?_) (fun q => absurd rfl q)
    refine zp2_bir (p_m h1 (hp.of (qc.1 7 5 rfl) (qc.1 36 6 rfl) (qc.1 36 7 rfl) (qm.1 3 20 rfl) (qm.1 0 32 rfl))) (fun t0 w0 et => ?_)
    cases et
    refine zp2_burp (P := fun s2 t2 => zTT I s2 t2 ∧ zQ [15, 17, 19] [] [] [] s s2 ∧ zQ [5, 6] [(3, 29, 32)] [] [] t t2) (zp2_mono (h1.1.wr rfl (z_m255 rw1) rw1) (fun a b q => ⟨h1.mem hI q.1 q.2.1 q.2.2, q.2.1, q.2.2⟩)) (fun a t q => zp2_some q)
  · obtain ⟨h2, qc2, qm2⟩ := q
    subst g3
    exact ⟨h2.m33 hI, f1.of (qc2.1 36 1 rfl) (qm2.1 3 1 rfl), hW.of ((qc2.1 36 20 rfl).trans (qc.1 36 20 rfl)) ((qm2.1 3 20 rfl).trans (qm.1 3 20 rfl)), rfl, rfl, rw1⟩
end ZDD
end ZJN3
