/-! THE BLOCKS' PORTS -/
def cTl (B v k : Int32) : Int32 := ((cby B ||| ((v >>> ((6 : Int32) &&& 31)) &&& 2)) ||| (if k ≤ 255 then 0 else 17)) ||| cpar ((k &&& 7) ^^^ B)
section ZBP
variable {I : zSt → zSt → Prop} {σ μ : zSt}
theorem p_tell {v k : Int32} : zpc (fX5_tellOfPort σ v k) (fun r => r = zsi σ 36 1 (cTl (σ.1 36 2) v k)) := by
  unfold fX5_tellOfPort cTl
  refine zpc_ck (zpc_bi p_byC (fun s x e => ?_))
  cases e
  refine zpc_jx (K := fun g => fX5_tellOfPort_34 σ k g (cby (zgi σ 36 (2 : Int32).toNatClampNeg) ||| ((v >>> ((6 : Int32) &&& 31)) &&& 2)) 1) (a := 0) (b := 17) rfl rfl (fun g eg => ?_)
  unfold fX5_tellOfPort_34
  refine zpc_ck (zpc_bi p_parC (fun s x e => ?_))
  cases e
  refine zpc_ck (zpc_bv (fun t et => zpc_some ?_))
  rw [et, eg]
  rfl
theorem fl_tell {f B v k : Int32} (hf : zr 0 255 f) (hB : zr 0 255 B) (hv : zr 0 255 v) : pt (pt (pt (pt (gby f B) 1 (if v ≤ 127 then 0 else 1)) 4 (if k ≤ 255 then 0 else 1)) 0 (if k ≤ 255 then 0 else 1)) 2 (gev ((k &&& 7) ^^^ B)) = cTl B v k := by
  have r7 : zr 0 255 ((k &&& 7) ^^^ B) := z_xb (zr_w (z_r7 k) (by decide)) hB
  unfold cTl
  have e1 : (v >>> ((6 : Int32) &&& 31)) &&& 2 = bif bc (if v ≤ 127 then 0 else 1) then 2 else 0 := by
    obtain ⟨i, e⟩ := z_byteF hv
    rw [e]
    exact (v_tellf i).1
  have e2 : cpar ((k &&& 7) ^^^ B) = bif bc (gev ((k &&& 7) ^^^ B)) then 4 else 0 := by
    obtain ⟨i, e⟩ := z_byteF r7
    rw [e]
    exact (v_tellf i).2
  have e3 : (if k ≤ 255 then (0 : Int32) else 17) = bif bc (if k ≤ 255 then 0 else 1) then 17 else 0 := by
    by_cases q : k ≤ 255
    · rw [if_pos q, if_pos q]; rfl
    · rw [if_neg q, if_neg q]; rfl
  rw [e1, e2, e3, v_cby hB, ← v_tellB]
  conv => lhs; rw [fl_of hf, fl_by, pt_1, pt_4, pt_0, pt_2]
  rfl
theorem r_tell {f B v k : Int32} (hf : zr 0 255 f) (hB : zr 0 255 B) (hv : zr 0 255 v) : zr 0 255 (cTl B v k) := by
  rw [← fl_tell hf hB hv, fl_of hf, fl_by, pt_1, pt_4, pt_0, pt_2]
  exact zfl_r _ _ _ _ _ _ _ _
theorem p_485 {y z v k : Int32} {Q : zSt × Int32 → Prop} (c : zpc (fX12_blocks_584 (zsi μ 3 1 (pt (pt (pt (pt (gby (μ.1 3 1) (μ.1 3 2)) 1 (if v ≤ 127 then 0 else 1)) 4 (if k ≤ 255 then 0 else 1)) 0 (if k ≤ 255 then 0 else 1)) 2 (gev ((k &&& 7) ^^^ μ.1 3 2)))) y z (if μ.1 3 2 = 0 then 0 else 1)) Q) : zpc (fX12_blocks_485 μ y z v k) Q := by
  unfold fX12_blocks_485
  refine zpc_ck (zpc_bu p_by' (fun s e => ?_))
  have e : s = zsi μ 3 1 (gby (μ.1 3 1) (μ.1 3 2)) := e
  subst e
  refine zpc_jx (K := fun g => fX12_blocks_509 (zsi μ 3 1 (gby (μ.1 3 1) (μ.1 3 2))) y z k g 1) (a := 0) (b := 1) rfl rfl (fun g1 e1 => ?_)
  unfold fX12_blocks_509
  refine zpc_bu p_put (fun s e => ?_)
  subst e
  refine zpc_jx (K := fun g => fX12_blocks_527 (zsi μ 3 1 (pt (gby (μ.1 3 1) (μ.1 3 2)) 1 g1)) y z k g 4) (a := 0) (b := 1) rfl rfl (fun g2 e2 => ?_)
  unfold fX12_blocks_527
  refine zpc_bu p_put (fun s e => ?_)
  subst e
  refine zpc_jx (K := fun g => fX12_blocks_545 (zsi μ 3 1 (pt (pt (gby (μ.1 3 1) (μ.1 3 2)) 1 g1) 4 g2)) y z k g 0) (a := 0) (b := 1) rfl rfl (fun g3 e3 => ?_)
  unfold fX12_blocks_545 fX12_blocks_582
  refine zpc_bu p_put (fun s e => zpc_ck ?_)
  subst e
  refine zpc_bi p_even (fun s x e => ?_)
  cases e
  refine zpc_bu p_put (fun s e => zpc_ck ?_)
  subst e
  rw [← e1, ← e2] at c
  have e32 : g3 = g2 := e3.trans e2.symm
  rw [e32]
  refine zpc_jx (K := fun g => fX12_blocks_584 _ y z g) (a := 0) (b := 1) rfl rfl (fun g eg => ?_)
  rw [eg]
  exact c
theorem t_tell (hI : zIoK I) (h : zTT I σ μ) (hF : zF σ μ) (hW : zWzz σ μ) {op y z v k : Int32} (k1 : op &&& 16 = 0 ↔ y < 6) (k2 : op &&& 2 = 0 ↔ ¬ 2 ≤ z) (hv : zr 0 255 v) {L : zSt → Int32 → Option (zSt × Int32)} (hL : ∀ s c, zpc (L s c) (fun r => r = (s, c))) : zp2 (zbu (fX5_tellOfPort σ v k) (fun σ13 => zck (zin 2 29) (if (zgi σ13 36 (2 : Int32).toNatClampNeg) = 0 then L σ13 0 else L σ13 1))) (fX12_blocks_485 μ y z v k) (zBkk I op) := by
  have hf : zr 0 255 (σ.1 36 1) := h.b (by decide)
  have hB : zr 0 255 (σ.1 36 2) := h.b (by decide)
  have ef : μ.1 3 1 = σ.1 36 1 := hF
  have eb : μ.1 3 2 = σ.1 36 2 := h.eq (by decide)
  have cC : zpc (zbu (fX5_tellOfPort σ v k) (fun σ13 => zck (zin 2 29) (if (zgi σ13 36 (2 : Int32).toNatClampNeg) = 0 then L σ13 0 else L σ13 1))) (fun r => r = (zsi σ 36 1 (cTl (σ.1 36 2) v k), if σ.1 36 2 = 0 then 0 else 1)) := by
    refine zpc_bu p_tell (fun s e => zpc_ck ?_)
    subst e
    refine zpc_if (fun q => ?_) (fun q => ?_)
    · intro r er
      rw [hL _ _ r er, if_pos (show σ.1 36 2 = 0 from q)]
    · intro r er
      rw [hL _ _ r er, if_neg (show ¬ σ.1 36 2 = 0 from q)]
  intro r r' er er'
  have ec := cC r er
  subst ec
  refine zBkk.of ?_ _ r' rfl er'
  intro a' b' ea' eb'
  refine p_485 (Q := fun x => zEnq I a' x) (fun b2 eb2 => ?_) b' eb'
  rw [ef, eb, fl_tell hf hB hv] at eb2
  exact t_bk77 hI ((h.onC hI (Or.inl rfl) (zrg_b (Or.inl (by decide)) (r_tell hf hB hv))).onM hI (Or.inl rfl)) rfl hW k1 k2 a' b2 ea' eb2
/-- B is counted down -/
theorem t_bdn (hI : zIoK I) (h : zTT I σ μ) {s t : zSt} (f : s = zsi σ 36 ((2 : Int32).toNatClampNeg) (((zgi σ 36 (2 : Int32).toNatClampNeg) - 1) &&& 255)) (g : t = zsi μ 3 ((2 : Int32).toNatClampNeg) (((zgi μ 3 (2 : Int32).toNatClampNeg) - 1) &&& 255)) : zTT I s t := by
  rw [show zgi μ 3 (2 : Int32).toNatClampNeg = zgi σ 36 (2 : Int32).toNatClampNeg from h.eq (j := 2) (by decide)] at g
  subst f
  subst g
  exact h.upd hI [2] (zQ.wi zQ.rf rfl) (zQ.wi zQ.rf rfl) rfl (zAl1 ⟨rfl, zrg_b (Or.inl (by decide)) (z_r8 _)⟩)
theorem t_take (hI : zIoK I) (hPo : zPorts I) (h : zTT I σ μ) (hF : zF σ μ) {op y d : Int32} (k1 : op &&& 16 = 0 ↔ y < 6) (k2 : op &&& 2 = 0 ↔ ¬ 2 ≤ (2 : Int32)) : zp2 (zbi (fX5_takeOne σ d) (fun σ3 v4 => fX5_block_77 σ3 op v4)) (fX12_blocks_11 μ y 2 d) (zEnq I) := by
  refine zp2_bilp (P := zBkk I op) ?_ (fun s v b q a b' ea eb => by cases eb; exact q a ea)
  unfold fX5_takeOne fX12_blocks_11
  refine zp2_ifr (fun _ => zp2_ifr (fun _ => ?_) (fun q => absurd rfl q)) (fun q => absurd (by decide) q)
  refine zp2_sm (t_pair2 h) (fun a ra => zp2_ckl (zp2_bvl (fun s1 f1 => zp2_ckr (zp2_bvr (fun t1 g1 => ?_)))))
  have zz := zEnq.wz hI h hF (v := (a + d) &&& 65535) rfl (z_r16 _) (b := 0)
  have h1 : zTT I s1 t1 := by rw [f1, g1]; exact zz.1
  have F1 : zF s1 t1 := by rw [f1, g1]; exact zz.2.1
  have W1 : zWzz s1 t1 := by rw [f1, g1]; exact zz.2.2.1
  refine zp2_ckl (zp2_ckr ?_)
  rw [show zgi t1 3 (3 : Int32).toNatClampNeg = zgi s1 36 (3 : Int32).toNatClampNeg from h1.eq (j := 3) (by decide)]
  refine zp2_bii (hPo.2 _ _ _ h1 (h1.b (j := 3) (by decide))) (fun s2 v t2 v' q => ?_)
  obtain ⟨h2, e2, rv, p2⟩ := q
  have e2 : v' = v := e2
  subst e2
  have F2 := p2.f F1
  have W2 := p2.w W1
  refine zp2_ckl (zp2_ckl (zp2_bvl (fun s3 f3 => zp2_ckr (zp2_ckr (zp2_bvr (fun t3 g3 => ?_))))))
  have h3 := t_bdn hI h2 f3 g3
  have F3 : zF s3 t3 := F2.of (by rw [f3]; rfl) (by rw [g3]; rfl)
  have W3 : zWzz s3 t3 := W2.of (by rw [f3]; rfl) (by rw [g3]; rfl)
  refine zp2_sm (t_pair6 h3) (fun x rx => zp2_wr h3.1 rfl (z_m255 rv) rv (fun s4 t4 hm q1 q2 => ?_))
  have h4 := h3.mem hI hm q1 q2
  have F4 : zF s4 t4 := F3.of (q1.1 36 1 rfl) (q2.1 3 1 rfl)
  have W4 : zWzz s4 t4 := W3.of (q1.1 36 20 rfl) (q2.1 3 20 rfl)
  refine t_cnt6 hI h4 F4 W4 (g := fun v => v + d) (fun s5 t5 h5 F5 W5 _ => zp2_ckl (zp2_ckr (zp2_bvr (fun k ek => ?_))))
  rw [show zgi t5 3 (3 : Int32).toNatClampNeg = zgi s5 36 (3 : Int32).toNatClampNeg from h5.eq (j := 3) (by decide)] at ek
  rw [← ek]
  exact t_tell hI h5 F5 W5 k1 k2 rv (L := fX5_takeOne_110) (fun s c => zpc_ck (zpc_some rfl))
theorem t_give (hI : zIoK I) (hPo : zPorts I) (h : zTT I σ μ) (hF : zF σ μ) {op y d : Int32} (k1 : op &&& 16 = 0 ↔ y < 6) (k2 : op &&& 2 = 0 ↔ ¬ 2 ≤ (3 : Int32)) : zp2 (zbi (fX5_giveOne σ d) (fun σ3 v4 => fX5_block_77 σ3 op v4)) (fX12_blocks_11 μ y 3 d) (zEnq I) := by
  refine zp2_bilp (P := zBkk I op) ?_ (fun s v b q a b' ea eb => by cases eb; exact q a ea)
  unfold fX5_giveOne fX12_blocks_11
  refine zp2_ifr (fun _ => zp2_ifr (fun q => absurd q (by decide)) (fun _ => ?_)) (fun q => absurd (by decide) q)
  refine zp2_sm (t_pair6 h) (fun a ra => zp2_rd h.1 rfl (fun v rv => ?_))
  refine zp2_ckl (zp2_ckl (zp2_bvl (fun s3 f3 => zp2_ckr (zp2_ckr (zp2_bvr (fun t3 g3 => ?_))))))
  have h3 := t_bdn hI h f3 g3
  have F3 : zF s3 t3 := hF.of (by rw [f3]; rfl) (by rw [g3]; rfl)
  refine zp2_ckl (zp2_ckr ?_)
  rw [show zgi t3 3 (3 : Int32).toNatClampNeg = zgi s3 36 (3 : Int32).toNatClampNeg from h3.eq (j := 3) (by decide)]
  refine zp2_buu (hPo.1 _ _ _ _ h3 (h3.b (j := 3) (by decide)) rv) (fun s4 t4 q => ?_)
  obtain ⟨h4, p4⟩ := q
  have F4 := p4.f F3
  refine zp2_sm (t_pair6 h4) (fun x rx => zp2_buu (t_pairTo6 hI h4 rfl) (fun s5 t5 q => ?_))
  obtain ⟨h5, qc, qm⟩ := q
  have F5 : zF s5 t5 := F4.of (qc.1 36 1 rfl) (qm.1 3 1 rfl)
  refine zp2_sm (t_pair2 h5) (fun x2 rx2 => zp2_ckl (zp2_bvl (fun s6 f6 => zp2_ckr (zp2_bvr (fun t6 g6 => ?_)))))
  have zz := zEnq.wz hI h5 F5 (v := (x2 + d) &&& 65535) rfl (z_r16 _) (b := 0)
  have h6 : zTT I s6 t6 := by rw [f6, g6]; exact zz.1
  have F6 : zF s6 t6 := by rw [f6, g6]; exact zz.2.1
  have W6 : zWzz s6 t6 := by rw [f6, g6]; exact zz.2.2.1
  refine zp2_ckl (zp2_ckr (zp2_bvr (fun k ek => ?_)))
  rw [show zgi t6 3 (7 : Int32).toNatClampNeg = zgi s6 36 (7 : Int32).toNatClampNeg from h6.eq (j := 7) (by decide)] at ek
  rw [← ek]
  exact t_tell hI h6 F6 W6 k1 k2 rv (L := fX5_giveOne_105) (fun s c => zpc_ck (zpc_some rfl))
theorem t_block (hI : zIoK I) (hPo : zPorts I) (h : zTT I σ μ) (hF : zF σ μ) (hW : zWzz σ μ) {op : Int32} (ho : zr 0 255 op) (hb : op &&& 228 = 160) : zp2 (fX5_block σ op) (fX12_more μ op) (zEnq I) := by
  have hz : zr 0 7 (op &&& 7) := z_r7 _
  have b2 := (z_blk ho).mpr hb
  have v : (op &&& 3 = op &&& 7 ∧ ((op &&& 8 = 0 ∧ zrem ((op >>> ((3 : Int32) &&& 31)) &&& 7) 2 = 0) ∨ (op &&& 8 = 8 ∧ zrem ((op >>> ((3 : Int32) &&& 31)) &&& 7) 2 = 1)) ∧ (op &&& 16 = 0 ↔ (op >>> ((3 : Int32) &&& 31)) &&& 7 < 6) ∧ (op &&& 2 = 0 ↔ ¬ 2 ≤ op &&& 7) ∧ (op &&& 7).toInt ≤ 3) := by
    obtain ⟨i, e⟩ := z_byteF ho
    subst e
    exact v_bk2 i hb
  obtain ⟨v1, par, k1, k2, z3⟩ := v
  have eM : fX12_more μ op = zbi (fX12_blocks μ ((op >>> ((3 : Int32) &&& 31)) &&& 7) (op &&& 7)) (fun σ44 v45 => some (σ44, v45)) := by
    unfold fX12_more
    show (if op >>> ((6 : Int32) &&& 31) = 2 then (if (op >>> ((3 : Int32) &&& 31)) &&& 7 ≤ 3 then fX12_more_42 μ (op >>> ((6 : Int32) &&& 31)) ((op >>> ((3 : Int32) &&& 31)) &&& 7) (op &&& 7) else if 4 ≤ op &&& 7 then fX12_more_42 μ (op >>> ((6 : Int32) &&& 31)) ((op >>> ((3 : Int32) &&& 31)) &&& 7) (op &&& 7) else zbi (fX12_blocks μ ((op >>> ((3 : Int32) &&& 31)) &&& 7) (op &&& 7)) (fun σ44 v45 => some (σ44, v45))) else fX12_more_42 μ (op >>> ((6 : Int32) &&& 31)) ((op >>> ((3 : Int32) &&& 31)) &&& 7) (op &&& 7)) = _
    rw [if_pos b2.1, if_neg b2.2.1, if_neg b2.2.2]
  rw [eM]
  have main : ∀ d : Int32, zp2 (fX5_block_12 σ op d) (fX12_blocks_11 μ ((op >>> ((3 : Int32) &&& 31)) &&& 7) (op &&& 7) d) (zEnq I) := fun d => by
    unfold fX5_block_12
    rw [v1]
    generalize hzz : op &&& 7 = z at *
    have rz : zr 0 3 z := ⟨hz.1, z3⟩
    rcases zr_hd (c := 0) rz rfl with e | rz
    · subst e
      exact zp2_ifl (fun _ => t_copy hI h hF hW k1 k2) (fun q => absurd rfl q)
    rcases zr_hd (c := 1) rz rfl with e | rz
    · subst e
      exact zp2_ifl (fun q => absurd q (by decide)) (fun _ => zp2_ifl (fun _ => t_cmp hI h hF hW k1 k2) (fun q => absurd rfl q))
    rcases zr_hd (c := 2) rz rfl with e | rz
    · subst e
      exact zp2_ifl (fun q => absurd q (by decide)) (fun _ => zp2_ifl (fun q => absurd q (by decide)) (fun _ => zp2_ifl (fun _ => t_take hI hPo h hF k1 k2) (fun q => absurd rfl q)))
    rcases zr_hd (c := 3) rz rfl with e | rz
    · subst e
      exact zp2_ifl (fun q => absurd q (by decide)) (fun _ => zp2_ifl (fun q => absurd q (by decide)) (fun _ => zp2_ifl (fun q => absurd q (by decide)) (fun _ => t_give hI hPo h hF k1 k2)))
    exact zr_no9 rz (by decide)
  refine zp2_birp (P := zEnq I) ?_ (fun a t w q => zp2_some q)
  unfold fX5_block fX12_blocks
  refine zp2_ckr ?_
  rcases par with ⟨e1, e2⟩ | ⟨e1, e2⟩
  · rw [e1, e2]
    exact zp2_ifl (fun _ => zp2_ifr (fun _ => main 1) (fun q => absurd rfl q)) (fun q => absurd rfl q)
  · rw [e1, e2]
    exact zp2_ifl (fun q => absurd q (by decide)) (fun _ => zp2_ifr (fun q => absurd q (by decide)) (fun _ => main (-1)))
end ZBP
