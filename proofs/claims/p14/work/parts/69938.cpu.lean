/-! ED: SPECIALS -/
theorem v_rld : ∀ i : Fin 256, ∀ k : Fin 16, (((Int32.ofNat i.val <<< ((4 : Int32) &&& 31)) ||| Int32.ofNat k.val) &&& 255 = ((Int32.ofNat i.val <<< ((4 : Int32) &&& 31)) &&& 255) ||| Int32.ofNat k.val) := by decide +kernel
theorem v_rld2 : ∀ i : Fin 256, ∀ k : Fin 16, 0 ≤ (((Int32.ofNat i.val <<< ((4 : Int32) &&& 31)) &&& 255) ||| Int32.ofNat k.val).toInt ∧ (((Int32.ofNat i.val <<< ((4 : Int32) &&& 31)) &&& 255) ||| Int32.ofNat k.val).toInt ≤ 255 := by decide +kernel
theorem v_rrd : ∀ i : Fin 256, ∀ k : Fin 16, 0 ≤ ((Int32.ofNat k.val <<< ((4 : Int32) &&& 31)) ||| (Int32.ofNat i.val >>> ((4 : Int32) &&& 31))).toInt ∧ ((Int32.ofNat k.val <<< ((4 : Int32) &&& 31)) ||| (Int32.ofNat i.val >>> ((4 : Int32) &&& 31))).toInt ≤ 255 := by decide +kernel
theorem v_sh4 : ∀ i : Fin 256, 0 ≤ (Int32.ofNat i.val >>> ((4 : Int32) &&& 31)).toInt ∧ (Int32.ofNat i.val >>> ((4 : Int32) &&& 31)).toInt ≤ 255 := by decide +kernel
theorem z_r15 (x : Int32) : ∃ k : Fin 16, x &&& 15 = Int32.ofNat k.val := by
  have h : zr 0 15 (x &&& 15) := zr_andr (lo := 0) (hi := 15) (zr_c (lo := 15) (hi := 15) (by decide)) (by decide)
  obtain ⟨h0, h1⟩ := h
  obtain ⟨i, hi⟩ : ∃ i : Nat, (x &&& 15).toInt = i := ⟨(x &&& 15).toInt.toNat, by omega⟩
  exact ⟨⟨i, by omega⟩, z_ofN hi⟩
section ZSP
variable {I : zSt → zSt → Prop} {σ μ : zSt}
theorem p_220 {f y : Int32} : zpc (fX12_specials_220 (zsi μ 3 1 f) y) (fun r => r = (zsi μ 3 1 (pt (pt f 4 0) 1 0), if 4 ≤ y then 18 else 9)) := by
  unfold fX12_specials_220 fX12_specials_244
  refine zpc_bu p_put (fun s e => ?_)
  subst e
  refine zpc_bu p_put (fun s e => ?_)
  subst e
  exact zpc_if (fun q => zpc_some (by rw [if_pos q])) (fun q => zpc_some (by rw [if_neg q]))
theorem t_ir (hI : zIoK I) (h : zTT I σ μ) (hF : zF σ μ) (hW : zWzz σ μ) {y v : Int32} (hy : ¬ 4 ≤ y) (rv : zr 0 255 v) {k : Int32} (hk : zgi μ 3 k.toNatClampNeg = v) : zp2 (fX5_moreOfA_99 σ v 0) (fX12_specials_64 μ y k 0) (zEnq I) := by
  have ef : μ.1 3 1 = σ.1 36 1 := hF
  have e24 : μ.1 3 24 = σ.1 36 24 := h.eq (by decide)
  have hf : zr 0 255 (σ.1 36 1) := h.b (by decide)
  have cC : zpc (fX5_moreOfA_99 σ v 0) (fun r => r = (zsi (zsi σ 36 0 v) 36 1 (((σ.1 36 1 &&& 1) ||| cby v) ||| (if σ.1 36 24 = 1 then 4 else 0)), 9)) := by
    unfold fX5_moreOfA_99
    refine zpc_ck (zpc_bv (fun s1 f1 => zpc_ck (zpc_ck ?_)))
    have g0 : zgi s1 36 (0 : Int32).toNatClampNeg = v := by rw [f1]; rfl
    have g1 : zgi s1 36 (1 : Int32).toNatClampNeg = σ.1 36 1 := by rw [f1]; rfl
    have g24 : zgi s1 36 (24 : Int32).toNatClampNeg = σ.1 36 24 := by rw [f1]; rfl
    rw [g0, g1]
    refine zpc_bi p_byC (fun s2 v2 e2 => ?_)
    cases e2
    rw [g24]
    refine zpc_ck (zpc_jx (K := fun x => fX5_moreOfA_139 s1 x ((σ.1 36 1 &&& 1) ||| cby v) 1) (a := 4) (b := 0) rfl rfl (fun x ex => ?_))
    unfold fX5_moreOfA_139
    refine zpc_ck (zpc_bv (fun s3 f3 => zpc_some ?_))
    rw [f3, f1, ex]
    rfl
  have cM : zpc (fX12_specials_64 μ y k 0) (fun r => r = (zsi (zsi μ 3 0 v) 3 1 (pt (pt (pt (gby (σ.1 36 1) v) 2 (if σ.1 36 24 = 1 then 1 else 0)) 4 0) 1 0), 9)) := by
    unfold fX12_specials_64
    refine zpc_ck (zpc_ck (zpc_bv (fun s1 f1 => zpc_ck ?_)))
    rw [hk] at f1
    have g0 : zgi s1 3 (0 : Int32).toNatClampNeg = v := by rw [f1]; rfl
    have g1 : s1.1 3 1 = σ.1 36 1 := by rw [f1]; exact ef
    rw [g0]
    refine zpc_bu p_by' (fun s2 e2 => zpc_ck ?_)
    rw [g1] at e2
    subst e2
    have g24 : zgi (zsi s1 3 1 (gby (σ.1 36 1) v)) 3 (24 : Int32).toNatClampNeg = σ.1 36 24 := by rw [f1]; exact e24
    rw [g24]
    refine zpc_jx (K := fun x => fX12_specials_94 (zsi s1 3 1 (gby (σ.1 36 1) v)) y x 2) (a := 1) (b := 0) rfl rfl (fun x ex => ?_)
    unfold fX12_specials_94
    refine zpc_bu p_put (fun s3 e3 => ?_)
    subst e3
    intro r er
    rw [p_220 r er, if_neg hy, f1, ex]
    rfl
  intro r r' er er'
  rw [cC r er, cM r' er', v_ir hf rv]
  exact zEnq_af hI h hW (zQ.wi (zQ.wi zQ.rf rfl) rfl) (zQ.wi (zQ.wi zQ.rf rfl) rfl) rfl rfl rfl rfl rfl rfl rv (r_ir hf rv)
/-- behind RLD and RRD: A, and the flags -/
theorem t_rldd (hI : zIoK I) (h : zTT I σ μ) (hF : zF σ μ) (hW : zWzz σ μ) {y s0 s1 : Int32} (hy : 4 ≤ y) (rv : zr 0 255 (s1 ||| s0)) : zp2 (zbu (fX5_turnDigits_102 σ s0 s1 0) (fun s => some (s, (18 : Int32)))) (fX12_specials_194 μ y s0 s1 0) (zEnq I) := by
  have ef : μ.1 3 1 = σ.1 36 1 := hF
  have hf : zr 0 255 (σ.1 36 1) := h.b (by decide)
  have cC : zpc (fX5_turnDigits_102 σ s0 s1 0) (fun r => r = zsi (zsi σ 36 0 (s1 ||| s0)) 36 1 (((σ.1 36 1 &&& 1) ||| cby (s1 ||| s0)) ||| cpar (s1 ||| s0))) := by
    unfold fX5_turnDigits_102
    refine zpc_ck (zpc_bv (fun t1 f1 => zpc_ck (zpc_ck ?_)))
    have g0 : zgi t1 36 (0 : Int32).toNatClampNeg = s1 ||| s0 := by rw [f1]; rfl
    have g1 : zgi t1 36 (1 : Int32).toNatClampNeg = σ.1 36 1 := by rw [f1]; rfl
    rw [g0, g1]
    refine zpc_bi p_byC (fun s2 v2 e2 => ?_)
    cases e2
    rw [g0]
    refine zpc_ck (zpc_bi p_parC (fun s2 v2 e2 => ?_))
    cases e2
    refine zpc_ck (zpc_bv (fun s3 f3 => zpc_some ?_))
    rw [f3, f1]
    rfl
  have cM : zpc (fX12_specials_194 μ y s0 s1 0) (fun r => r = (zsi (zsi μ 3 0 (s1 ||| s0)) 3 1 (pt (pt (pt (gby (σ.1 36 1) (s1 ||| s0)) 2 (gev (s1 ||| s0))) 4 0) 1 0), 18)) := by
    unfold fX12_specials_194
    refine zpc_ck (zpc_bv (fun t1 f1 => zpc_ck ?_))
    have g0 : zgi t1 3 (0 : Int32).toNatClampNeg = s1 ||| s0 := by rw [f1]; rfl
    have g1 : t1.1 3 1 = σ.1 36 1 := by rw [f1]; exact ef
    rw [g0]
    refine zpc_bu p_by' (fun s2 e2 => zpc_ck ?_)
    rw [g1] at e2
    subst e2
    rw [show zgi (zsi t1 3 1 (gby (σ.1 36 1) (s1 ||| s0))) 3 (0 : Int32).toNatClampNeg = s1 ||| s0 from g0]
    refine zpc_bi p_even (fun s3 v3 e3 => ?_)
    cases e3
    refine zpc_bu p_put (fun s3 e3 => ?_)
    subst e3
    intro r er
    rw [p_220 r er, if_pos hy, f1]
    rfl
  refine zp2_bul cC (fun s es => ?_)
  intro r r' er er'
  cases er
  rw [cM r' er', v_in hf rv, es]
  exact zEnq_af hI h hW (zQ.wi (zQ.wi zQ.rf rfl) rfl) (zQ.wi (zQ.wi zQ.rf rfl) rfl) rfl rfl rfl rfl rfl rfl rv (r_in hf rv)
theorem z_ua {α : Type} {o : Option zSt} {f : zSt → Option zSt} {g : zSt → Option α} : zbu (zbu o f) g = zbu o (fun s => zbu (f s) g) := by
  cases o with
  | none => rfl
  | some s => rfl
theorem t_dig4 (hI : zIoK I) (h : zTT I σ μ) (hF : zF σ μ) : zp2 (fX5_moreOfA_155 σ 1) (fX12_specials μ 4) (zEnq I) := by
  unfold fX5_moreOfA_155 fX5_turnDigits fX12_specials
  refine zp2_ifr (fun _ => zp2_ifr (fun _ => zp2_ifr (fun _ => ?_) (fun q => absurd (by decide) q)) (fun q => absurd (by decide) q)) (fun q => absurd (by decide) q)
  have tp := t_pair6 h
  refine zp2_bulp (P := fun s b => zEnq I (s, 18) b) ?_ (fun s b q => zp2_some q)
  refine zp2_sm tp (fun v rv => ?_)
  refine zp2_ckr (zp2_bvr (fun t1 g1 => ?_))
  have h1 : zTT I σ t1 := by rw [g1]; exact h.onM hI (Or.inr rfl)
  refine zp2_rd h1.1 rfl (fun b rb => zp2_ckl (zp2_bvl (fun v12 e12 => zp2_ckl (zp2_bvl (fun s2 f2 => zp2_ckr (zp2_bvr (fun v18 e18 => ?_)))))))
  have ea : zgi t1 3 (0 : Int32).toNatClampNeg = zgi σ 36 (0 : Int32).toNatClampNeg := h1.eq (j := 0) (by decide)
  have ev : v18 = v12 := by rw [e18, e12, ea]
  subst ev
  have h2 : zTT I s2 t1 := by rw [f2]; exact h1.onC hI (Or.inr rfl) (zrg_w (by decide) (by decide) (z_r16 _))
  have F2 : zF s2 t1 := by rw [f2, g1]; exact hF
  have W2 : zWzz s2 t1 := by rw [f2, g1]; rfl
  obtain ⟨k, ek⟩ := z_r15 (zgi σ 36 (0 : Int32).toNatClampNeg)
  rw [← e12] at ek
  obtain ⟨i, ei⟩ := z_byteF rb
  refine zp2_ifl (fun q => absurd q (by decide)) (fun _ => zp2_ifr (fun _ => ?_) (fun q => absurd rfl q))
  unfold fX5_turnDigits_70 fX12_specials_161
  have rW : zr 0 255 ((v18 <<< ((4 : Int32) &&& 31)) ||| (b >>> ((4 : Int32) &&& 31))) := by
    rw [ek, ei]
    exact v_rrd i k
  refine zp2_wr h2.1 rfl (z_m255 rW) rW (fun s3 t3 hm q1 q2 => zp2_ckl (zp2_ckr ?_))
  have h3 := h2.mem hI hm q1 q2
  have F3 : zF s3 t3 := F2.of (q1.1 36 1 rfl) (q2.1 3 1 rfl)
  have W3 : zWzz s3 t3 := W2.of (q1.1 36 20 rfl) (q2.1 3 20 rfl)
  have ea3 : zgi t3 3 (0 : Int32).toNatClampNeg = zgi s3 36 (0 : Int32).toNatClampNeg := h3.eq (j := 0) (by decide)
  rw [ea3]
  refine zp2_ifl (fun q => absurd q (by decide)) (fun _ => zp2_ifr (fun _ => ?_) (fun q => absurd rfl q))
  have rA : zr 0 255 (((zgi s3 36 (0 : Int32).toNatClampNeg) &&& 240) ||| (b &&& 15)) := z_ob (zr_andr (lo := 0) (hi := 255) (zr_c (lo := 240) (hi := 240) (by decide)) (by decide)) (zr_andr (lo := 0) (hi := 255) (zr_c (lo := 15) (hi := 15) (by decide)) (by decide))
  have t := t_rldd hI h3 F3 W3 (y := 4) (by decide) rA
  intro r r' er er'
  refine t (r, 18) r' ?_ er'
  rw [er]
  rfl
theorem t_dig5 (hI : zIoK I) (h : zTT I σ μ) (hF : zF σ μ) : zp2 (fX5_moreOfA_155 σ 0) (fX12_specials μ 5) (zEnq I) := by
  unfold fX5_moreOfA_155 fX5_turnDigits fX12_specials
  refine zp2_ifr (fun _ => zp2_ifr (fun _ => zp2_ifr (fun _ => ?_) (fun q => absurd (by decide) q)) (fun q => absurd (by decide) q)) (fun q => absurd (by decide) q)
  have tp := t_pair6 h
  refine zp2_bulp (P := fun s b => zEnq I (s, 18) b) ?_ (fun s b q => zp2_some q)
  refine zp2_sm tp (fun v rv => ?_)
  refine zp2_ckr (zp2_bvr (fun t1 g1 => ?_))
  have h1 : zTT I σ t1 := by rw [g1]; exact h.onM hI (Or.inr rfl)
  refine zp2_rd h1.1 rfl (fun b rb => zp2_ckl (zp2_bvl (fun v12 e12 => zp2_ckl (zp2_bvl (fun s2 f2 => zp2_ckr (zp2_bvr (fun v18 e18 => ?_)))))))
  have ea : zgi t1 3 (0 : Int32).toNatClampNeg = zgi σ 36 (0 : Int32).toNatClampNeg := h1.eq (j := 0) (by decide)
  have ev : v18 = v12 := by rw [e18, e12, ea]
  subst ev
  have h2 : zTT I s2 t1 := by rw [f2]; exact h1.onC hI (Or.inr rfl) (zrg_w (by decide) (by decide) (z_r16 _))
  have F2 : zF s2 t1 := by rw [f2, g1]; exact hF
  have W2 : zWzz s2 t1 := by rw [f2, g1]; rfl
  obtain ⟨k, ek⟩ := z_r15 (zgi σ 36 (0 : Int32).toNatClampNeg)
  rw [← e12] at ek
  obtain ⟨i, ei⟩ := z_byteF rb
  refine zp2_ifl (fun _ => zp2_ifr (fun q => absurd q (by decide)) (fun _ => ?_)) (fun q => absurd rfl q)
  unfold fX5_turnDigits_70 fX12_specials_161
  have rW : zr 0 255 (((b <<< ((4 : Int32) &&& 31)) &&& 255) ||| v18) := by
    rw [ek, ei]
    exact v_rld2 i k
  refine zp2_wr h2.1 rfl (by rw [ek, ei]; exact v_rld i k) rW (fun s3 t3 hm q1 q2 => zp2_ckl (zp2_ckr ?_))
  have h3 := h2.mem hI hm q1 q2
  have F3 : zF s3 t3 := F2.of (q1.1 36 1 rfl) (q2.1 3 1 rfl)
  have W3 : zWzz s3 t3 := W2.of (q1.1 36 20 rfl) (q2.1 3 20 rfl)
  have ea3 : zgi t3 3 (0 : Int32).toNatClampNeg = zgi s3 36 (0 : Int32).toNatClampNeg := h3.eq (j := 0) (by decide)
  rw [ea3]
  refine zp2_ifl (fun _ => zp2_ifr (fun q => absurd q (by decide)) (fun _ => ?_)) (fun q => absurd rfl q)
  have rA : zr 0 255 (((zgi s3 36 (0 : Int32).toNatClampNeg) &&& 240) ||| (b >>> ((4 : Int32) &&& 31))) := z_ob (zr_andr (lo := 0) (hi := 255) (zr_c (lo := 240) (hi := 240) (by decide)) (by decide)) (by rw [ei]; exact v_sh4 i)
  have t := t_rldd hI h3 F3 W3 (y := 5) (by decide) rA
  intro r r' er er'
  refine t (r, 18) r' ?_ er'
  rw [er]
  rfl
theorem t_spec (hI : zIoK I) (h : zTT I σ μ) (hF : zF σ μ) (hW : zWzz σ μ) {y : Int32} (hy : zr 0 7 y) : zp2 (fX5_moreOfA σ y) (fX12_specials μ y) (zEnq I) := by
  have ea : zgi μ 3 (0 : Int32).toNatClampNeg = zgi σ 36 (0 : Int32).toNatClampNeg := h.eq (j := 0) (by decide)
  have ha : zr 0 255 (σ.1 36 0) := h.b (by decide)
  rcases zr_hd (c := 0) hy rfl with e | hy
  · subst e
    unfold fX5_moreOfA fX12_specials fX12_specials_28
    refine zp2_ifl (fun _ => ?_) (fun q => absurd rfl q)
    refine zp2_ifr (fun _ => zp2_ifr (fun q => absurd q (by decide)) (fun _ => zp2_ifr (fun _ => ?_) (fun q => absurd rfl q))) (fun q => absurd (by decide) q)
    refine zp2_ckl (zp2_ckl (zp2_bvl (fun s f => zp2_ckr (zp2_ckr (zp2_bvr (fun t g => zp2_some ?_))))))
    rw [ea] at g
    subst f
    subst g
    exact ⟨h.upd hI [21] (zQ.wi zQ.rf rfl) (zQ.wi zQ.rf rfl) rfl (zAl1 ⟨rfl, zrg_b (Or.inr (Or.inl rfl)) ha⟩), hF, hW, rfl⟩
  rcases zr_hd (c := 1) hy rfl with e | hy
  · subst e
    unfold fX5_moreOfA fX12_specials fX12_specials_28
    refine zp2_ifl (fun q => absurd q (by decide)) (fun _ => zp2_ifl (fun _ => ?_) (fun q => absurd rfl q))
    refine zp2_ifr (fun _ => zp2_ifr (fun q => absurd q (by decide)) (fun _ => zp2_ifr (fun q => absurd q (by decide)) (fun _ => ?_))) (fun q => absurd (by decide) q)
    refine zp2_ckl (zp2_ckl (zp2_bvl (fun s f => zp2_ckr (zp2_ckr (zp2_bvr (fun t g => zp2_some ?_))))))
    rw [ea] at g
    subst f
    subst g
    exact ⟨h.upd hI [22] (zQ.wi zQ.rf rfl) (zQ.wi zQ.rf rfl) rfl (zAl1 ⟨rfl, zrg_b (Or.inr (Or.inr rfl)) ha⟩), hF, hW, rfl⟩
  rcases zr_hd (c := 2) hy rfl with e | hy
  · subst e
    unfold fX5_moreOfA fX12_specials fX5_moreOfA_72
    refine zp2_ifl (fun q => absurd q (by decide)) (fun _ => zp2_ifl (fun q => absurd q (by decide)) (fun _ => zp2_ifl (fun _ => ?_) (fun q => absurd rfl q)))
    refine zp2_ifl (fun _ => ?_) (fun q => absurd rfl q)
    refine zp2_ifr (fun _ => zp2_ifr (fun _ => zp2_ifr (fun q => absurd q (by decide)) (fun _ => zp2_ifr (fun _ => ?_) (fun q => absurd rfl q))) (fun q => absurd (by decide) q)) (fun q => absurd (by decide) q)
    exact zp2_ckl (t_ir hI h hF hW (by decide) ((h.g (j := 21) (by decide)).2.2.1 (by decide) (by decide)) (h.eq (j := 21) (by decide)))
  rcases zr_hd (c := 3) hy rfl with e | hy
  · subst e
    unfold fX5_moreOfA fX12_specials fX5_moreOfA_72
    refine zp2_ifl (fun q => absurd q (by decide)) (fun _ => zp2_ifl (fun q => absurd q (by decide)) (fun _ => zp2_ifl (fun q => absurd q (by decide)) (fun _ => zp2_ifl (fun _ => ?_) (fun q => absurd rfl q))))
    refine zp2_ifl (fun q => absurd q (by decide)) (fun _ => ?_)
    refine zp2_ifr (fun _ => zp2_ifr (fun _ => zp2_ifr (fun q => absurd q (by decide)) (fun _ => zp2_ifr (fun q => absurd q (by decide)) (fun _ => ?_))) (fun q => absurd (by decide) q)) (fun q => absurd (by decide) q)
    exact zp2_ckl (t_ir hI h hF hW (by decide) ((h.g (j := 22) (by decide)).2.2.1 (by decide) (by decide)) (h.eq (j := 22) (by decide)))
  rcases zr_hd (c := 4) hy rfl with e | hy
  · subst e
    unfold fX5_moreOfA fX5_moreOfA_144
    refine zp2_ifl (fun q => absurd q (by decide)) (fun _ => zp2_ifl (fun q => absurd q (by decide)) (fun _ => zp2_ifl (fun q => absurd q (by decide)) (fun _ => zp2_ifl (fun q => absurd q (by decide)) (fun _ => zp2_ifl (fun _ => ?_) (fun q => absurd rfl q)))))
    refine zp2_ifl (fun _ => ?_) (fun q => absurd rfl q)
    exact t_dig4 hI h hF
  rcases zr_hd (c := 5) hy rfl with e | hy
  · subst e
    unfold fX5_moreOfA fX5_moreOfA_144
    refine zp2_ifl (fun q => absurd q (by decide)) (fun _ => zp2_ifl (fun q => absurd q (by decide)) (fun _ => zp2_ifl (fun q => absurd q (by decide)) (fun _ => zp2_ifl (fun q => absurd q (by decide)) (fun _ => zp2_ifl (fun q => absurd q (by decide)) (fun _ => zp2_ifl (fun _ => ?_) (fun q => absurd rfl q))))))
    refine zp2_ifl (fun q => absurd q (by decide)) (fun _ => ?_)
    exact t_dig5 hI h hF
  have n : ∀ k : Int32, k.toInt < 6 → ¬ y = k := fun k hk e => by rw [e] at hy; have := hy.1; omega
  have n5 : ¬ y ≤ 5 := fun q => by have := Int32.le_iff_toInt_le.mp q; have := hy.1; have c : (5 : Int32).toInt = 5 := rfl; omega
  unfold fX5_moreOfA fX12_specials
  exact zp2_ifl (fun q => absurd q (n 0 (by decide))) (fun _ => zp2_ifl (fun q => absurd q (n 1 (by decide))) (fun _ => zp2_ifl (fun q => absurd q (n 2 (by decide))) (fun _ => zp2_ifl (fun q => absurd q (n 3 (by decide))) (fun _ => zp2_ifl (fun q => absurd q (n 4 (by decide))) (fun _ => zp2_ifl (fun q => absurd q (n 5 (by decide))) (fun _ => zp2_ifr (fun q => absurd q n5) (fun _ => zp2_some ⟨h, hF, hW, rfl⟩)))))))
theorem v_blk : ∀ i : Fin 256, (Int32.ofNat i.val >>> ((6 : Int32) &&& 31) = 2 ∧ ¬ (Int32.ofNat i.val >>> ((3 : Int32) &&& 31)) &&& 7 ≤ 3 ∧ ¬ 4 ≤ Int32.ofNat i.val &&& 7) ↔ Int32.ofNat i.val &&& 228 = 160 := by decide +kernel
theorem z_blk {op : Int32} (h : zr 0 255 op) : (op >>> ((6 : Int32) &&& 31) = 2 ∧ ¬ (op >>> ((3 : Int32) &&& 31)) &&& 7 ≤ 3 ∧ ¬ 4 ≤ op &&& 7) ↔ op &&& 228 = 160 := by
  obtain ⟨i, e⟩ := z_byteF h
  subst e
  exact v_blk i
theorem t_ed (hI : zIoK I) (hPo : zPorts I) (h : zTT I σ μ) (hF : zF σ μ) (hW : zWzz σ μ) (hp : zPlc σ μ) {op : Int32} (ho : zr 0 255 op) (hb : ¬ op &&& 228 = 160) : zp2 (fX5_behindEd σ op) (fX12_more μ op) (zEnq I) := by
  have hy : zr 0 7 ((op >>> ((3 : Int32) &&& 31)) &&& 7) := z_r7 _
  have hz : zr 0 7 (op &&& 7) := z_r7 _
  have nb := fun q => hb ((z_blk ho).mp q)
  have eM : fX12_more μ op = fX12_more_42 μ (op >>> ((6 : Int32) &&& 31)) ((op >>> ((3 : Int32) &&& 31)) &&& 7) (op &&& 7) := by
    unfold fX12_more
    show (if op >>> ((6 : Int32) &&& 31) = 2 then (if (op >>> ((3 : Int32) &&& 31)) &&& 7 ≤ 3 then fX12_more_42 μ (op >>> ((6 : Int32) &&& 31)) ((op >>> ((3 : Int32) &&& 31)) &&& 7) (op &&& 7) else if 4 ≤ op &&& 7 then fX12_more_42 μ (op >>> ((6 : Int32) &&& 31)) ((op >>> ((3 : Int32) &&& 31)) &&& 7) (op &&& 7) else zbi (fX12_blocks μ ((op >>> ((3 : Int32) &&& 31)) &&& 7) (op &&& 7)) (fun σ44 v45 => some (σ44, v45))) else fX12_more_42 μ (op >>> ((6 : Int32) &&& 31)) ((op >>> ((3 : Int32) &&& 31)) &&& 7) (op &&& 7)) = _
    by_cases a : op >>> ((6 : Int32) &&& 31) = 2
    · rw [if_pos a]
      by_cases b : (op >>> ((3 : Int32) &&& 31)) &&& 7 ≤ 3
      · rw [if_pos b]
      · rw [if_neg b]
        by_cases c : 4 ≤ op &&& 7
        · rw [if_pos c]
        · exact absurd ⟨a, b, c⟩ nb
    · rw [if_neg a]
  rw [eM]
  unfold fX5_behindEd fX12_more_42 fX5_behindEd_160
  refine zp2_if (fun _ => ?_) (fun _ => zp2_some ⟨h, hF, hW, rfl⟩)
  refine zp2_bvl (fun y ey => ?_)
  rw [← ey] at hy ⊢
  clear ey eM nb hb ho
  generalize op &&& 7 = z at hz
  rcases zr_hd (c := 0) hz rfl with e | hz
  · subst e
    exact zp2_ifl (fun _ => zp2_ifr (fun _ => t_edin hI hPo h hF hp hy) (fun q => absurd rfl q)) (fun q => absurd rfl q)
  rcases zr_hd (c := 1) hz rfl with e | hz
  · subst e
    exact zp2_ifl (fun q => absurd q (by decide)) (fun _ => zp2_ifl (fun _ => zp2_ifr (fun q => absurd q (by decide)) (fun _ => zp2_ifr (fun _ => t_edout hI hPo h hF hp hy) (fun q => absurd rfl q))) (fun q => absurd rfl q))
  rcases zr_hd (c := 2) hz rfl with e | hz
  · subst e
    obtain ⟨par, hpp⟩ := z_par hy
    refine zp2_ifl (fun q => absurd q (by decide)) (fun _ => zp2_ifl (fun q => absurd q (by decide)) (fun _ => zp2_ifl (fun _ => zp2_ifr (fun q => absurd q (by decide)) (fun _ => zp2_ifr (fun q => absurd q (by decide)) (fun _ => zp2_ifr (fun _ => zp2_ckr ?_) (fun q => absurd rfl q)))) (fun q => absurd rfl q)))
    rcases par with ⟨e1, e2⟩ | ⟨e1, e2⟩
    · rw [e1, e2]
      exact zp2_ifl (fun _ => zp2_ifr (fun q => absurd q (by decide)) (fun _ => zp2_bilp (t_wdS hI h hF hpp) (fun s v b q => zp2_some q))) (fun q => absurd rfl q)
    · rw [e1, e2]
      exact zp2_ifl (fun q => absurd q (by decide)) (fun _ => zp2_ifr (fun _ => zp2_bilp (t_wdA hI h hF hpp) (fun s v b q => zp2_some q)) (fun q => absurd rfl q))
  rcases zr_hd (c := 3) hz rfl with e | hz
  · subst e
    exact zp2_ifl (fun q => absurd q (by decide)) (fun _ => zp2_ifl (fun q => absurd q (by decide)) (fun _ => zp2_ifl (fun q => absurd q (by decide)) (fun _ => zp2_ifl (fun _ => zp2_ifr (fun q => absurd q (by decide)) (fun _ => zp2_ifr (fun q => absurd q (by decide)) (fun _ => zp2_ifr (fun q => absurd q (by decide)) (fun _ => zp2_ifr (fun _ => zp2_bilp (t_edfar hI h hF hy) (fun s v b q => zp2_some q)) (fun q => absurd rfl q))))) (fun q => absurd rfl q))))
  rcases zr_hd (c := 4) hz rfl with e | hz
  · subst e
    exact zp2_ifl (fun q => absurd q (by decide)) (fun _ => zp2_ifl (fun q => absurd q (by decide)) (fun _ => zp2_ifl (fun q => absurd q (by decide)) (fun _ => zp2_ifl (fun q => absurd q (by decide)) (fun _ => zp2_ifl (fun _ => zp2_ifr (fun q => absurd q (by decide)) (fun _ => zp2_ifr (fun q => absurd q (by decide)) (fun _ => zp2_ifr (fun q => absurd q (by decide)) (fun _ => zp2_ifr (fun q => absurd q (by decide)) (fun _ => zp2_ifr (fun _ => t_neg hI h hF hW) (fun q => absurd rfl q)))))) (fun q => absurd rfl q)))))
  rcases zr_hd (c := 5) hz rfl with e | hz
  · subst e
    exact zp2_ifl (fun q => absurd q (by decide)) (fun _ => zp2_ifl (fun q => absurd q (by decide)) (fun _ => zp2_ifl (fun q => absurd q (by decide)) (fun _ => zp2_ifl (fun q => absurd q (by decide)) (fun _ => zp2_ifl (fun q => absurd q (by decide)) (fun _ => zp2_ifl (fun _ => zp2_ifr (fun q => absurd q (by decide)) (fun _ => zp2_ifr (fun q => absurd q (by decide)) (fun _ => zp2_ifr (fun q => absurd q (by decide)) (fun _ => zp2_ifr (fun q => absurd q (by decide)) (fun _ => zp2_ifr (fun q => absurd q (by decide)) (fun _ => zp2_ifr (fun _ => t_retn hI h hF) (fun q => absurd rfl q))))))) (fun q => absurd rfl q))))))
  rcases zr_hd (c := 6) hz rfl with e | hz
  · subst e
    exact zp2_ifl (fun q => absurd q (by decide)) (fun _ => zp2_ifl (fun q => absurd q (by decide)) (fun _ => zp2_ifl (fun q => absurd q (by decide)) (fun _ => zp2_ifl (fun q => absurd q (by decide)) (fun _ => zp2_ifl (fun q => absurd q (by decide)) (fun _ => zp2_ifl (fun q => absurd q (by decide)) (fun _ => zp2_ifl (fun _ => zp2_ifr (fun q => absurd q (by decide)) (fun _ => zp2_ifr (fun q => absurd q (by decide)) (fun _ => zp2_ifr (fun q => absurd q (by decide)) (fun _ => zp2_ifr (fun q => absurd q (by decide)) (fun _ => zp2_ifr (fun q => absurd q (by decide)) (fun _ => zp2_ifr (fun q => absurd q (by decide)) (fun _ => zp2_ifr (fun _ => t_im hI h hF hW hy) (fun q => absurd rfl q)))))))) (fun q => absurd rfl q)))))))
  rcases zr_hd (c := 7) hz rfl with e | hz
  · subst e
    exact zp2_ifl (fun q => absurd q (by decide)) (fun _ => zp2_ifl (fun q => absurd q (by decide)) (fun _ => zp2_ifl (fun q => absurd q (by decide)) (fun _ => zp2_ifl (fun q => absurd q (by decide)) (fun _ => zp2_ifl (fun q => absurd q (by decide)) (fun _ => zp2_ifl (fun q => absurd q (by decide)) (fun _ => zp2_ifl (fun q => absurd q (by decide)) (fun _ => zp2_ifr (fun q => absurd q (by decide)) (fun _ => zp2_ifr (fun q => absurd q (by decide)) (fun _ => zp2_ifr (fun q => absurd q (by decide)) (fun _ => zp2_ifr (fun q => absurd q (by decide)) (fun _ => zp2_ifr (fun q => absurd q (by decide)) (fun _ => zp2_ifr (fun q => absurd q (by decide)) (fun _ => zp2_ifr (fun q => absurd q (by decide)) (fun _ => zp2_bii (t_spec hI h hF hW hy) (fun s v t w q => zp2_some q)))))))))))))))
  exact zr_no9 hz (by decide)
end ZSP
