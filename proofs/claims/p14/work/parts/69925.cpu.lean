/-! DO WITH A -/
theorem v_sum {a b c : Int32} (ha : zr 0 255 a) (hb : zr 0 255 b) (hc : zr 0 1 c) : zfl (d7 (((a + b) + c) &&& 255)) (d6 (((a + b) + c) &&& 255)) (d5 (((a + b) + c) &&& 255)) (bc (hA a b c)) (d3 (((a + b) + c) &&& 255)) (bc (oX ((sg a + sg b) + c))) false (bc (cX ((a + b) + c))) = csum a b c := by
  have r : zr 0 511 ((a + b) + c) := zr_add (lo := 0) (hi := 511) (zr_add (lo := 0) (hi := 510) ha hb (by decide)) hc (by decide)
  have e8 : ((a + b) + c) >>> ((8 : Int32) &&& 31) = bif bc (cX ((a + b) + c)) then 1 else 0 := by
    obtain ⟨r0, r1⟩ := r
    obtain ⟨i, hi⟩ : ∃ i : Nat, ((a + b) + c).toInt = i := ⟨((a + b) + c).toInt.toNat, by omega⟩
    rw [z_ofN hi]
    exact v_cAf ⟨i, by omega⟩
  unfold csum
  rw [v_sumB, v_hA hc, v_oA ha hb hc, e8, v_cby (z_byte _)]
theorem v_dif {a b c : Int32} (ha : zr 0 255 a) (hb : zr 0 255 b) (hc : zr 0 1 c) : zfl (d7 (((a - b) - c) &&& 255)) (d6 (((a - b) - c) &&& 255)) (d5 (((a - b) - c) &&& 255)) (bc (hS a b c)) (d3 (((a - b) - c) &&& 255)) (bc (oX ((sg a - sg b) - c))) true (bc (cX ((a - b) - c))) = cdif a b c := by
  have r : zr (-256) 255 ((a - b) - c) := zr_sub (lo := -256) (hi := 255) (zr_sub (lo := -255) (hi := 255) ha hb (by decide)) hc (by decide)
  unfold cdif
  rw [v_difB, v_hS hc, v_oS ha hb hc, v_cS r, v_cby (z_byte _)]
theorem v_40 : ∀ i : Fin 256, Int32.ofNat i.val &&& 40 = (bif d5 (Int32.ofNat i.val) then 32 else 0) ||| (bif d3 (Int32.ofNat i.val) then 8 else 0) := by decide +kernel
theorem v_41 : ∀ b7 b6 b5 b4 b3 b2 b1 b0 x y : Bool, ((zfl b7 b6 b5 b4 b3 b2 b1 b0) &&& (-41)) ||| ((bif x then 32 else 0) ||| (bif y then 8 else 0)) = zfl b7 b6 x b4 y b2 b1 b0 := by decide
theorem v_cp {b7 b6 b5 b4 b3 b2 b1 b0 : Bool} {b : Int32} (hb : zr 0 255 b) : ((zfl b7 b6 b5 b4 b3 b2 b1 b0) &&& (-41)) ||| (b &&& 40) = zfl b7 b6 (d5 b) b4 (d3 b) b2 b1 b0 := by
  obtain ⟨i, ei⟩ := z_byteF hb
  subst ei
  rw [v_40 i]
  exact v_41 _ _ _ _ _ _ _ _ _ _
/-- and, or, xor: parity on both sides -/
theorem v_lgf : ∀ i : Fin 256, ∀ h : Bool, zfl (d7 (Int32.ofNat i.val)) (d6 (Int32.ofNat i.val)) (d5 (Int32.ofNat i.val)) h (d3 (Int32.ofNat i.val)) (bc (gev (Int32.ofNat i.val))) false false = (cby (Int32.ofNat i.val) ||| cpar (Int32.ofNat i.val)) ||| (bif h then 16 else 0) := by decide +kernel
theorem v_lg {w : Int32} (hw : zr 0 255 w) (h : Bool) : zfl (d7 w) (d6 w) (d5 w) h (d3 w) (bc (gev w)) false false = (cby w ||| cpar w) ||| (bif h then 16 else 0) := by
  obtain ⟨i, ei⟩ := z_byteF hw
  subst ei
  exact v_lgf i h
theorem v_c0 : ∀ i : Fin 256, ((Int32.ofNat i.val) >>> ((0 : Int32) &&& 31)) &&& 1 = Int32.ofNat i.val &&& 1 := by decide +kernel
theorem z_c0 {f : Int32} (h : zr 0 255 f) : (f >>> ((0 : Int32) &&& 31)) &&& 1 = f &&& 1 := by
  obtain ⟨i, ei⟩ := z_byteF h
  subst ei
  exact v_c0 i
theorem z_r1 (x : Int32) : zr 0 1 (x &&& 1) := zr_andr (lo := 0) (hi := 1) (zr_c (lo := 1) (hi := 1) (by decide)) (by decide)
theorem z_xb {a b : Int32} (ha : zr 0 255 a) (hb : zr 0 255 b) : zr 0 255 (a ^^^ b) := by
  have e : a ^^^ b = (a ^^^ b) &&& 255 := by
    rw [z_xad, z_m255 ha, z_m255 hb]
  rw [e]
  exact z_r8 _
theorem z_ob {a b : Int32} (ha : zr 0 255 a) (hb : zr 0 255 b) : zr 0 255 (a ||| b) := zr_or (lo := 0) (hi := 255) 8 ha hb (by decide)
theorem z_ab {a b : Int32} (hb : zr 0 255 b) : zr 0 255 (a &&& b) := zr_andr (lo := 0) (hi := 255) hb (by decide)
theorem csum_r {a b c : Int32} (ha : zr 0 255 a) (hb : zr 0 255 b) (hc : zr 0 1 c) : zr 0 255 (csum a b c) := by rw [← v_sum ha hb hc]; exact zfl_r _ _ _ _ _ _ _ _
theorem cdif_r {a b c : Int32} (ha : zr 0 255 a) (hb : zr 0 255 b) (hc : zr 0 1 c) : zr 0 255 (cdif a b c) := by rw [← v_dif ha hb hc]; exact zfl_r _ _ _ _ _ _ _ _
section ZDO
variable {I : zSt → zSt → Prop} {σ μ : zSt}
theorem t_do (hI : zIoK I) (h : zTT I σ μ) (hF : zF σ μ) {y b : Int32} (hy : zr 0 7 y) (hb : zr 0 255 b) : zp2 (fX5_doWith σ y b) (fX12_does μ y b) (fun r r' => zTT I r r' ∧ zF r r' ∧ zQ [] [(36, 0, 1)] [] [] σ r ∧ zQ [] [(3, 0, 1)] [] [] μ r') := by
  have ea : μ.1 3 0 = σ.1 36 0 := h.eq (by decide)
  have ef : μ.1 3 1 = σ.1 36 1 := hF
  have ha : zr 0 255 (σ.1 36 0) := h.b (by decide)
  have hf : zr 0 255 (σ.1 36 1) := h.b (by decide)
  have c0 : zr 0 1 (0 : Int32) := zr_c (by decide)
  -- the end: both states given
  have fin : ∀ (A F A' F' : Int32), A' = A → F' = F → zr 0 255 A → zr 0 255 F → ∀ s t, s = zsi (zsi σ 36 1 F) 36 0 A → t = zsi (zsi μ 3 1 F') 3 0 A' → zTT I s t ∧ zF s t ∧ zQ [] [(36, 0, 1)] [] [] σ s ∧ zQ [] [(3, 0, 1)] [] [] μ t := fun A F A' F' e1 e2 r1 r2 s t es et => by
    subst es
    subst et
    subst e1
    subst e2
    exact ⟨h.upd hI [0, 1] (zQ.wi (zQ.wi zQ.rf rfl) rfl) (zQ.wi (zQ.wi zQ.rf rfl) rfl) rfl (zAl2 ⟨rfl, zrg_b (Or.inl (by decide)) r1⟩ ⟨rfl, zrg_b (Or.inl (by decide)) r2⟩), rfl, zQ.wi (zQ.wi zQ.rf rfl) rfl, zQ.wi (zQ.wi zQ.rf rfl) rfl⟩
  unfold fX5_doWith fX12_does fX5_doWith_292
  refine zp2_ckr (zp2_bvr (fun a' ea' => ?_))
  have ea' : a' = σ.1 36 0 := ea'.trans ea
  subst ea'

  rcases zr_hd (c := 0) hy rfl with e | hy
  · subst e
    have m : zpc (fX12_does_101 μ 0 b (σ.1 36 0)) (fun r => r = zsi (zsi μ 3 1 (mF (μ.1 3 1) (hA (σ.1 36 0) b 0) (cX ((σ.1 36 0 + b) + 0)) (((σ.1 36 0 + b) + 0) &&& 255) (oX ((sg (σ.1 36 0) + sg b) + 0)) 0)) 3 0 (((σ.1 36 0 + b) + 0) &&& 255)) := by
      unfold fX12_does_101 fX12_does_111 fX12_does_120 fX12_does_132
      refine zpc_if (fun q => absurd q (by decide)) (fun _ => zpc_if (fun q => absurd q (by decide)) (fun _ => zpc_if (fun q => absurd q (by decide)) (fun _ => zpc_if (fun q => absurd q (by decide)) (fun _ => p_addM (by decide)))))
    have c : zpc (fX5_sum σ (zgi σ 36 (0 : Int32).toNatClampNeg) b 0) (fun r => r = (zsi σ 36 1 (csum (σ.1 36 0) b 0), ((σ.1 36 0 + b) + 0) &&& 255)) := p_sumC
    refine zp2_ifl (fun _ => zp2_ckl (zp2_bil c (fun s1 v1 e1 => ?_))) (fun q => absurd rfl q)
    cases e1
    refine zp2_ifr (fun _ => ?_) (fun q => absurd (by decide) q)
    intro r r' er er'
    have er : some (zsi (zsi σ 36 1 (csum (σ.1 36 0) b 0)) 36 0 (((σ.1 36 0 + b) + 0) &&& 255)) = some r := er
    cases er
    refine fin _ _ _ _ rfl ?_ (z_r8 _) (csum_r ha hb c0) _ _ rfl (m _ er')
    rw [ef, fl_mF hf, ← v_sum ha hb c0]
    rfl
  rcases zr_hd (c := 1) hy rfl with e | hy
  · subst e
    have m : zpc (fX12_does_101 μ 1 b (σ.1 36 0)) (fun r => r = zsi (zsi μ 3 1 (mF (μ.1 3 1) (hA (σ.1 36 0) b (σ.1 36 1 &&& 1)) (cX ((σ.1 36 0 + b) + (σ.1 36 1 &&& 1))) (((σ.1 36 0 + b) + (σ.1 36 1 &&& 1)) &&& 255) (oX ((sg (σ.1 36 0) + sg b) + (σ.1 36 1 &&& 1))) 0)) 3 0 (((σ.1 36 0 + b) + (σ.1 36 1 &&& 1)) &&& 255)) := by
      unfold fX12_does_101 fX12_does_111 fX12_does_120 fX12_does_132
      refine zpc_if (fun _ => zpc_bi p_flag (fun t u et => ?_)) (fun q => absurd rfl q)
      cases et
      refine zpc_if (fun q => absurd q (by decide)) (fun _ => zpc_if (fun q => absurd q (by decide)) (fun _ => ?_))
      rw [ef, z_c0 hf, ← ef]
      have g := p_addM (μ := μ) (a := σ.1 36 0) (b := b) (c := μ.1 3 1 &&& 1) (y := 1) (by decide)
      rw [ef] at g ⊢
      exact g
    have c : zpc (fX5_sum σ (zgi σ 36 (0 : Int32).toNatClampNeg) b ((zgi σ 36 (1 : Int32).toNatClampNeg) &&& 1)) (fun r => r = (zsi σ 36 1 (csum (σ.1 36 0) b (σ.1 36 1 &&& 1)), ((σ.1 36 0 + b) + (σ.1 36 1 &&& 1)) &&& 255)) := p_sumC
    refine zp2_ifl (fun q => absurd q (by decide)) (fun _ => zp2_ifl (fun _ => zp2_ckl (zp2_ckl (zp2_bil c (fun s1 v1 e1 => ?_)))) (fun q => absurd rfl q))
    cases e1
    refine zp2_ifr (fun _ => ?_) (fun q => absurd (by decide) q)
    intro r r' er er'
    have er : some (zsi (zsi σ 36 1 (csum (σ.1 36 0) b (σ.1 36 1 &&& 1))) 36 0 (((σ.1 36 0 + b) + (σ.1 36 1 &&& 1)) &&& 255)) = some r := er
    cases er
    refine fin _ _ _ _ rfl ?_ (z_r8 _) (csum_r ha hb (z_r1 _)) _ _ rfl (m _ er')
    rw [ef, fl_mF hf, ← v_sum ha hb (z_r1 _)]
    rfl
  rcases zr_hd (c := 2) hy rfl with e | hy
  · subst e
    have m : zpc (fX12_does_101 μ 2 b (σ.1 36 0)) (fun r => r = zsi (zsi μ 3 1 (mF (μ.1 3 1) (hS (σ.1 36 0) b 0) (cX ((σ.1 36 0 - b) - 0)) (((σ.1 36 0 - b) - 0) &&& 255) (oX ((sg (σ.1 36 0) - sg b) - 0)) 1)) 3 0 (((σ.1 36 0 - b) - 0) &&& 255)) := by
      unfold fX12_does_101 fX12_does_111 fX12_does_120 fX12_does_132
      refine zpc_if (fun q => absurd q (by decide)) (fun _ => zpc_if (fun q => absurd q (by decide)) (fun _ => zpc_if (fun _ => zpc_if (fun _ => p_subM (by decide)) (fun q => absurd rfl q)) (fun q => absurd (by decide) q)))
    have c : zpc (fX5_difference σ (zgi σ 36 (0 : Int32).toNatClampNeg) b 0) (fun r => r = (zsi σ 36 1 (cdif (σ.1 36 0) b 0), ((σ.1 36 0 - b) - 0) &&& 255)) := p_difC
    refine zp2_ifl (fun q => absurd q (by decide)) (fun _ => zp2_ifl (fun q => absurd q (by decide)) (fun _ => zp2_ifl (fun _ => zp2_ckl (zp2_bil c (fun s1 v1 e1 => ?_))) (fun q => absurd rfl q)))
    cases e1
    refine zp2_ifr (fun _ => ?_) (fun q => absurd (by decide) q)
    intro r r' er er'
    have er : some (zsi (zsi σ 36 1 (cdif (σ.1 36 0) b 0)) 36 0 (((σ.1 36 0 - b) - 0) &&& 255)) = some r := er
    cases er
    refine fin _ _ _ _ rfl ?_ (z_r8 _) (cdif_r ha hb c0) _ _ rfl (m _ er')
    rw [ef, fl_mF hf, ← v_dif ha hb c0]
    rfl
  rcases zr_hd (c := 3) hy rfl with e | hy
  · subst e
    have m : zpc (fX12_does_101 μ 3 b (σ.1 36 0)) (fun r => r = zsi (zsi μ 3 1 (mF (μ.1 3 1) (hS (σ.1 36 0) b (σ.1 36 1 &&& 1)) (cX ((σ.1 36 0 - b) - (σ.1 36 1 &&& 1))) (((σ.1 36 0 - b) - (σ.1 36 1 &&& 1)) &&& 255) (oX ((sg (σ.1 36 0) - sg b) - (σ.1 36 1 &&& 1))) 1)) 3 0 (((σ.1 36 0 - b) - (σ.1 36 1 &&& 1)) &&& 255)) := by
      unfold fX12_does_101 fX12_does_111 fX12_does_120 fX12_does_132
      refine zpc_if (fun q => absurd q (by decide)) (fun _ => zpc_if (fun _ => zpc_bi p_flag (fun t u et => ?_)) (fun q => absurd rfl q))
      cases et
      refine zpc_if (fun _ => zpc_if (fun _ => ?_) (fun q => absurd rfl q)) (fun q => absurd (by decide) q)
      rw [ef, z_c0 hf, ← ef]
      have g := p_subM (μ := μ) (a := σ.1 36 0) (b := b) (c := μ.1 3 1 &&& 1) (y := 3) (by decide)
      rw [ef] at g ⊢
      exact g
    have c : zpc (fX5_difference σ (zgi σ 36 (0 : Int32).toNatClampNeg) b ((zgi σ 36 (1 : Int32).toNatClampNeg) &&& 1)) (fun r => r = (zsi σ 36 1 (cdif (σ.1 36 0) b (σ.1 36 1 &&& 1)), ((σ.1 36 0 - b) - (σ.1 36 1 &&& 1)) &&& 255)) := p_difC
    refine zp2_ifl (fun q => absurd q (by decide)) (fun _ => zp2_ifl (fun q => absurd q (by decide)) (fun _ => zp2_ifl (fun q => absurd q (by decide)) (fun _ => zp2_ifl (fun _ => zp2_ckl (zp2_ckl (zp2_bil c (fun s1 v1 e1 => ?_)))) (fun q => absurd rfl q))))
    cases e1
    refine zp2_ifr (fun _ => ?_) (fun q => absurd (by decide) q)
    intro r r' er er'
    have er : some (zsi (zsi σ 36 1 (cdif (σ.1 36 0) b (σ.1 36 1 &&& 1))) 36 0 (((σ.1 36 0 - b) - (σ.1 36 1 &&& 1)) &&& 255)) = some r := er
    cases er
    refine fin _ _ _ _ rfl ?_ (z_r8 _) (cdif_r ha hb (z_r1 _)) _ _ rfl (m _ er')
    rw [ef, fl_mF hf, ← v_dif ha hb (z_r1 _)]
    rfl
  rcases zr_hd (c := 4) hy rfl with e | hy
  · subst e
    have rA : zr 0 255 (σ.1 36 0 &&& b) := z_ab hb
    refine zp2_ifl (fun q => absurd q (by decide)) (fun _ => zp2_ifl (fun q => absurd q (by decide)) (fun _ => zp2_ifl (fun q => absurd q (by decide)) (fun _ => zp2_ifl (fun q => absurd q (by decide)) (fun _ => zp2_ifl (fun _ => zp2_ckl (zp2_ckl (zp2_bvl (fun s1 f1 => zp2_ckl (zp2_bil p_byC (fun s2 v2 e2 => ?_)))))) (fun q => absurd rfl q)))))
    cases e2
    refine zp2_ckl (zp2_bil p_parC (fun s3 v3 e3 => ?_))
    cases e3
    have g1 : zgi s1 36 (0 : Int32).toNatClampNeg = (σ.1 36 0 &&& b) := by subst f1; rfl
    rw [g1]
    refine zp2_ckl (zp2_bvl (fun s4 f4 => ?_))
    refine zp2_ifr (fun q => absurd q (by decide)) (fun _ => zp2_ifr (fun q => absurd q (by decide)) (fun _ => zp2_ifr (fun _ => ?_) (fun q => absurd rfl q)))
    intro r r' er er'
    cases er
    have em := p_logM (μ := μ) (y := 4) (A := (σ.1 36 0 &&& b)) (Or.inl rfl) _ er'
    have es : s4 = zsi (zsi σ 36 1 ((cby (σ.1 36 0 &&& b) ||| cpar (σ.1 36 0 &&& b)) ||| 16)) 36 0 (σ.1 36 0 &&& b) := by
      rw [f4, f1]
      exact zsi_comm (by decide)
    have em2 : r' = zsi (zsi μ 3 1 (pt (pt (pt (pt (gby (μ.1 3 1) (σ.1 36 0 &&& b)) 4 (if (4 : Int32) = 4 then 1 else 0)) 2 (gev (σ.1 36 0 &&& b))) 1 0) 0 0)) 3 0 (σ.1 36 0 &&& b) := by
      rw [em]
      exact zsi_comm (by decide)
    refine fin _ _ _ _ rfl ?_ rA ?_ _ _ es em2
    · rw [ef, fl_of hf, fl_by, pt_4, pt_2, pt_1, pt_0]
      refine Eq.trans ?_ ((v_lg rA true).trans ?_)
      · rfl
      · rfl
    · rw [show (cby (σ.1 36 0 &&& b) ||| cpar (σ.1 36 0 &&& b)) ||| 16 = (cby (σ.1 36 0 &&& b) ||| cpar (σ.1 36 0 &&& b)) ||| (bif true then 16 else 0) from rfl, ← v_lg rA true]
      exact zfl_r _ _ _ _ _ _ _ _
  rcases zr_hd (c := 5) hy rfl with e | hy
  · subst e
    have rA : zr 0 255 (σ.1 36 0 ^^^ b) := z_xb ha hb
    refine zp2_ifl (fun q => absurd q (by decide)) (fun _ => zp2_ifl (fun q => absurd q (by decide)) (fun _ => zp2_ifl (fun q => absurd q (by decide)) (fun _ => zp2_ifl (fun q => absurd q (by decide)) (fun _ => zp2_ifl (fun q => absurd q (by decide)) (fun _ => zp2_ifl (fun _ => zp2_ckl (zp2_ckl (zp2_bvl (fun s1 f1 => zp2_ckl (zp2_bil p_byC (fun s2 v2 e2 => ?_)))))) (fun q => absurd rfl q))))))
    cases e2
    refine zp2_ckl (zp2_bil p_parC (fun s3 v3 e3 => ?_))
    cases e3
    have g1 : zgi s1 36 (0 : Int32).toNatClampNeg = (σ.1 36 0 ^^^ b) := by subst f1; rfl
    rw [g1]
    refine zp2_ckl (zp2_bvl (fun s4 f4 => ?_))
    refine zp2_ifr (fun q => absurd q (by decide)) (fun _ => zp2_ifr (fun q => absurd q (by decide)) (fun _ => zp2_ifr (fun q => absurd q (by decide)) (fun _ => zp2_ifr (fun _ => ?_) (fun q => absurd rfl q))))
    intro r r' er er'
    cases er
    have em := p_logM (μ := μ) (y := 5) (A := (σ.1 36 0 ^^^ b)) (Or.inr (by decide)) _ er'
    have es : s4 = zsi (zsi σ 36 1 (cby (σ.1 36 0 ^^^ b) ||| cpar (σ.1 36 0 ^^^ b))) 36 0 (σ.1 36 0 ^^^ b) := by
      rw [f4, f1]
      exact zsi_comm (by decide)
    have em2 : r' = zsi (zsi μ 3 1 (pt (pt (pt (pt (gby (μ.1 3 1) (σ.1 36 0 ^^^ b)) 4 (if (5 : Int32) = 4 then 1 else 0)) 2 (gev (σ.1 36 0 ^^^ b))) 1 0) 0 0)) 3 0 (σ.1 36 0 ^^^ b) := by
      rw [em]
      exact zsi_comm (by decide)
    refine fin _ _ _ _ rfl ?_ rA ?_ _ _ es em2
    · rw [ef, fl_of hf, fl_by, pt_4, pt_2, pt_1, pt_0]
      refine Eq.trans ?_ ((v_lg rA false).trans ?_)
      · rfl
      · exact Int32.or_zero
    · rw [show cby (σ.1 36 0 ^^^ b) ||| cpar (σ.1 36 0 ^^^ b) = (cby (σ.1 36 0 ^^^ b) ||| cpar (σ.1 36 0 ^^^ b)) ||| (bif false then 16 else 0) from Int32.or_zero.symm, ← v_lg rA false]
      exact zfl_r _ _ _ _ _ _ _ _
  rcases zr_hd (c := 6) hy rfl with e | hy
  · subst e
    have rA : zr 0 255 (σ.1 36 0 ||| b) := z_ob ha hb
    refine zp2_ifl (fun q => absurd q (by decide)) (fun _ => zp2_ifl (fun q => absurd q (by decide)) (fun _ => zp2_ifl (fun q => absurd q (by decide)) (fun _ => zp2_ifl (fun q => absurd q (by decide)) (fun _ => zp2_ifl (fun q => absurd q (by decide)) (fun _ => zp2_ifl (fun q => absurd q (by decide)) (fun _ => zp2_ifl (fun _ => zp2_ckl (zp2_ckl (zp2_bvl (fun s1 f1 => zp2_ckl (zp2_bil p_byC (fun s2 v2 e2 => ?_)))))) (fun q => absurd rfl q)))))))
    cases e2
    refine zp2_ckl (zp2_bil p_parC (fun s3 v3 e3 => ?_))
    cases e3
    have g1 : zgi s1 36 (0 : Int32).toNatClampNeg = (σ.1 36 0 ||| b) := by subst f1; rfl
    rw [g1]
    refine zp2_ckl (zp2_bvl (fun s4 f4 => ?_))
    refine zp2_ifr (fun q => absurd q (by decide)) (fun _ => zp2_ifr (fun q => absurd q (by decide)) (fun _ => zp2_ifr (fun q => absurd q (by decide)) (fun _ => zp2_ifr (fun q => absurd q (by decide)) (fun _ => ?_))))
    intro r r' er er'
    cases er
    have em := p_logM (μ := μ) (y := 6) (A := (σ.1 36 0 ||| b)) (Or.inr (by decide)) _ er'
    have es : s4 = zsi (zsi σ 36 1 (cby (σ.1 36 0 ||| b) ||| cpar (σ.1 36 0 ||| b))) 36 0 (σ.1 36 0 ||| b) := by
      rw [f4, f1]
      exact zsi_comm (by decide)
    have em2 : r' = zsi (zsi μ 3 1 (pt (pt (pt (pt (gby (μ.1 3 1) (σ.1 36 0 ||| b)) 4 (if (6 : Int32) = 4 then 1 else 0)) 2 (gev (σ.1 36 0 ||| b))) 1 0) 0 0)) 3 0 (σ.1 36 0 ||| b) := by
      rw [em]
      exact zsi_comm (by decide)
    refine fin _ _ _ _ rfl ?_ rA ?_ _ _ es em2
    · rw [ef, fl_of hf, fl_by, pt_4, pt_2, pt_1, pt_0]
      refine Eq.trans ?_ ((v_lg rA false).trans ?_)
      · rfl
      · exact Int32.or_zero
    · rw [show cby (σ.1 36 0 ||| b) ||| cpar (σ.1 36 0 ||| b) = (cby (σ.1 36 0 ||| b) ||| cpar (σ.1 36 0 ||| b)) ||| (bif false then 16 else 0) from Int32.or_zero.symm, ← v_lg rA false]
      exact zfl_r _ _ _ _ _ _ _ _
  rcases zr_hd (c := 7) hy rfl with e | hy
  · subst e
    have m : zpc (fX12_does_101 μ 7 b (σ.1 36 0)) (fun r => r = zsi μ 3 1 (gxy (mF (μ.1 3 1) (hS (σ.1 36 0) b 0) (cX ((σ.1 36 0 - b) - 0)) (((σ.1 36 0 - b) - 0) &&& 255) (oX ((sg (σ.1 36 0) - sg b) - 0)) 1) b)) := by
      unfold fX12_does_101 fX12_does_111 fX12_does_120 fX12_does_132
      refine zpc_if (fun q => absurd q (by decide)) (fun _ => zpc_if (fun q => absurd q (by decide)) (fun _ => zpc_if (fun _ => zpc_if (fun _ => p_subM7 rfl) (fun q => absurd rfl q)) (fun q => absurd (by decide) q)))
    have c : zpc (fX5_difference σ (zgi σ 36 (0 : Int32).toNatClampNeg) b 0) (fun r => r = (zsi σ 36 1 (cdif (σ.1 36 0) b 0), ((σ.1 36 0 - b) - 0) &&& 255)) := p_difC
    refine zp2_ifl (fun q => absurd q (by decide)) (fun _ => zp2_ifl (fun q => absurd q (by decide)) (fun _ => zp2_ifl (fun q => absurd q (by decide)) (fun _ => zp2_ifl (fun q => absurd q (by decide)) (fun _ => zp2_ifl (fun q => absurd q (by decide)) (fun _ => zp2_ifl (fun q => absurd q (by decide)) (fun _ => zp2_ifl (fun q => absurd q (by decide)) (fun _ => zp2_ckl (zp2_bil c (fun s1 v1 e1 => ?_)))))))))
    cases e1
    refine zp2_ifr (fun q => absurd q (by decide)) (fun _ => zp2_ifr (fun _ => ?_) (fun q => absurd (by decide) q))
    intro r r' er er'
    have er : some (zsi (zsi σ 36 1 (cdif (σ.1 36 0) b 0)) 36 1 ((cdif (σ.1 36 0) b 0 &&& (-41)) ||| (b &&& 40))) = some r := er
    have em := m _ er'
    cases er
    rw [em, zsi_ow]
    have e : gxy (mF (μ.1 3 1) (hS (σ.1 36 0) b 0) (cX ((σ.1 36 0 - b) - 0)) (((σ.1 36 0 - b) - 0) &&& 255) (oX ((sg (σ.1 36 0) - sg b) - 0)) 1) b = (cdif (σ.1 36 0) b 0 &&& (-41)) ||| (b &&& 40) := by
      rw [ef, fl_mF hf, fl_xy, ← v_dif ha hb c0, v_cp hb]
      rfl
    rw [e]
    refine ⟨h.upd hI [1] (zQ.wi zQ.rf rfl) (zQ.wi zQ.rf rfl) rfl (zAl1 ⟨rfl, zrg_b (Or.inl (by decide)) ?_⟩), rfl, zQ.wi zQ.rf rfl, zQ.wi zQ.rf rfl⟩
    show zr 0 255 ((cdif (σ.1 36 0) b 0 &&& (-41)) ||| (b &&& 40))
    rw [← v_dif ha hb c0, v_cp hb]
    exact zfl_r _ _ _ _ _ _ _ _
  exact zr_no9 hy (by decide)
end ZDO
