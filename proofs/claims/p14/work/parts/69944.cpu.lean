/-! PREFIXES, WHOLE -/
section ZPW
variable {I : zSt → zSt → Prop} {σ μ : zSt}
theorem t_putOneN (hI : zIoK I) (h : zTT I σ μ) {k v w : Int32} (hk6 : ¬ k = 6) (hk : zr 0 7 k) (e : w &&& 255 = v) (hv : zr 0 255 v) : zp2 (fX5_putOne σ k v) (fX12_rTo μ k w) (fun r r' => zTT I r r' ∧ zQ [15, 17, 19] [(36, 0, 0), (36, 2, 7), (36, 16, 17)] [] [] σ r ∧ zQ [5, 6] [(3, 0, 0), (3, 2, 7), (3, 16, 17), (3, 29, 32)] [] [] μ r') := by
  unfold fX5_putOne fX12_rTo fX5_putOne_88 fX12_rTo_113 fX12_rTo_104 fX12_rTo_100 fX5_putPairHalf fX5_putPairHalf_68 fX5_putPairHalf_69
  refine zp2_bvr (fun y ey => ?_)
  have ey : y = v := ey.trans e
  subst ey
  rcases zr_hd (c := 0) hk rfl with e1 | hk
  · subst e1
    have fin : zp2 (zck (zin (2 + (0 &&& 3)) 29) (zbv (zsi σ 36 ((2 + (0 &&& 3) : Int32).toNatClampNeg) y) (fun σ5 => some σ5))) (zck (zin (2 + 0) 1048) (zbv (zsi μ 3 ((2 + 0 : Int32).toNatClampNeg) y) (fun σ1 => some σ1))) (fun r r' => zTT I r r' ∧ zQ [15, 17, 19] [(36, 0, 0), (36, 2, 7), (36, 16, 17)] [] [] σ r ∧ zQ [5, 6] [(3, 0, 0), (3, 2, 7), (3, 16, 17), (3, 29, 32)] [] [] μ r') := by
      refine zp2_ckl (zp2_bvl (fun s f => zp2_ckr (zp2_bvr (fun t g => zp2_some ?_))))
      subst f
      subst g
      exact ⟨h.upd hI [2] (zQ.wi zQ.rf rfl) (zQ.wi zQ.rf rfl) rfl (zAl1 ⟨rfl, zrg_b (Or.inl (by decide)) hv⟩), zQ.wi zQ.rf rfl, zQ.wi zQ.rf rfl⟩
    exact zp2_ifl (fun q => absurd q (by decide)) (fun _ => zp2_ifl (fun q => absurd q (by decide)) (fun _ => zp2_ifl (fun q => absurd q (by decide)) (fun _ => zp2_ifl (fun q => absurd q (by decide)) (fun _ => zp2_ifr (fun q => absurd q (by decide)) (fun _ => zp2_ifr (fun q => absurd q (by decide)) (fun _ => zp2_ifr (fun _ => fin) (fun _ => zp2_ifr (fun _ => fin) (fun q => absurd (by decide) q))))))))
  rcases zr_hd (c := 1) hk rfl with e1 | hk
  · subst e1
    have fin : zp2 (zck (zin (2 + (1 &&& 3)) 29) (zbv (zsi σ 36 ((2 + (1 &&& 3) : Int32).toNatClampNeg) y) (fun σ5 => some σ5))) (zck (zin (2 + 1) 1048) (zbv (zsi μ 3 ((2 + 1 : Int32).toNatClampNeg) y) (fun σ1 => some σ1))) (fun r r' => zTT I r r' ∧ zQ [15, 17, 19] [(36, 0, 0), (36, 2, 7), (36, 16, 17)] [] [] σ r ∧ zQ [5, 6] [(3, 0, 0), (3, 2, 7), (3, 16, 17), (3, 29, 32)] [] [] μ r') := by
      refine zp2_ckl (zp2_bvl (fun s f => zp2_ckr (zp2_bvr (fun t g => zp2_some ?_))))
      subst f
      subst g
      exact ⟨h.upd hI [3] (zQ.wi zQ.rf rfl) (zQ.wi zQ.rf rfl) rfl (zAl1 ⟨rfl, zrg_b (Or.inl (by decide)) hv⟩), zQ.wi zQ.rf rfl, zQ.wi zQ.rf rfl⟩
    exact zp2_ifl (fun q => absurd q (by decide)) (fun _ => zp2_ifl (fun q => absurd q (by decide)) (fun _ => zp2_ifl (fun q => absurd q (by decide)) (fun _ => zp2_ifl (fun q => absurd q (by decide)) (fun _ => zp2_ifr (fun q => absurd q (by decide)) (fun _ => zp2_ifr (fun q => absurd q (by decide)) (fun _ => zp2_ifr (fun _ => fin) (fun _ => zp2_ifr (fun _ => fin) (fun q => absurd (by decide) q))))))))
  rcases zr_hd (c := 2) hk rfl with e1 | hk
  · subst e1
    have fin : zp2 (zck (zin (2 + (2 &&& 3)) 29) (zbv (zsi σ 36 ((2 + (2 &&& 3) : Int32).toNatClampNeg) y) (fun σ5 => some σ5))) (zck (zin (2 + 2) 1048) (zbv (zsi μ 3 ((2 + 2 : Int32).toNatClampNeg) y) (fun σ1 => some σ1))) (fun r r' => zTT I r r' ∧ zQ [15, 17, 19] [(36, 0, 0), (36, 2, 7), (36, 16, 17)] [] [] σ r ∧ zQ [5, 6] [(3, 0, 0), (3, 2, 7), (3, 16, 17), (3, 29, 32)] [] [] μ r') := by
      refine zp2_ckl (zp2_bvl (fun s f => zp2_ckr (zp2_bvr (fun t g => zp2_some ?_))))
      subst f
      subst g
      exact ⟨h.upd hI [4] (zQ.wi zQ.rf rfl) (zQ.wi zQ.rf rfl) rfl (zAl1 ⟨rfl, zrg_b (Or.inl (by decide)) hv⟩), zQ.wi zQ.rf rfl, zQ.wi zQ.rf rfl⟩
    exact zp2_ifl (fun q => absurd q (by decide)) (fun _ => zp2_ifl (fun q => absurd q (by decide)) (fun _ => zp2_ifl (fun q => absurd q (by decide)) (fun _ => zp2_ifl (fun q => absurd q (by decide)) (fun _ => zp2_ifr (fun q => absurd q (by decide)) (fun _ => zp2_ifr (fun q => absurd q (by decide)) (fun _ => zp2_ifr (fun _ => fin) (fun _ => zp2_ifr (fun _ => fin) (fun q => absurd (by decide) q))))))))
  rcases zr_hd (c := 3) hk rfl with e1 | hk
  · subst e1
    have fin : zp2 (zck (zin (2 + (3 &&& 3)) 29) (zbv (zsi σ 36 ((2 + (3 &&& 3) : Int32).toNatClampNeg) y) (fun σ5 => some σ5))) (zck (zin (2 + 3) 1048) (zbv (zsi μ 3 ((2 + 3 : Int32).toNatClampNeg) y) (fun σ1 => some σ1))) (fun r r' => zTT I r r' ∧ zQ [15, 17, 19] [(36, 0, 0), (36, 2, 7), (36, 16, 17)] [] [] σ r ∧ zQ [5, 6] [(3, 0, 0), (3, 2, 7), (3, 16, 17), (3, 29, 32)] [] [] μ r') := by
      refine zp2_ckl (zp2_bvl (fun s f => zp2_ckr (zp2_bvr (fun t g => zp2_some ?_))))
      subst f
      subst g
      exact ⟨h.upd hI [5] (zQ.wi zQ.rf rfl) (zQ.wi zQ.rf rfl) rfl (zAl1 ⟨rfl, zrg_b (Or.inl (by decide)) hv⟩), zQ.wi zQ.rf rfl, zQ.wi zQ.rf rfl⟩
    exact zp2_ifl (fun q => absurd q (by decide)) (fun _ => zp2_ifl (fun q => absurd q (by decide)) (fun _ => zp2_ifl (fun q => absurd q (by decide)) (fun _ => zp2_ifl (fun q => absurd q (by decide)) (fun _ => zp2_ifr (fun q => absurd q (by decide)) (fun _ => zp2_ifr (fun q => absurd q (by decide)) (fun _ => zp2_ifr (fun _ => fin) (fun _ => zp2_ifr (fun _ => fin) (fun q => absurd (by decide) q))))))))
  rcases zr_hd (c := 4) hk rfl with e1 | hk
  · subst e1
    rcases h.2.2.1 with ⟨a, b⟩ | ⟨a, b⟩ | ⟨a, b⟩
    · refine zp2_ifl (fun _ => ?_) (fun q => absurd rfl q)
      rw [show zgi μ 0 31 = 0 from b]
      refine zp2_ifr (fun q => absurd q (by decide)) (fun _ => zp2_ifr (fun q => absurd q (by decide)) (fun _ => zp2_ifr (fun _ => ?_) (fun q => absurd (by decide) q)))
      refine zp2_bul (P := fun r => r = zsi σ 36 6 y) (zpc_if (fun _ => zpc_ck (zpc_bv (fun s f => zpc_some f))) (fun q => absurd a q)) (fun s f => zp2_ckr (zp2_bvr (fun t g => zp2_some ?_)))
      subst f
      subst g
      exact ⟨h.upd hI [6] (zQ.wi zQ.rf rfl) (zQ.wi zQ.rf rfl) rfl (zAl1 ⟨rfl, zrg_b (Or.inl (by decide)) hv⟩), zQ.wi zQ.rf rfl, zQ.wi zQ.rf rfl⟩
    · refine zp2_ifl (fun _ => ?_) (fun q => absurd rfl q)
      refine zp2_bul (P := fun r => r = zsi σ 36 16 ((y <<< ((8 : Int32) &&& 31)) ||| (σ.1 36 16 &&& 255))) ?_ (fun s f => ?_)
      · refine zpc_if (fun q => absurd (a.symm.trans q) (by decide)) (fun _ => zpc_if (fun _ => zpc_ck ?_) (fun q => absurd rfl q))
        rw [show zgi σ 7 4 = 16 from a]
        exact zpc_ck (zpc_bv (fun s f => zpc_some f))
      rw [show zgi μ 0 31 = 16 from b]
      refine zp2_ifr (fun q => absurd q (by decide)) (fun _ => zp2_ifr (fun q => absurd q (by decide)) (fun _ => zp2_ifr (fun q => absurd q (by decide)) (fun _ => zp2_ifr (fun q => absurd q (by decide)) (fun _ => zp2_ifr (fun _ => zp2_ckr ?_) (fun q => absurd rfl q)))))
      refine zp2_ckr (zp2_bvr (fun t g => zp2_some ?_))
      subst f
      subst g
      refine ⟨h.upd hI [16] (zQ.wi zQ.rf rfl) (zQ.wi zQ.rf rfl) rfl (zAl1 ⟨?_, zrg_w (by decide) (by decide) (z_rw' hv (z_r8 _))⟩), zQ.wi zQ.rf rfl, zQ.wi zQ.rf rfl⟩
      show (y <<< ((8 : Int32) &&& 31)) ||| (μ.1 3 16 &&& 255) = (y <<< ((8 : Int32) &&& 31)) ||| (σ.1 36 16 &&& 255)
      rw [h.eq (by decide)]
    · refine zp2_ifl (fun _ => ?_) (fun q => absurd rfl q)
      refine zp2_bul (P := fun r => r = zsi σ 36 17 ((y <<< ((8 : Int32) &&& 31)) ||| (σ.1 36 17 &&& 255))) ?_ (fun s f => ?_)
      · refine zpc_if (fun q => absurd (a.symm.trans q) (by decide)) (fun _ => zpc_if (fun _ => zpc_ck ?_) (fun q => absurd rfl q))
        rw [show zgi σ 7 4 = 17 from a]
        exact zpc_ck (zpc_bv (fun s f => zpc_some f))
      rw [show zgi μ 0 31 = 17 from b]
      refine zp2_ifr (fun q => absurd q (by decide)) (fun _ => zp2_ifr (fun q => absurd q (by decide)) (fun _ => zp2_ifr (fun q => absurd q (by decide)) (fun _ => zp2_ifr (fun q => absurd q (by decide)) (fun _ => zp2_ifr (fun _ => zp2_ckr ?_) (fun q => absurd rfl q)))))
      refine zp2_ckr (zp2_bvr (fun t g => zp2_some ?_))
      subst f
      subst g
      refine ⟨h.upd hI [17] (zQ.wi zQ.rf rfl) (zQ.wi zQ.rf rfl) rfl (zAl1 ⟨?_, zrg_w (by decide) (by decide) (z_rw' hv (z_r8 _))⟩), zQ.wi zQ.rf rfl, zQ.wi zQ.rf rfl⟩
      show (y <<< ((8 : Int32) &&& 31)) ||| (μ.1 3 17 &&& 255) = (y <<< ((8 : Int32) &&& 31)) ||| (σ.1 36 17 &&& 255)
      rw [h.eq (by decide)]
  rcases zr_hd (c := 5) hk rfl with e1 | hk
  · subst e1
    rcases h.2.2.1 with ⟨a, b⟩ | ⟨a, b⟩ | ⟨a, b⟩
    · refine zp2_ifl (fun q => absurd q (by decide)) (fun _ => zp2_ifl (fun _ => ?_) (fun q => absurd rfl q))
      rw [show zgi μ 0 31 = 0 from b]
      refine zp2_ifr (fun q => absurd q (by decide)) (fun _ => zp2_ifr (fun q => absurd q (by decide)) (fun _ => zp2_ifr (fun _ => ?_) (fun q => absurd (by decide) q)))
      refine zp2_bul (P := fun r => r = zsi σ 36 7 y) (zpc_if (fun _ => zpc_ck (zpc_bv (fun s f => zpc_some f))) (fun q => absurd a q)) (fun s f => zp2_ckr (zp2_bvr (fun t g => zp2_some ?_)))
      subst f
      subst g
      exact ⟨h.upd hI [7] (zQ.wi zQ.rf rfl) (zQ.wi zQ.rf rfl) rfl (zAl1 ⟨rfl, zrg_b (Or.inl (by decide)) hv⟩), zQ.wi zQ.rf rfl, zQ.wi zQ.rf rfl⟩
    · refine zp2_ifl (fun q => absurd q (by decide)) (fun _ => zp2_ifl (fun _ => ?_) (fun q => absurd rfl q))
      refine zp2_bul (P := fun r => r = zsi σ 36 16 ((σ.1 36 16 &&& 65280) ||| y)) ?_ (fun s f => ?_)
      · refine zpc_if (fun q => absurd (a.symm.trans q) (by decide)) (fun _ => zpc_if (fun q => absurd q (by decide)) (fun _ => zpc_ck ?_))
        rw [show zgi σ 7 4 = 16 from a]
        exact zpc_ck (zpc_bv (fun s f => zpc_some f))
      rw [show zgi μ 0 31 = 16 from b]
      refine zp2_ifr (fun q => absurd q (by decide)) (fun _ => zp2_ifr (fun q => absurd q (by decide)) (fun _ => zp2_ifr (fun q => absurd q (by decide)) (fun _ => zp2_ifr (fun q => absurd q (by decide)) (fun _ => zp2_ifr (fun q => absurd q (by decide)) (fun _ => zp2_ckr ?_)))))
      refine zp2_ckr (zp2_bvr (fun t g => zp2_some ?_))
      subst f
      subst g
      refine ⟨h.upd hI [16] (zQ.wi zQ.rf rfl) (zQ.wi zQ.rf rfl) rfl (zAl1 ⟨?_, zrg_w (by decide) (by decide) (zr_or (lo := 0) (hi := 65535) 16 (zr_andr (lo := 0) (hi := 65280) (zr_c (lo := 65280) (hi := 65280) (by decide)) (by decide)) hv (by decide))⟩), zQ.wi zQ.rf rfl, zQ.wi zQ.rf rfl⟩
      show (μ.1 3 16 &&& 65280) ||| y = (σ.1 36 16 &&& 65280) ||| y
      rw [h.eq (by decide)]
    · refine zp2_ifl (fun q => absurd q (by decide)) (fun _ => zp2_ifl (fun _ => ?_) (fun q => absurd rfl q))
      refine zp2_bul (P := fun r => r = zsi σ 36 17 ((σ.1 36 17 &&& 65280) ||| y)) ?_ (fun s f => ?_)
      · refine zpc_if (fun q => absurd (a.symm.trans q) (by decide)) (fun _ => zpc_if (fun q => absurd q (by decide)) (fun _ => zpc_ck ?_))
        rw [show zgi σ 7 4 = 17 from a]
        exact zpc_ck (zpc_bv (fun s f => zpc_some f))
      rw [show zgi μ 0 31 = 17 from b]
      refine zp2_ifr (fun q => absurd q (by decide)) (fun _ => zp2_ifr (fun q => absurd q (by decide)) (fun _ => zp2_ifr (fun q => absurd q (by decide)) (fun _ => zp2_ifr (fun q => absurd q (by decide)) (fun _ => zp2_ifr (fun q => absurd q (by decide)) (fun _ => zp2_ckr ?_)))))
      refine zp2_ckr (zp2_bvr (fun t g => zp2_some ?_))
      subst f
      subst g
      refine ⟨h.upd hI [17] (zQ.wi zQ.rf rfl) (zQ.wi zQ.rf rfl) rfl (zAl1 ⟨?_, zrg_w (by decide) (by decide) (zr_or (lo := 0) (hi := 65535) 16 (zr_andr (lo := 0) (hi := 65280) (zr_c (lo := 65280) (hi := 65280) (by decide)) (by decide)) hv (by decide))⟩), zQ.wi zQ.rf rfl, zQ.wi zQ.rf rfl⟩
      show (μ.1 3 17 &&& 65280) ||| y = (σ.1 36 17 &&& 65280) ||| y
      rw [h.eq (by decide)]
  rcases zr_hd (c := 6) hk rfl with e1 | hk
  · exact absurd e1 hk6
  rcases zr_hd (c := 7) hk rfl with e1 | hk
  · subst e1
    refine zp2_ifl (fun q => absurd q (by decide)) (fun _ => zp2_ifl (fun q => absurd q (by decide)) (fun _ => zp2_ifl (fun q => absurd q (by decide)) (fun _ => zp2_ifl (fun _ => zp2_ckl ?_) (fun q => absurd rfl q))))
    refine zp2_ifr (fun q => absurd q (by decide)) (fun _ => zp2_ifr (fun _ => zp2_ckr ?_) (fun q => absurd rfl q))
    refine zp2_bvl (fun s f => zp2_bvr (fun t g => zp2_some ?_))
    subst f
    subst g
    exact ⟨h.upd hI [0] (zQ.wi zQ.rf rfl) (zQ.wi zQ.rf rfl) rfl (zAl1 ⟨rfl, zrg_b (Or.inl (by decide)) hv⟩), zQ.wi zQ.rf rfl, zQ.wi zQ.rf rfl⟩
  exact zr_no9 hk (by decide)
theorem zTT.m32 (hI : zIoK I) (h : zTT I σ μ) {w : Int32} : zTT I σ (zsi μ 0 32 w) := ⟨h.1.keep zQ.rf (zQ.wi zQ.rf rfl), ⟨fun j a b c => h.2.1.1 j a b c, h.2.1.2.1, h.2.1.2.2.1, h.2.1.2.2.2⟩, h.2.2.1.of rfl rfl, hI _ _ _ _ h.2.2.2 zQ.rf (zQ.wi zQ.rf rfl)⟩
theorem zp2_3a {α β : Type} {o p : Option (zSt × Int32)} {f : zSt → Int32 → Option (zSt × Int32)} {g : zSt → Int32 → Option zSt} {K : zSt → Int32 → Option α} {G : zSt → Int32 → Option β} {P : zSt × Int32 → zSt × Int32 → Prop} {Q : α → β → Prop} (h : zp2 (zbi o (fun a b => zbi (f a b) (fun c d => zbu (g c d) (fun e => some (e, d))))) p P) (k : ∀ s v t w, P (s, v) (t, w) → zp2 (K s v) (G t w) Q) : zp2 (zbi o (fun a b => zbi (f a b) (fun c d => zbu (g c d) (fun e => K e d)))) (zbi p G) Q := by
  have e : zbi o (fun a b => zbi (f a b) (fun c d => zbu (g c d) (fun e => K e d))) = zbi (zbi o (fun a b => zbi (f a b) (fun c d => zbu (g c d) (fun e => some (e, d))))) K := by
    cases o with
    | none => rfl
    | some r =>
      show zbi (f r.1 r.2) (fun c d => zbu (g c d) (fun e => K e d)) = zbi (zbi (f r.1 r.2) (fun c d => zbu (g c d) (fun e => some (e, d)))) K
      cases f r.1 r.2 with
      | none => rfl
      | some u =>
        show zbu (g u.1 u.2) (fun e => K e u.2) = zbi (zbu (g u.1 u.2) (fun e => some (e, u.2))) K
        cases g u.1 u.2 with
        | none => rfl
        | some x => rfl
  rw [e]
  exact zp2_bii h (fun s v t w q => k s v t w q)
theorem t_d135 {s t : zSt} {op v : Int32} (h : zTT I s t) (hF : zF s t) (hW : zWzz s t) (x1 : ¬ op >>> ((6 : Int32) &&& 31) = 1) (hv : v = 15) : zp2 (some (s, (23 : Int32))) (fX12_prefixed_135 t op v) (zEnq I) := by
  unfold fX12_prefixed_135 fX12_prefixed_154
  subst hv
  exact zp2_ifr (fun q => absurd q x1) (fun _ => zp2_some ⟨h, hF, hW, (show (15 : Int32) + 8 = 23 by decide)⟩)
theorem t_ddcb (hI : zIoK I) (h : zTT I σ μ) (hF : zF σ μ) (h7 : σ.1 7 4 = 6) {w : Int32} (hw : w = 16 ∨ w = 17) : zp2 (fX5_turnBeside (zsi σ 7 4 w)) (zck (zin w 1048) (zbi (fX12_next μ ) (fun σ20 v21 => zbi (fX12_signed σ20 v21) (fun σ22 v23 => zck (zin 20 1048) (zbv (zsi σ22 3 ((20 : Int32).toNatClampNeg) (((zgi μ 3 w.toNatClampNeg) + v23) &&& 65535)) (fun σ24 => zck (zbo 1) (zbv (zsi σ24 0 32 1) (fun σ25 => zbi (fX12_next σ25 ) (fun σ26 v27 => zbi (fX12_turn σ26 v27) (fun σ28 v29 => if (v27 >>> ((6 : Int32) &&& 31)) = 1 then fX12_prefixed_135 σ28 v27 v29 else if (v27 &&& 7) = 6 then fX12_prefixed_135 σ28 v27 v29 else zck (zbo 0) (zbv (zsi σ28 0 32 0) (fun σ30 => zbu (fX12_rTo σ30 (v27 &&& 7) (zgi σ30 0 33)) (fun σ31 => fX12_prefixed_135 σ31 v27 v29))))))))))))) (zEnq I) := by
  unfold fX5_turnBeside fX5_turnBeside_128
  have ej : zgi (zsi σ 7 4 w) 7 4 = w := rfl
  have ei : zgi (zsi σ 7 4 w) 36 w.toNatClampNeg = zgi μ 3 w.toNatClampNeg := by
    rcases hw with e | e
    · subst e; exact (h.eq (j := 16) (by decide)).symm
    · subst e; exact (h.eq (j := 17) (by decide)).symm
  rw [ej, ei]
  refine zp2_ckl (zp2_ckr (zp2_bii (t_nextJ hI h (w := w)) (fun s1 v t v' q => ?_)))
  obtain ⟨s', q1, h1, q3, q4, qc, qm⟩ := q
  have q3 : v' = v := q3
  subst q3
  have q4 : zr 0 255 v' := q4
  refine zp2_bir p_signed (fun t1 v1 et => ?_)
  cases et
  refine zp2_ckr (zp2_bvr (fun t2 g2 => zp2_ckr (zp2_bvr (fun t3 g3 => ?_))))
  have ev : v'.toInt8.toInt32 = if 128 ≤ v' then v' - 256 else v' := z_i8s q4
  rw [ev]
  generalize hV : ((zgi μ 3 w.toNatClampNeg) + (if 128 ≤ v' then v' - 256 else v')) &&& 65535 = V at g2
  have rV : zr 0 65535 V := by rw [← hV]; exact z_r16 _
  have zz := (zEnq.wz hI h1 (hF.of (qc.1 36 1 rfl) (qm.1 3 1 rfl)) (v := V) rfl rV (b := 0))
  have q1 : s1 = zsi s' 7 4 w := q1
  have s7 : s'.1 7 4 = 6 := (qc.1 7 4 rfl).trans h7
  have eS : zsi (zsi (zsi s1 36 20 V) 7 5 V) 7 4 6 = zsi (zsi s' 36 20 V) 7 5 V := by
    rw [q1, zsi_cr (k := 7) (l := 36) (by decide), zsi_comm (ν := zsi s' 36 20 V) (k := 7) (i := 4) (j := 5) (by decide), zsi_ow]
    have e4 : zsi (zsi (zsi s' 36 20 V) 7 5 V) 7 4 ((zsi (zsi s' 36 20 V) 7 5 V).1 7 4) = zsi (zsi s' 36 20 V) 7 5 V := zsi_own
    rw [show (zsi (zsi s' 36 20 V) 7 5 V).1 7 4 = 6 from s7] at e4
    exact e4
  have hS : zTT I (zsi (zsi s' 36 20 V) 7 5 V) t3 := by rw [g3, g2]; exact zz.1.pl hI
  have fS : zF (zsi (zsi s' 36 20 V) 7 5 V) t3 := by rw [g3, g2]; exact zz.2.1
  have wS : zWzz (zsi (zsi s' 36 20 V) 7 5 V) t3 := by rw [g3, g2]; rfl
  have n32 : ¬ t3.1 0 32 = 0 := by rw [g3]; exact (show ¬ (1 : Int32) = 0 by decide)
  have pS : zPlc (zsi (zsi s' 36 20 V) 7 5 V) t3 := by
    rw [g3, g2]
    exact Or.inr ⟨show ¬ (1 : Int32) = 0 by decide, rfl⟩
  refine zp2_ckl (zp2_bvl (fun s3 f3 => zp2_ckl (zp2_bvl (fun s4 f4 => zp2_bvl (fun s5 f5 => ?_)))))
  have f5' : s5 = zsi (zsi s' 36 20 V) 7 5 V := by
    rw [← eS, f5, f4, f3]
    rfl
  subst f5'
  refine zp2_bii (t_next hI hS) (fun s6 op t6 op' q => ?_)
  obtain ⟨h6, e6, ro, qc6, qm6⟩ := q
  have e6 : op' = op := e6
  subst e6
  have ro : zr 0 255 op' := ro
  have F6 : zF s6 t6 := fS.of (qc6.1 36 1 rfl) (qm6.1 3 1 rfl)
  have W6 : zWzz s6 t6 := wS.of (qc6.1 36 20 rfl) (qm6.1 3 20 rfl)
  have p6 : zPlc s6 t6 := pS.of (qc6.1 7 5 rfl) (qc6.1 36 6 rfl) (qc6.1 36 7 rfl) (qm6.1 3 20 rfl) (qm6.1 0 32 rfl)
  have n6 : ¬ t6.1 0 32 = 0 := fun q => n32 ((qm6.1 0 32 rfl).symm.trans q)
  by_cases x1 : op' >>> ((6 : Int32) &&& 31) = 1
  · have tb := t_dbit hI h6 F6 W6 p6 n6 x1
    simp only [if_pos x1]
    refine zp2_birp tb (fun a t w q => ?_)
    unfold fX12_prefixed_135 fX12_prefixed_154
    exact zp2_ifr (fun _ => zp2_some q) (fun r => absurd x1 r)
  · have tr := t_drot hI h6 F6 W6 p6 n6 (z_dec ro).1 x1
    simp only [if_neg x1]
    refine zp2_3a tr (fun s v t w q => ?_)
    obtain ⟨q1, q2, q3, q4, q5, q6⟩ := q
    by_cases z6 : op' &&& 7 = 6
    · exact zp2_ifl (fun _ => zp2_ifr (fun _ => t_d135 q1 q2 q3 x1 q5) (fun r => absurd z6 r)) (fun r => absurd z6 r)
    · refine zp2_ifl (fun r => absurd r z6) (fun _ => zp2_ifr (fun r => absurd r z6) (fun _ => zp2_ckr (zp2_bvr (fun t30 g30 => ?_))))
      have h30 : zTT I s t30 := by rw [g30]; exact q1.m32 hI
      have e33 : zgi t30 0 33 = v := by rw [g30]; exact q4
      rw [e33]
      refine zp2_buu (t_putOneN hI h30 (k := op' &&& 7) z6 (z_r7 _) (z_m255 q6) q6) (fun s2 t2 q => ?_)
      obtain ⟨h2, qc2, qm2⟩ := q
      have f30 : zF s t30 := by rw [g30]; exact q2
      have w30 : zWzz s t30 := by rw [g30]; exact q3
      exact t_d135 h2 (f30.of (qc2.1 36 1 rfl) (qm2.1 3 1 rfl)) (w30.of (qc2.1 36 20 rfl) (qm2.1 3 20 rfl)) x1 q5
end ZPW
