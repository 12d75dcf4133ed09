section ZJN0
/-! PREFIXES, WHOLE -/
section ZPW
variable {I : zSt → zSt → Prop} {σ μ : zSt}
theorem t_putOneN (hI : zIoK I) (h : zTT I σ μ) {k v w : Int32} (hk6 : ¬ k = 6) (hk : zr 0 7 k) (e : w &&& 255 = v) (hv : zr 0 255 v) : zp2 (fX5_putOne σ k v) (fX12_rTo μ k w) (fun r r' => zTT I r r' ∧ zQ [15, 17, 19] [(36, 0, 0), (36, 2, 7), (36, 16, 17)] [] [] σ r ∧ zQ [5, 6] [(3, 0, 0), (3, 2, 7), (3, 16, 17), (3, 29, 32)] [] [] μ r') := by
  unfold fX5_putOne fX12_rTo fX5_putOne_88 fX12_rTo_113 fX12_rTo_104 fX12_rTo_100 fX5_putPairHalf fX5_putPairHalf_68 fX5_putPairHalf_69
  refine zp2_bvr (fun y ey => ?_)
  have ey : y = v := ey.trans e
  subst ey
  rcases zr_hd (c := 0) hk rfl with e1 | hk
  · subst e1
    have fin : zp2 (zck (zin (2 + (0 &&& 3)) 29) (zbv (zsi σ 36 ((2 + (0 &&& 3) : Int32).toNatClampNeg) y) (fun σ5 => some σ5))) (zck (zin (2 + 0) 1048) (zbv (zsi μ 3 ((2 + 0 : Int32).toNatClampNeg) y) (fun σ1 => some σ1))) (fun r r' => zTT I r r' ∧ zQ [15, 17, 19] [(36, 0, 0), (36, 2, 7), (36, 16, 17)] [] [] σ r ∧ zQ [5, 6] [(3, 0, 0), (3, 2, 7), (3, 16, 17), (3, 29, 32)] [] [] μ r') := by
      refine zp2_ckl (zp2_bvl (fun s f => zp2_ckr (zp2_bvr (fun t g => zp2_some ?_))))
      subst f
      subst g
      exact ⟨h.upd hI [2] (zQ.wi zQ.rf rfl) (zQ.wi zQ.rf rfl) rfl (zAl1 ⟨rfl, zrg_b (Or.inl (by decide)) hv⟩), zQ.wi zQ.rf rfl, zQ.wi zQ.rf rfl⟩
    exact zp2_ifl (fun q => absurd q (by decide)) (fun _ => zp2_ifl (fun q => absurd q (by decide)) (fun _ => zp2_ifl (fun q => absurd q (by decide)) (fun _ => zp2_ifl (fun q => absurd q (by decide)) (fun _ => zp2_ifr (fun q => absurd q (by decide)) (fun _ => zp2_ifr (fun q => absurd q (by decide)) (fun _ => zp2_ifr (fun _ => fin) (fun _ => zp2_ifr (fun _ => fin) (fun q => absurd (by decide) q))))))))
  rcases zr_hd (c := 1) hk rfl with e1 | hk
  · subst e1
    have fin : zp2 (zck (zin (2 + (1 &&& 3)) 29) (zbv (zsi σ 36 ((2 + (1 &&& 3) : Int32).toNatClampNeg) y) (fun σ5 => some σ5))) (zck (zin (2 + 1) 1048) (zbv (zsi μ 3 ((2 + 1 : Int32).toNatClampNeg) y) (fun σ1 => some σ1))) (fun r r' => zTT I r r' ∧ zQ [15, 17, 19] [(36, 0, 0), (36, 2, 7), (36, 16, 17)] [] [] σ r ∧ zQ [5, 6] [(3, 0, 0), (3, 2, 7), (3, 16, 17), (3, 29, 32)] [] [] μ r') := by
      refine zp2_ckl (zp2_bvl (fun s f => zp2_ckr (zp2_bvr (fun t g => zp2_some ?_))))
      subst f
      subst g
      exact ⟨h.upd hI [3] (zQ.wi zQ.rf rfl) (zQ.wi zQ.rf rfl) rfl (zAl1 ⟨rfl, zrg_b (Or.inl (by decide)) hv⟩), zQ.wi zQ.rf rfl, zQ.wi zQ.rf rfl⟩
    exact zp2_ifl (fun q => absurd q (by decide)) (fun _ => zp2_ifl (fun q => absurd q (by decide)) (fun _ => zp2_ifl (fun q => absurd q (by decide)) (fun _ => zp2_ifl (fun q => absurd q (by decide)) (fun _ => zp2_ifr (fun q => absurd q (by decide)) (fun _ => zp2_ifr (fun q => absurd q (by decide)) (fun _ => zp2_ifr (fun _ => fin) (fun _ => zp2_ifr (fun _ => fin) (fun q => absurd (by decide) q))))))))
  rcases zr_hd (c := 2) hk rfl with e1 | hk
  · subst e1
    have fin : zp2 (zck (zin (2 + (2 &&& 3)) 29) (zbv (zsi σ 36 ((2 + (2 &&& 3) : Int32).toNatClampNeg) y) (fun σ5 => some σ5))) (zck (zin (2 + 2) 1048) (zbv (zsi μ 3 ((2 + 2 : Int32).toNatClampNeg) y) (fun σ1 => some σ1))) (fun r r' => zTT I r r' ∧ zQ [15, 17, 19] [(36, 0, 0), (36, 2, 7), (36, 16, 17)] [] [] σ r ∧ zQ [5, 6] [(3, 0, 0), (3, 2, 7), (3, 16, 17), (3, 29, 32)] [] [] μ r') := by
      refine zp2_ckl (zp2_bvl (fun s f => zp2_ckr (zp2_bvr (fun t g => zp2_some ?_))))
      subst f
      subst g
      exact ⟨h.upd hI [4] (zQ.wi zQ.rf rfl) (zQ.wi zQ.rf rfl) rfl (zAl1 ⟨rfl, zrg_b (Or.inl (by decide)) hv⟩), zQ.wi zQ.rf rfl, zQ.wi zQ.rf rfl⟩
    exact zp2_ifl (fun q => absurd q (by decide)) (fun _ => zp2_ifl (fun q => absurd q (by decide)) (fun _ => zp2_ifl (fun q => absurd q (by decide)) (fun _ => zp2_ifl (fun q => absurd q (by decide)) (fun _ => zp2_ifr (fun q => absurd q (by decide)) (fun _ => zp2_ifr (fun q => absurd q (by decide)) (fun _ => zp2_ifr (fun _ => fin) (fun _ => zp2_ifr (fun _ => fin) (fun q => absurd (by decide) q))))))))
  rcases zr_hd (c := 3) hk rfl with e1 | hk
  · subst e1
    have fin : zp2 (zck (zin (2 + (3 &&& 3)) 29) (zbv (zsi σ 36 ((2 + (3 &&& 3) : Int32).toNatClampNeg) y) (fun σ5 => some σ5))) (zck (zin (2 + 3) 1048) (zbv (zsi μ 3 ((2 + 3 : Int32).toNatClampNeg) y) (fun σ1 => some σ1))) (fun r r' => zTT I r r' ∧ zQ [15, 17, 19] [(36, 0, 0), (36, 2, 7), (36, 16, 17)] [] [] σ r ∧ zQ [5, 6] [(3, 0, 0), (3, 2, 7), (3, 16, 17), (3, 29, 32)] [] [] μ r') := by
      refine zp2_ckl (zp2_bvl (fun s f => zp2_ckr (zp2_bvr (fun t g => zp2_some ?_))))
      subst f
      subst g
      exact ⟨h.upd hI [5] (zQ.wi zQ.rf rfl) (zQ.wi zQ.rf rfl) rfl (zAl1 ⟨rfl, zrg_b (Or.inl (by decide)) hv⟩), zQ.wi zQ.rf rfl, zQ.wi zQ.rf rfl⟩
    exact zp2_ifl (fun q => absurd q (by decide)) (fun _ => zp2_ifl (fun q => absurd q (by decide)) (fun _ => zp2_ifl (fun q => absurd q (by decide)) (fun _ => zp2_ifl (fun q => absurd q (by decide)) (fun _ => zp2_ifr (fun q => absurd q (by decide)) (fun _ => zp2_ifr (fun q => absurd q (by decide)) (fun _ => zp2_ifr (fun _ => fin) (fun _ => zp2_ifr (fun _ => fin) (fun q => absurd (by decide) q))))))))
  rcases zr_hd (c := 4) hk rfl with e1 | hk
  · subst e1
    rcases h.2.2.1 with ⟨a, b⟩ | ⟨a, b⟩ | ⟨a, b⟩
    · refine zp2_ifl (fun _ => ?_) (fun q => absurd rfl q)
      rw [show zgi μ 0 31 = 0 from b]
      refine zp2_ifr (fun q => absurd q (by decide)) (fun _ => zp2_ifr (fun q => absurd q (by decide)) (fun _ => zp2_ifr (fun _ => ?_) (fun q => absurd (by decide) q)))
      refine zp2_bul (P := fun r => r = zsi σ 36 6 y) (zpc_if (fun _ => zpc_ck (zpc_bv (fun s f => zpc_some f))) (fun q => absurd a q)) (fun s f => zp2_ckr (zp2_bvr (fun t g => zp2_some ?_)))
      subst f
      subst g
      exact ⟨h.upd hI [6] (zQ.wi zQ.rf rfl) (zQ.wi zQ.rf rfl) rfl (zAl1 ⟨rfl, zrg_b (Or.inl (by decide)) hv⟩), zQ.wi zQ.rf rfl, zQ.wi zQ.rf rfl⟩
    · refine zp2_ifl (fun _ => ?_) (fun q => absurd rfl q)
      refine zp2_bul (P := fun r => r = zsi σ 36 16 ((y <<< ((8 : Int32) &&& 31)) ||| (σ.1 36 16 &&& 255))) ?_ (fun s f => ?_)
      · refine zpc_if (fun q => absurd (a.symm.trans q) (by decide)) (fun _ => zpc_if (fun _ => zpc_ck ?_) (fun q => absurd rfl q))
        rw [show zgi σ 7 4 = 16 from a]
        exact zpc_ck (zpc_bv (fun s f => zpc_some f))
      rw [show zgi μ 0 31 = 16 from b]
      refine zp2_ifr (fun q => absurd q (by decide)) (fun _ => zp2_ifr (fun q => absurd q (by decide)) (fun _ => zp2_ifr (fun q => absurd q (by decide)) (fun _ => zp2_ifr (fun q => absurd q (by decide)) (fun _ => zp2_ifr (fun _ => zp2_ckr ?_) (fun q => absurd rfl q)))))
      refine zp2_ckr (zp2_bvr (fun t g => zp2_some ?_))
      subst f
      subst g
      refine ⟨h.upd hI [16] (zQ.wi zQ.rf rfl) (zQ.wi zQ.rf rfl) rfl (zAl1 ⟨?_, zrg_w (by decide) (by decide) (z_rw' hv (z_r8 _))⟩), zQ.wi zQ.rf rfl, zQ.wi zQ.rf rfl⟩
      show (y <<< ((8 : Int32) &&& 31)) ||| (μ.1 3 16 &&& 255) = (y <<< ((8 : Int32) &&& 31)) ||| (σ.1 36 16 &&& 255)
      rw [h.eq (by decide)]
    · refine zp2_ifl (fun _ => ?_) (fun q => absurd rfl q)
      refine zp2_bul (P := fun r => r = zsi σ 36 17 ((y <<< ((8 : Int32) &&& 31)) ||| (σ.1 36 17 &&& 255))) ?_ (fun s f => ?_)
      · refine zpc_if (fun q => absurd (a.symm.trans q) (by decide)) (fun _ => zpc_if (fun _ => zpc_ck ?_) (fun q => absurd rfl q))
        rw [show zgi σ 7 4 = 17 from a]
        exact zpc_ck (zpc_bv (fun s f => zpc_some f))
      rw [show zgi μ 0 31 = 17 from b]
      refine zp2_ifr (fun q => absurd q (by decide)) (fun _ => zp2_ifr (fun q => absurd q (by decide)) (fun _ => zp2_ifr (fun q => absurd q (by decide)) (fun _ => zp2_ifr (fun q => absurd q (by decide)) (fun _ => zp2_ifr (fun _ => zp2_ckr ?_) (fun q => absurd rfl q)))))
      refine zp2_ckr (zp2_bvr (fun t g => zp2_some ?_))
      subst f
      subst g
      refine ⟨h.upd hI [17] (zQ.wi zQ.rf rfl) (zQ.wi zQ.rf rfl) rfl (zAl1 ⟨?_, zrg_w (by decide) (by decide) (z_rw' hv (z_r8 _))⟩), zQ.wi zQ.rf rfl, zQ.wi zQ.rf rfl⟩
      show (y <<< ((8 : Int32) &&& 31)) ||| (μ.1 3 17 &&& 255) = (y <<< ((8 : Int32) &&& 31)) ||| (σ.1 36 17 &&& 255)
      rw [h.eq (by decide)]
  rcases zr_hd (c := 5) hk rfl with e1 | hk
  · subst e1
    rcases h.2.2.1 with ⟨a, b⟩ | ⟨a, b⟩ | ⟨a, b⟩
    · refine zp2_ifl (fun q => absurd q (by decide)) (fun _ => zp2_ifl (fun _ => ?_) (fun q => absurd rfl q))
      rw [show zgi μ 0 31 = 0 from b]
      refine zp2_ifr (fun q => absurd q (by decide)) (fun _ => zp2_ifr (fun q => absurd q (by decide)) (fun _ => zp2_ifr (fun _ => ?_) (fun q => absurd (by decide) q)))
      refine zp2_bul (P := fun r => r = zsi σ 36 7 y) (zpc_if (fun _ => zpc_ck (zpc_bv (fun s f => zpc_some f))) (fun q => absurd a q)) (fun s f => zp2_ckr (zp2_bvr (fun t g => zp2_some ?_)))
      subst f
      subst g
      exact ⟨h.upd hI [7] (zQ.wi zQ.rf rfl) (zQ.wi zQ.rf rfl) rfl (zAl1 ⟨rfl, zrg_b (Or.inl (by decide)) hv⟩), zQ.wi zQ.rf rfl, zQ.wi zQ.rf rfl⟩
    · refine zp2_ifl (fun q => absurd q (by decide)) (fun _ => zp2_ifl (fun _ => ?_) (fun q => absurd rfl q))
      refine zp2_bul (P := fun r => r = zsi σ 36 16 ((σ.1 36 16 &&& 65280) ||| y)) ?_ (fun s f => ?_)
      · refine zpc_if (fun q => absurd (a.symm.trans q) (by decide)) (fun _ => zpc_if (fun q => absurd q (by decide)) (fun _ => zpc_ck ?_))
        rw [show zgi σ 7 4 = 16 from a]
        exact zpc_ck (zpc_bv (fun s f => zpc_some f))
      rw [show zgi μ 0 31 = 16 from b]
      refine zp2_ifr (fun q => absurd q (by decide)) (fun _ => zp2_ifr (fun q => absurd q (by decide)) (fun _ => zp2_ifr (fun q => absurd q (by decide)) (fun _ => zp2_ifr (fun q => absurd q (by decide)) (fun _ => zp2_ifr (fun q => absurd q (by decide)) (fun _ => zp2_ckr ?_)))))
      refine zp2_ckr (zp2_bvr (fun t g => zp2_some ?_))
      subst f
      subst g
      refine ⟨h.upd hI [16] (zQ.wi zQ.rf rfl) (zQ.wi zQ.rf rfl) rfl (zAl1 ⟨?_, zrg_w (by decide) (by decide) (zr_or (lo := 0) (hi := 65535) 16 (zr_andr (lo := 0) (hi := 65280) (zr_c (lo := 65280) (hi := 65280) (by decide)) (by decide)) hv (by decide))⟩), zQ.wi zQ.rf rfl, zQ.wi zQ.rf rfl⟩
      show (μ.1 3 16 &&& 65280) ||| y = (σ.1 36 16 &&& 65280) ||| y
      rw [h.eq (by decide)]
    · refine zp2_ifl (fun q => absurd q (by decide)) (fun _ => zp2_ifl (fun _ => ?_) (fun q => absurd rfl q))
      refine zp2_bul (P := fun r => r = zsi σ 36 17 ((σ.1 36 17 &&& 65280) ||| y)) ?_ (fun s f => ?_)
      · refine zpc_if (fun q => absurd (a.symm.trans q) (by decide)) (fun _ => zpc_if (fun q => absurd q (by decide)) (fun _ => zpc_ck ?_))
        rw [show zgi σ 7 4 = 17 from a]
        exact zpc_ck (zpc_bv (fun s f => zpc_some f))
      rw [show zgi μ 0 31 = 17 from b]
      refine zp2_ifr (fun q => absurd q (by decide)) (fun _ => zp2_ifr (fun q => absurd q (by decide)) (fun _ => zp2_ifr (fun q => absurd q (by decide)) (fun _ => zp2_ifr (fun q => absurd q (by decide)) (fun _ => zp2_ifr (fun q => absurd q (by decide)) (fun _ => zp2_ckr ?_)))))
      refine zp2_ckr (zp2_bvr (fun t g => zp2_some ?_))
      subst f
      subst g
      refine ⟨h.upd hI [17] (zQ.wi zQ.rf rfl) (zQ.wi zQ.rf rfl) rfl (zAl1 ⟨?_, zrg_w (by decide) (by decide) (zr_or (lo := 0) (hi := 65535) 16 (zr_andr (lo := 0) (hi := 65280) (zr_c (lo := 65280) (hi := 65280) (by decide)) (by decide)) hv (by decide))⟩), zQ.wi zQ.rf rfl, zQ.wi zQ.rf rfl⟩
      show (μ.1 3 17 &&& 65280) ||| y = (σ.1 36 17 &&& 65280) ||| y
      rw [h.eq (by decide)]
  rcases zr_hd (c := 6) hk rfl with e1 | hk
  · exact absurd e1 hk6
  rcases zr_hd (c := 7) hk rfl with e1 | hk
  · subst e1
    refine zp2_ifl (fun q => absurd q (by decide)) (fun _ => zp2_ifl (fun q => absurd q (by decide)) (fun _ => zp2_ifl (fun q => absurd q (by decide)) (fun _ => zp2_ifl (fun _ => zp2_ckl ?_) (fun q => absurd rfl q))))
    refine zp2_ifr (fun q => absurd q (by decide)) (fun _ => zp2_ifr (fun _ => zp2_ckr ?_) (fun q => absurd rfl q))
    refine zp2_bvl (fun s f => zp2_bvr (fun t g => zp2_some ?_))
    subst f
    subst g
    exact ⟨h.upd hI [0] (zQ.wi zQ.rf rfl) (zQ.wi zQ.rf rfl) rfl (zAl1 ⟨rfl, zrg_b (Or.inl (by decide)) hv⟩), zQ.wi zQ.rf rfl, zQ.wi zQ.rf rfl⟩
  exact zr_no9 hk (by decide)
theorem zTT.m32 (hI : zIoK I) (h : zTT I σ μ) {w : Int32} : zTT I σ (zsi μ 0 32 w) := ⟨h.1.keep zQ.rf (zQ.wi zQ.rf rfl), ⟨fun j a b c => h.2.1.1 j a b c, h.2.1.2.1, h.2.1.2.2.1, h.2.1.2.2.2⟩, h.2.2.1.of rfl rfl, hI _ _ _ _ h.2.2.2 zQ.rf (zQ.wi zQ.rf rfl)⟩
theorem zp2_3a {α β : Type} {o p : Option (zSt × Int32)} {f : zSt → Int32 → Option (zSt × Int32)} {g : zSt → Int32 → Option zSt} {K : zSt → Int32 → Option α} {G : zSt → Int32 → Option β} {P : zSt × Int32 → zSt × Int32 → Prop} {Q : α → β → Prop} (h : zp2 (zbi o (fun a b => zbi (f a b) (fun c d => zbu (g c d) (fun e => some (e, d))))) p P) (k : ∀ s v t w, P (s, v) (t, w) → zp2 (K s v) (G t w) Q) : zp2 (zbi o (fun a b => zbi (f a b) (fun c d => zbu (g c d) (fun e => K e d)))) (zbi p G) Q := by
  have e : zbi o (fun a b => zbi (f a b) (fun c d => zbu (g c d) (fun e => K e d))) = zbi (zbi o (fun a b => zbi (f a b) (fun c d => zbu (g c d) (fun e => some (e, d))))) K := by
    cases o with
    | none => rfl
    | some r =>
      show zbi (f r.1 r.2) (fun c d => zbu (g c d) (fun e => K e d)) = zbi (zbi (f r.1 r.2) (fun c d => zbu (g c d) (fun e => some (e, d)))) K
      cases f r.1 r.2 with
      | none => rfl
      | some u =>
        show zbu (g u.1 u.2) (fun e => K e u.2) = zbi (zbu (g u.1 u.2) (fun e => some (e, u.2))) K
        cases g u.1 u.2 with
        | none => rfl
        | some x => rfl
  rw [e]
  exact zp2_bii h (fun s v t w q => k s v t w q)
theorem t_d135 {s t : zSt} {op v : Int32} (h : zTT I s t) (hF : zF s t) (hW : zWzz s t) (x1 : ¬ op >>> ((6 : Int32) &&& 31) = 1) (hv : v = 15) : zp2 (some (s, (23 : Int32))) (fX12_prefixed_135 t op v) (zEnq I) := by
  unfold fX12_prefixed_135 fX12_prefixed_154
  subst hv
  exact zp2_ifr (fun q => absurd q x1) (fun _ => zp2_some ⟨h, hF, hW, (show (15 : Int32) + 8 = 23 by decide)⟩)
theorem t_ddcb (hI : zIoK I) (h : zTT I σ μ) (hF : zF σ μ) (h7 : σ.1 7 4 = 6) {w : Int32} (hw : w = 16 ∨ w = 17) : zp2 (fX5_turnBeside (zsi σ 7 4 w)) (zck (zin w 1048) (zbi (fX12_next μ ) (fun σ20 v21 => zbi (fX12_signed σ20 v21) (fun σ22 v23 => zck (zin 20 1048) (zbv (zsi σ22 3 ((20 : Int32).toNatClampNeg) (((zgi μ 3 w.toNatClampNeg) + v23) &&& 65535)) (fun σ24 => zck (zbo 1) (zbv (zsi σ24 0 32 1) (fun σ25 => zbi (fX12_next σ25 ) (fun σ26 v27 => zbi (fX12_turn σ26 v27) (fun σ28 v29 => if (v27 >>> ((6 : Int32) &&& 31)) = 1 then fX12_prefixed_135 σ28 v27 v29 else if (v27 &&& 7) = 6 then fX12_prefixed_135 σ28 v27 v29 else zck (zbo 0) (zbv (zsi σ28 0 32 0) (fun σ30 => zbu (fX12_rTo σ30 (v27 &&& 7) (zgi σ30 0 33)) (fun σ31 => fX12_prefixed_135 σ31 v27 v29))))))))))))) (zEnq I) := by
  unfold fX5_turnBeside fX5_turnBeside_128
  have ej : zgi (zsi σ 7 4 w) 7 4 = w := rfl
  have ei : zgi (zsi σ 7 4 w) 36 w.toNatClampNeg = zgi μ 3 w.toNatClampNeg := by
    rcases hw with e | e
    · subst e; exact (h.eq (j := 16) (by decide)).symm
    · subst e; exact (h.eq (j := 17) (by decide)).symm
  rw [ej, ei]
  refine zp2_ckl (zp2_ckr (zp2_bii (t_nextJ hI h (w := w)) (fun s1 v t v' q => ?_)))
  obtain ⟨s', q1, h1, q3, q4, qc, qm⟩ := q
  have q3 : v' = v := q3
  subst q3
  have q4 : zr 0 255 v' := q4
  refine zp2_bir p_signed (fun t1 v1 et => ?_)
  cases et
  refine zp2_ckr (zp2_bvr (fun t2 g2 => zp2_ckr (zp2_bvr (fun t3 g3 => ?_))))
  have ev : v'.toInt8.toInt32 = if 128 ≤ v' then v' - 256 else v' := z_i8s q4
  rw [ev]
  generalize hV : ((zgi μ 3 w.toNatClampNeg) + (if 128 ≤ v' then v' - 256 else v')) &&& 65535 = V at g2
  have rV : zr 0 65535 V := by rw [← hV]; exact z_r16 _
  have zz := (zEnq.wz hI h1 (hF.of (qc.1 36 1 rfl) (qm.1 3 1 rfl)) (v := V) rfl rV (b := 0))
  have q1 : s1 = zsi s' 7 4 w := q1
  have s7 : s'.1 7 4 = 6 := (qc.1 7 4 rfl).trans h7
  have eS : zsi (zsi (zsi s1 36 20 V) 7 5 V) 7 4 6 = zsi (zsi s' 36 20 V) 7 5 V := by
    rw [q1, zsi_cr (k := 7) (l := 36) (by decide), zsi_comm (ν := zsi s' 36 20 V) (k := 7) (i := 4) (j := 5) (by decide), zsi_ow]
    have e4 : zsi (zsi (zsi s' 36 20 V) 7 5 V) 7 4 ((zsi (zsi s' 36 20 V) 7 5 V).1 7 4) = zsi (zsi s' 36 20 V) 7 5 V := zsi_own
    rw [show (zsi (zsi s' 36 20 V) 7 5 V).1 7 4 = 6 from s7] at e4
    exact e4
  have hS : zTT I (zsi (zsi s' 36 20 V) 7 5 V) t3 := by rw [g3, g2]; exact zz.1.pl hI
  have fS : zF (zsi (zsi s' 36 20 V) 7 5 V) t3 := by rw [g3, g2]; exact zz.2.1
  have wS : zWzz (zsi (zsi s' 36 20 V) 7 5 V) t3 := by rw [g3, g2]; rfl
  have n32 : ¬ t3.1 0 32 = 0 := by rw [g3]; exact (show ¬ (1 : Int32) = 0 by decide)
  have pS : zPlc (zsi (zsi s' 36 20 V) 7 5 V) t3 := by
    rw [g3, g2]
    exact Or.inr ⟨show ¬ (1 : Int32) = 0 by decide, rfl⟩
  refine zp2_ckl (zp2_bvl (fun s3 f3 => zp2_ckl (zp2_bvl (fun s4 f4 => zp2_bvl (fun s5 f5 => ?_)))))
  have f5' : s5 = zsi (zsi s' 36 20 V) 7 5 V := by
    rw [← eS, f5, f4, f3]
    rfl
  subst f5'
  refine zp2_bii (t_next hI hS) (fun s6 op t6 op' q => ?_)
  obtain ⟨h6, e6, ro, qc6, qm6⟩ := q
  have e6 : op' = op := e6
  subst e6
  have ro : zr 0 255 op' := ro
  have F6 : zF s6 t6 := fS.of (qc6.1 36 1 rfl) (qm6.1 3 1 rfl)
  have W6 : zWzz s6 t6 := wS.of (qc6.1 36 20 rfl) (qm6.1 3 20 rfl)
  have p6 : zPlc s6 t6 := pS.of (qc6.1 7 5 rfl) (qc6.1 36 6 rfl) (qc6.1 36 7 rfl) (qm6.1 3 20 rfl) (qm6.1 0 32 rfl)
  have n6 : ¬ t6.1 0 32 = 0 := fun q => n32 ((qm6.1 0 32 rfl).symm.trans q)
  by_cases x1 : op' >>> ((6 : Int32) &&& 31) = 1
  · have tb := t_dbit hI h6 F6 W6 p6 n6 x1
    simp only [if_pos x1]
    refine zp2_birp tb (fun a t w q => ?_)
    unfold fX12_prefixed_135 fX12_prefixed_154
    exact zp2_ifr (fun _ => zp2_some q) (fun r => absurd x1 r)
  · have tr := t_drot hI h6 F6 W6 p6 n6 (z_dec ro).1 x1
    simp only [if_neg x1]
    refine zp2_3a tr (fun s v t w q => ?_)
    obtain ⟨q1, q2, q3, q4, q5, q6⟩ := q
    by_cases z6 : op' &&& 7 = 6
    · exact zp2_ifl (fun _ => zp2_ifr (fun _ => t_d135 q1 q2 q3 x1 q5) (fun r => absurd z6 r)) (fun r => absurd z6 r)
    · refine zp2_ifl (fun r => absurd r z6) (fun _ => zp2_ifr (fun r => absurd r z6) (fun _ => zp2_ckr (zp2_bvr (fun t30 g30 => ?_))))
      have h30 : zTT I s t30 := by rw [g30]; exact q1.m32 hI
      have e33 : zgi t30 0 33 = v := by rw [g30]; exact q4
      rw [e33]
      refine zp2_buu (t_putOneN hI h30 (k := op' &&& 7) z6 (z_r7 _) (z_m255 q6) q6) (fun s2 t2 q => ?_)
      obtain ⟨h2, qc2, qm2⟩ := q
      have f30 : zF s t30 := by rw [g30]; exact q2
      have w30 : zWzz s t30 := by rw [g30]; exact q3
      exact t_d135 h2 (f30.of (qc2.1 36 1 rfl) (qm2.1 3 1 rfl)) (w30.of (qc2.1 36 20 rfl) (qm2.1 3 20 rfl)) x1 q5
end ZPW
end ZJN0
section ZJN1
/-! ONE INSTRUCTION OF BOTH -/
section ZCO
variable {I : zSt → zSt → Prop} {σ μ : zSt}
theorem t_p90 (hI : zIoK I) (h : zTT I σ μ) (hF : zF σ μ) (hW : zWzz σ μ) : zp2 (fX5_carryOn_90 σ) (fX12_prefixed_33 μ) (zEnq I) := by
  unfold fX5_carryOn_90 fX12_prefixed_33
  refine zp2_ckl (zp2_bvl (fun s f => zp2_ckr (zp2_bvr (fun t g => zp2_some ?_))))
  subst f
  subst g
  exact ⟨h.pz hI (zr_c (by decide)), hF, hW, rfl⟩
theorem t_115 (hI : zIoK I) (hPo : zPorts I) (h : zTT I σ μ) (hF : zF σ μ) (hW : zWzz σ μ) (hp : zPlc σ μ) (h7 : σ.1 7 4 = 6) (h28 : σ.1 36 28 = 0) {w v : Int32} (hw : w = 16 ∨ w = 17) (ee : fX12_read μ (zgi μ 3 (19 : Int32).toNatClampNeg) = some (μ, v)) (n3 : ¬ v = 221) (n2 : ¬ v = 237) (n4 : ¬ v = 253) : zp2 (fX5_carryOn_115 σ w) (zbi (fX12_fetch μ ) (fun σ15 v16 => if v16 = 203 then zck (zin w 1048) (zbi (fX12_next σ15 ) (fun σ20 v21 => zbi (fX12_signed σ20 v21) (fun σ22 v23 => zck (zin 20 1048) (zbv (zsi σ22 3 ((20 : Int32).toNatClampNeg) (((zgi σ15 3 w.toNatClampNeg) + v23) &&& 65535)) (fun σ24 => zck (zbo 1) (zbv (zsi σ24 0 32 1) (fun σ25 => zbi (fX12_next σ25 ) (fun σ26 v27 => zbi (fX12_turn σ26 v27) (fun σ28 v29 => if (v27 >>> ((6 : Int32) &&& 31)) = 1 then fX12_prefixed_135 σ28 v27 v29 else if (v27 &&& 7) = 6 then fX12_prefixed_135 σ28 v27 v29 else zck (zbo 0) (zbv (zsi σ28 0 32 0) (fun σ30 => zbu (fX12_rTo σ30 (v27 &&& 7) (zgi σ30 0 33)) (fun σ31 => fX12_prefixed_135 σ31 v27 v29)))))))))))) else zbv ((v16 >>> ((3 : Int32) &&& 31)) &&& 7) (fun v17 => zbv (v16 &&& 7) (fun v18 => zbv (v16 >>> ((6 : Int32) &&& 31)) (fun v19 => if v19 = 0 then if v18 ≤ 3 then fX12_prefixed_200 σ15 w v16 v17 v18 v19 else if 7 ≤ v18 then fX12_prefixed_200 σ15 w v16 v17 v18 v19 else if v17 = 6 then fX12_prefixed_239 σ15 w v16 else fX12_prefixed_200 σ15 w v16 v17 v18 v19 else fX12_prefixed_200 σ15 w v16 v17 v18 v19))))) (zEnq I) := by
  unfold fX5_carryOn_115
  refine zp2_bvl (fun s0 e0 => ?_)
  subst e0
  refine zp2_bii (t_opJ hI h) (fun s1 op t op' q => ?_)
  obtain ⟨s', q1, h1, q3, ro, qc, qm, rd⟩ := q
  have q3 : op' = op := q3
  subst q3
  have ro : zr 0 255 op' := ro
  have ev : op' = v := by
    have e : some (μ, op') = some (μ, v) := rd.symm.trans ee
    cases e
    rfl
  have q1 : s1 = zsi s' 7 4 w := q1
  subst q1
  have F1 : zF s' t := hF.of (qc.1 36 1 rfl) (qm.1 3 1 rfl)
  have W1 : zWzz s' t := hW.of (qc.1 36 20 rfl) (qm.1 3 20 rfl)
  have p1 : zPlc s' t := hp.of (qc.1 7 5 rfl) (qc.1 36 6 rfl) (qc.1 36 7 rfl) (qm.1 3 20 rfl) (qm.1 0 32 rfl)
  by_cases cb : op' = 203
  · refine zp2_ifl (fun _ => zp2_ifr (fun _ => ?_) (fun q => absurd cb q)) (fun q => absurd cb q)
    exact zp2_bilp (t_ddcb hI h1 F1 ((qc.1 7 4 rfl).trans h7) hw) (fun s v b q => zp2_some q)
  · refine zp2_ifl (fun q => absurd q cb) (fun _ => zp2_ifr (fun q => absurd q cb) (fun _ => ?_))
    refine zp2_bvr (fun y ey => zp2_bvr (fun z ez => zp2_bvr (fun x ex => ?_)))
    rw [e_pml, ey, ez, ex, (z_mpl ro).1]
    exact t_px hI hPo h1 F1 W1 p1 ((qc.1 7 4 rfl).trans h7) ((qc.1 36 28 rfl).trans h28) hw ro cb (fun e => n2 (ev.symm.trans e)) (fun e => n3 (ev.symm.trans e)) (fun e => n4 (ev.symm.trans e))
theorem t_prefix (hI : zIoK I) (hPo : zPorts I) (h : zTT I σ μ) (hF : zF σ μ) (hW : zWzz σ μ) (hp : zPlc σ μ) (h7 : σ.1 7 4 = 6) (h28 : σ.1 36 28 = 0) {x w : Int32} (hx : (x = 221 ∧ w = 16) ∨ (x = 253 ∧ w = 17)) : zp2 (fX5_carryOn_54 σ x) (fX12_prefixed μ w) (zEnq I) := by
  unfold fX5_carryOn_54 fX12_prefixed
  have e19 : zgi μ 3 (19 : Int32).toNatClampNeg = zgi σ 36 (19 : Int32).toNatClampNeg := h.eq (j := 19) (by decide)
  refine zp2_ckl (zp2_ckr (zp2_rdE h.1 (by rw [e19]) (fun v hv ee => ?_)))
  refine zp2_if (fun _ => t_p90 hI h hF hW) (fun n3 => zp2_if (fun _ => t_p90 hI h hF hW) (fun n2 => zp2_if (fun _ => t_p90 hI h hF hW) (fun n4 => ?_)))
  rcases hx with ⟨e1, e2⟩ | ⟨e1, e2⟩
  · subst e1
    subst e2
    exact zp2_ifl (fun _ => t_115 hI hPo h hF hW hp h7 h28 (Or.inl rfl) ee n3 n2 n4) (fun q => absurd rfl q)
  · subst e1
    subst e2
    exact zp2_ifl (fun q => absurd q (by decide)) (fun _ => t_115 hI hPo h hF hW hp h7 h28 (Or.inr rfl) ee n3 n2 n4)
theorem t_pl221 {o : Option (zSt × Int32)} (h : zp2 o (fX12_prefixed μ 16) (zEnq I)) : zp2 o (fX12_plain μ 221) (zEnq I) := by
  unfold fX12_plain fX12_plain_160
  refine zp2_bvr (fun y ey => zp2_bvr (fun z ez => ?_))
  have ey : y = 3 := ey.trans (by decide)
  have ez : z = 5 := ez.trans (by decide)
  subst ey
  subst ez
  refine zp2_ifr (fun q => absurd q (by decide)) (fun _ => zp2_ifr (fun q => absurd q (by decide)) (fun _ => zp2_ifr (fun q => absurd q (by decide)) (fun _ => zp2_ifr (fun _ => ?_) (fun q => absurd (by decide) q))))
  refine zp2_birp (P := zEnq I) ?_ (fun a t w q => zp2_some q)
  unfold fX12_more3 fX12_more3_197 fX12_more3_200
  refine zp2_bvr (fun p ep => zp2_ifr (fun q => absurd q (by decide)) (fun _ => zp2_ifr (fun q => absurd q (by decide)) (fun _ => zp2_ifr (fun q => absurd q (by decide)) (fun _ => zp2_ckr (zp2_ifr (fun q => absurd q (by decide)) (fun _ => ?_))))))
  have ep : p = 1 := ep.trans (by decide)
  subst ep
  refine zp2_ifr (fun q => absurd q (by decide)) (fun _ => zp2_ifr (fun q => absurd q (by decide)) (fun _ => zp2_ifr (fun _ => ?_) (fun q => absurd rfl q)))
  exact zp2_birp h (fun a t w q => zp2_some q)
theorem t_pl253 {o : Option (zSt × Int32)} (h : zp2 o (fX12_prefixed μ 17) (zEnq I)) : zp2 o (fX12_plain μ 253) (zEnq I) := by
  unfold fX12_plain fX12_plain_160
  refine zp2_bvr (fun y ey => zp2_bvr (fun z ez => ?_))
  have ey : y = 7 := ey.trans (by decide)
  have ez : z = 5 := ez.trans (by decide)
  subst ey
  subst ez
  refine zp2_ifr (fun q => absurd q (by decide)) (fun _ => zp2_ifr (fun q => absurd q (by decide)) (fun _ => zp2_ifr (fun q => absurd q (by decide)) (fun _ => zp2_ifr (fun _ => ?_) (fun q => absurd (by decide) q))))
  refine zp2_birp (P := zEnq I) ?_ (fun a t w q => zp2_some q)
  unfold fX12_more3 fX12_more3_197 fX12_more3_200
  refine zp2_bvr (fun p ep => zp2_ifr (fun q => absurd q (by decide)) (fun _ => zp2_ifr (fun q => absurd q (by decide)) (fun _ => zp2_ifr (fun q => absurd q (by decide)) (fun _ => zp2_ckr (zp2_ifr (fun q => absurd q (by decide)) (fun _ => ?_))))))
  have ep : p = 3 := ep.trans (by decide)
  subst ep
  refine zp2_ifr (fun q => absurd q (by decide)) (fun _ => zp2_ifr (fun q => absurd q (by decide)) (fun _ => zp2_ifr (fun q => absurd q (by decide)) (fun _ => ?_)))
  exact zp2_birp h (fun a t w q => zp2_some q)
theorem zTT.j0 (hI : zIoK I) (h : zTT I σ μ) {v : Int32} : zTT I (zsi (zsi σ 7 4 6) 7 5 v) (zsi (zsi μ 0 31 0) 0 32 0) := ⟨h.1.keep (zQ.wi (zQ.wi zQ.rf rfl) rfl) (zQ.wi (zQ.wi zQ.rf rfl) rfl), ⟨fun j a b c => h.2.1.1 j a b c, h.2.1.2.1, h.2.1.2.2.1, h.2.1.2.2.2⟩, Or.inl ⟨rfl, rfl⟩, hI _ _ _ _ h.2.2.2 (zQ.wi (zQ.wi zQ.rf rfl) rfl) (zQ.wi (zQ.wi zQ.rf rfl) rfl)⟩
theorem t_instr (hI : zIoK I) (hPo : zPorts I) (h : zTT I σ μ) (hF : zF σ μ) (hW : zWzz σ μ) (h28 : σ.1 36 28 = 0) : zp2 (zbv (zsi σ 7 4 6) (fun σ31 => zbi (fX5_pairAt σ31 6) (fun σ32 v33 => zbv (zsi σ32 7 5 v33) (fun σ34 => zbi (fX5_fetchOp σ34 ) (fun σ35 v36 => if v36 = 221 then fX5_carryOn_54 σ35 v36 else if v36 = 253 then fX5_carryOn_54 σ35 v36 else fX5_carryOn_141 σ35 v36 0))))) (fX12_instruction μ ) (zEnq I) := by
  unfold fX12_instruction
  refine zp2_bvl (fun s0 e0 => zp2_bil p_pC6 (fun s1 v1 e1 => ?_))
  cases e1
  subst e0
  refine zp2_bvl (fun s2 e2 => zp2_bvr (fun t1 g1 => zp2_ckr (zp2_bvr (fun t2 g2 => ?_))))
  subst g1
  subst g2
  have h2 : zTT I s2 (zsi (zsi μ 0 31 0) 0 32 0) := by rw [e2]; exact h.j0 hI
  have F2 : zF s2 (zsi (zsi μ 0 31 0) 0 32 0) := by rw [e2]; exact hF
  have W2 : zWzz s2 (zsi (zsi μ 0 31 0) 0 32 0) := by rw [e2]; exact hW
  have p2 : zPlc s2 (zsi (zsi μ 0 31 0) 0 32 0) := by rw [e2]; exact Or.inl ⟨rfl, rfl⟩
  have s7 : s2.1 7 4 = 6 := by rw [e2]; rfl
  have c28 : s2.1 36 28 = 0 := by rw [e2]; exact h28
  refine zp2_bii (t_op hI h2) (fun s op t op' q => ?_)
  obtain ⟨h3, e3, ro, qc, qm⟩ := q
  have e3 : op' = op := e3
  subst e3
  have ro : zr 0 255 op' := ro
  have F3 : zF s t := F2.of (qc.1 36 1 rfl) (qm.1 3 1 rfl)
  have W3 : zWzz s t := W2.of (qc.1 36 20 rfl) (qm.1 3 20 rfl)
  have p3 : zPlc s t := p2.of (qc.1 7 5 rfl) (qc.1 36 6 rfl) (qc.1 36 7 rfl) (qm.1 3 20 rfl) (qm.1 0 32 rfl)
  have t7 : s.1 7 4 = 6 := (qc.1 7 4 rfl).trans s7
  have t28 : s.1 36 28 = 0 := (qc.1 36 28 rfl).trans c28
  have t32 : t.1 0 32 = 0 := (qm.1 0 32 rfl).trans rfl
  refine zp2_birp (P := zEnq I) ?_ (fun a t w q => zp2_some q)
  by_cases a1 : op' = 221
  · subst a1
    exact zp2_ifl (fun _ => t_pl221 (t_prefix hI hPo h3 F3 W3 p3 t7 t28 (Or.inl ⟨rfl, rfl⟩))) (fun q => absurd rfl q)
  by_cases a2 : op' = 253
  · subst a2
    exact zp2_ifl (fun q => absurd q (by decide)) (fun _ => zp2_ifl (fun _ => t_pl253 (t_prefix hI hPo h3 F3 W3 p3 t7 t28 (Or.inr ⟨rfl, rfl⟩))) (fun q => absurd rfl q))
  refine zp2_ifl (fun q => absurd q a1) (fun _ => zp2_ifl (fun q => absurd q a2) (fun _ => ?_))
  by_cases a3 : op' = 203
  · subst a3
    exact t_cb hI h3 F3 W3 p3 t32
  by_cases a4 : op' = 237
  · subst a4
    exact t_edp hI hPo h3 F3 W3 p3
  refine zp2_mono (t_quart hI hPo h3 F3 W3 p3 t28 (x2 := 0) ro a3 a4 a1 a2) (fun r r' q => ?_)
  obtain ⟨q1, q2, q3, q4⟩ := q
  refine ⟨q1, q2, q3, ?_⟩
  have q4 : r'.2 + 0 = r.2 := q4
  rw [Int32.add_zero] at q4
  exact q4
end ZCO
end ZJN1
section ZJN2
/-! CALLS -/
theorem z_uck {α : Type} {c : Bool} {o : Option zSt} {f : zSt → Option α} : zbu (zck c o) f = zck c (zbu o f) := by
  cases c <;> rfl
theorem z_ubv {α : Type} {a : zSt} {g : zSt → Option zSt} {f : zSt → Option α} : zbu (zbv a g) f = zbv a (fun s => zbu (g s) f) := rfl
theorem z_us {α : Type} {s : zSt} {f : zSt → Option α} : zbu (some s) f = f s := rfl
noncomputable def zgR (x : Int32) : Int32 := (x &&& 128) ||| ((x + 1) &&& 127)
theorem zgR_r (x : Int32) : zr 0 255 (zgR x) := zr_or (lo := 0) (hi := 255) 8 (zr_andr (lo := 0) (hi := 128) (zr_c (lo := 128) (hi := 128) (by decide)) (by decide)) (zr_andr (lo := 0) (hi := 127) (zr_c (lo := 127) (hi := 127) (by decide)) (by decide)) (by decide)
section ZCL
variable {I : zSt → zSt → Prop} {σ μ : zSt}
theorem p_grR : zpc (fX5_growR σ ) (fun r => r = zsi σ 36 22 (zgR (σ.1 36 22))) := by
  unfold fX5_growR
  exact zpc_ck (zpc_ck (zpc_ck (zpc_bv (fun s es => zpc_some es))))
theorem p_grM : zpc (fX12_grows μ ) (fun r => r = zsi μ 3 22 (zgR (μ.1 3 22))) := by
  unfold fX12_grows
  exact zpc_ck (zpc_ck (zpc_ck (zpc_bv (fun s es => zpc_some es))))
theorem t_halt (hI : zIoK I) (h : zTT I σ μ) (hF : zF σ μ) (hW : zWzz σ μ) : zp2 (fX5_growR σ ) (fX12_grows μ ) (fun r r' => zTT I r r' ∧ zF r r' ∧ zWzz r r') := by
  intro r r' er er'
  rw [p_grR r er, p_grM r' er', show μ.1 3 22 = σ.1 36 22 from h.eq (by decide)]
  exact ⟨h.upd hI [22] (zQ.wi zQ.rf rfl) (zQ.wi zQ.rf rfl) rfl (zAl1 ⟨rfl, zrg_b (Or.inr (Or.inr rfl)) (zgR_r _)⟩), hF, hW⟩
theorem p_ans : zpc (fX12_answers μ ) (fun r => r = zsi (zsi μ 3 22 (zgR (μ.1 3 22))) 3 26 0) := by
  unfold fX12_answers
  exact zpc_bu p_grM (fun s e => zpc_ck (zpc_bv (fun s2 e2 => zpc_some (by rw [e2, e]; rfl))))
/-- both break off and call; m2: the reference behind its answer -/
theorem t_brk (hI : zIoK I) (h : zTT I σ μ) (hF : zF σ μ) {x : Int32} (hx : zr 0 65535 x) {m2 : zSt} (e : m2 = zsi (zsi μ 3 22 (zgR (μ.1 3 22))) 3 26 0) {α β : Type} {Q : α → β → Prop} {f : zSt → Option α} {g : zSt → Option β} (k : ∀ s t, zTT I s t → zF s t → zWzz s t → t.1 3 25 = μ.1 3 25 → zp2 (f s) (g t) Q) : zp2 (zbu (fX5_breakOff σ x) f) (zbu (fX12_call m2 x) g) Q := by
  unfold fX5_breakOff
  rw [z_ua]
  refine zp2_bul p_grR (fun s1 e1 => ?_)
  rw [z_uck]
  refine zp2_ckl ?_
  rw [z_ubv]
  refine zp2_bvl (fun s2 e2 => ?_)
  rw [z_uck]
  refine zp2_ckl ?_
  simp only [z_ua, z_us]
  have e22 : μ.1 3 22 = σ.1 36 22 := h.eq (by decide)
  rw [e22] at e
  have h2 : zTT I s2 m2 := by
    rw [e, e2, e1]
    exact h.upd hI [22, 26] (zQ.wi (zQ.wi zQ.rf rfl) rfl) (zQ.wi (zQ.wi zQ.rf rfl) rfl) rfl (zAl2 ⟨rfl, zrg_b (Or.inr (Or.inr rfl)) (zgR_r _)⟩ ⟨rfl, zrg_1 (by decide) (by decide) (show zr 0 1 (0 : Int32) from zr_c (by decide))⟩)
  have F2 : zF s2 m2 := by rw [e, e2, e1]; exact hF
  refine t_callk hI h2 F2 hx (fun s t q1 q2 q3 _ qm => k s t q1 q2 q3 ?_)
  rw [qm.1 3 25 rfl, e]
  rfl
end ZCL
end ZJN2
section ZJN3
/-! BEATS -/
theorem zpc_tt {α : Type} {o : Option α} : zpc o (fun _ => True) := fun _ _ => trivial
theorem pb_fX12_singles_28 {σ : zSt} {s0 : Int32} (qs0 : zr 7 10 s0) : zpc (fX12_singles_28 σ s0) (fun r => zr (7) (10) r.2) := by
  unfold fX12_singles_28
  exact zpc_some qs0
theorem pb_fX12_singles_316 {σ : zSt} : zpc (fX12_singles_316 σ) (fun r => zr (4) (4) r.2) := by
  unfold fX12_singles_316
  exact zpc_some (zr_c (x := 4) (lo := 4) (hi := 4) (by decide))
theorem pb_fX12_singles_297 {σ : zSt} {s0 : Int32} {s1 : Int32} : zpc (fX12_singles_297 σ s0 s1) (fun r => zr (4) (4) r.2) := by
  unfold fX12_singles_297
  exact zpc_bu zpc_tt (fun σ7 _ => zpc_bu zpc_tt (fun σ8 _ => zpc_ck (zpc_bu zpc_tt (fun σ9 _ => pb_fX12_singles_316))))
theorem pb_fX12_singles_292 {σ : zSt} {s0 : Int32} : zpc (fX12_singles_292 σ s0) (fun r => zr (4) (4) r.2) := by
  unfold fX12_singles_292
  exact pb_fX12_singles_297
theorem pb_fX12_singles_273 {σ : zSt} {x1 : Int32} {s0 : Int32} {s1 : Int32} : zpc (fX12_singles_273 σ x1 s0 s1) (fun r => zr (4) (4) r.2) := by
  unfold fX12_singles_273
  exact zpc_bu zpc_tt (fun σ10 _ => zpc_if (fun _ => pb_fX12_singles_292) (fun _ => zpc_bi zpc_tt (fun σ11 v12 _ => zpc_if (fun _ => pb_fX12_singles_292) (fun _ => pb_fX12_singles_297))))
theorem pb_fX12_singles_272 {σ : zSt} {x1 : Int32} {s0 : Int32} : zpc (fX12_singles_272 σ x1 s0) (fun r => zr (4) (4) r.2) := by
  unfold fX12_singles_272
  exact pb_fX12_singles_273
theorem pb_fX12_singles_149 {σ : zSt} {s0 : Int32} (qs0 : zr 4 11 s0) : zpc (fX12_singles_149 σ s0) (fun r => zr (4) (11) r.2) := by
  unfold fX12_singles_149
  exact zpc_some qs0
theorem pb_fX12_singles_134 {σ : zSt} {x1 : Int32} {s0 : Int32} {s1 : Int32} : zpc (fX12_singles_134 σ x1 s0 s1) (fun r => zr (4) (11) r.2) := by
  unfold fX12_singles_134
  exact zpc_bu zpc_tt (fun σ1 _ => zpc_if (fun _ => pb_fX12_singles_149 (zr_w (zr_c (x := 11) (lo := 11) (hi := 11) (by decide)) (by decide))) (fun _ => pb_fX12_singles_149 (zr_w (zr_c (x := 4) (lo := 4) (hi := 4) (by decide)) (by decide))))
theorem pb_fX12_singles_119 {σ : zSt} {x1 : Int32} {x2 : Int32} {s0 : Int32} {s1 : Int32} : zpc (fX12_singles_119 σ x1 x2 s0 s1) (fun r => zr (4) (11) r.2) := by
  unfold fX12_singles_119
  exact zpc_bu zpc_tt (fun σ2 _ => zpc_if (fun _ => pb_fX12_singles_134) (fun _ => pb_fX12_singles_134))
theorem pb_fX12_singles_111 {σ : zSt} {x1 : Int32} {x2 : Int32} {s0 : Int32} {s1 : Int32} {s2 : Int32} : zpc (fX12_singles_111 σ x1 x2 s0 s1 s2) (fun r => zr (4) (11) r.2) := by
  unfold fX12_singles_111
  exact zpc_if (fun _ => pb_fX12_singles_119) (fun _ => pb_fX12_singles_119)
theorem pb_fX12_singles_92 {σ : zSt} {x1 : Int32} {x2 : Int32} {x3 : Int32} {s0 : Int32} {s1 : Int32} : zpc (fX12_singles_92 σ x1 x2 x3 s0 s1) (fun r => zr (4) (11) r.2) := by
  unfold fX12_singles_92
  exact zpc_bu zpc_tt (fun σ3 _ => zpc_if (fun _ => pb_fX12_singles_111) (fun _ => pb_fX12_singles_111))
theorem pb_fX12_singles_84 {σ : zSt} {x1 : Int32} {x2 : Int32} {x3 : Int32} {s0 : Int32} {s1 : Int32} {s2 : Int32} : zpc (fX12_singles_84 σ x1 x2 x3 s0 s1 s2) (fun r => zr (4) (11) r.2) := by
  unfold fX12_singles_84
  exact zpc_if (fun _ => pb_fX12_singles_92) (fun _ => pb_fX12_singles_92)
theorem pb_fX12_singles_50 {σ : zSt} {x1 : Int32} {x2 : Int32} {s0 : Int32} {s1 : Int32} : zpc (fX12_singles_50 σ x1 x2 s0 s1) (fun r => zr (4) (11) r.2) := by
  unfold fX12_singles_50
  exact zpc_bv (fun v4 _ => zpc_bu zpc_tt (fun σ5 _ => zpc_bu zpc_tt (fun σ6 _ => zpc_if (fun _ => pb_fX12_singles_84) (fun _ => pb_fX12_singles_84))))
theorem pb_fX12_singles {σ : zSt} {x1 : Int32} {x2 : Int32} : zpc (fX12_singles σ x1 x2) (fun r => zr (4) (11) r.2) := by
  unfold fX12_singles
  exact zpc_if (fun _ => zpc_bi zpc_tt (fun σ28 v29 _ => zpc_bu zpc_tt (fun σ30 _ => zpc_if (fun _ => zpc_mono (pb_fX12_singles_28 (zr_w (zr_c (x := 10) (lo := 10) (hi := 10) (by decide)) (by decide))) (fun _ h => zr_w h (by decide))) (fun _ => zpc_mono (pb_fX12_singles_28 (zr_w (zr_c (x := 7) (lo := 7) (hi := 7) (by decide)) (by decide))) (fun _ h => zr_w h (by decide)))))) (fun _ => zpc_if (fun _ => zpc_if (fun _ => zpc_if (fun _ => zpc_bu zpc_tt (fun σ19 _ => zpc_mono (pb_fX12_singles_316) (fun _ h => zr_w h (by decide)))) (fun _ => zpc_if (fun _ => zpc_ck (zpc_ck (zpc_bv (fun σ15 _ => zpc_bu zpc_tt (fun σ16 _ => zpc_bu zpc_tt (fun σ17 _ => zpc_ck (zpc_bu zpc_tt (fun σ18 _ => zpc_mono (pb_fX12_singles_316) (fun _ h => zr_w h (by decide)))))))))) (fun _ => zpc_if (fun _ => zpc_bi zpc_tt (fun σ13 v14 _ => zpc_if (fun _ => zpc_mono (pb_fX12_singles_273) (fun _ h => zr_w h (by decide))) (fun _ => zpc_mono (pb_fX12_singles_272) (fun _ h => zr_w h (by decide))))) (fun _ => zpc_mono (pb_fX12_singles_272) (fun _ h => zr_w h (by decide)))))) (fun _ => zpc_ck (zpc_bi zpc_tt (fun σ20 v21 _ => zpc_ck (zpc_bv (fun σ22 _ => zpc_ck (zpc_bu zpc_tt (fun σ23 _ => zpc_bu zpc_tt (fun σ24 _ => zpc_bu zpc_tt (fun σ25 _ => zpc_mono (pb_fX12_singles_316) (fun _ h => zr_w h (by decide)))))))))))) (fun _ => zpc_bi zpc_tt (fun σ26 v27 _ => zpc_if (fun _ => pb_fX12_singles_50) (fun _ => pb_fX12_singles_50))))
theorem pb_fX12_plain_64 {σ : zSt} {s0 : Int32} (qs0 : zr 4 16 s0) : zpc (fX12_plain_64 σ s0) (fun r => zr (4) (16) r.2) := by
  unfold fX12_plain_64
  exact zpc_some qs0
theorem pb_fX12_zero_154 {σ : zSt} {s0 : Int32} (qs0 : zr 7 13 s0) : zpc (fX12_zero_154 σ s0) (fun r => zr (7) (13) r.2) := by
  unfold fX12_zero_154
  exact zpc_some qs0
theorem pb_fX12_zero_122 {σ : zSt} {x1 : Int32} {x5 : Int32} : zpc (fX12_zero_122 σ x1 x5) (fun r => zr (7) (13) r.2) := by
  unfold fX12_zero_122
  exact zpc_if (fun _ => zpc_if (fun _ => pb_fX12_zero_154 (zr_w (zr_c (x := 8) (lo := 8) (hi := 8) (by decide)) (by decide))) (fun _ => pb_fX12_zero_154 (zr_w (zr_c (x := 13) (lo := 13) (hi := 13) (by decide)) (by decide)))) (fun _ => zpc_if (fun _ => pb_fX12_zero_154 (zr_w (zr_c (x := 7) (lo := 7) (hi := 7) (by decide)) (by decide))) (fun _ => pb_fX12_zero_154 (zr_w (zr_c (x := 12) (lo := 12) (hi := 12) (by decide)) (by decide))))
theorem pb_fX12_zero_109 {σ : zSt} {x1 : Int32} {x4 : Int32} {s0 : Int32} : zpc (fX12_zero_109 σ x1 x4 s0) (fun r => zr (7) (13) r.2) := by
  unfold fX12_zero_109
  exact zpc_if (fun _ => pb_fX12_zero_122) (fun _ => zpc_bu zpc_tt (fun σ1 _ => pb_fX12_zero_122))
theorem pb_fX12_zero_104 {σ : zSt} {x1 : Int32} {x4 : Int32} : zpc (fX12_zero_104 σ x1 x4) (fun r => zr (7) (13) r.2) := by
  unfold fX12_zero_104
  exact pb_fX12_zero_109
theorem pb_fX12_zero_67 {σ : zSt} {x1 : Int32} {x4 : Int32} : zpc (fX12_zero_67 σ x1 x4) (fun r => zr (7) (13) r.2) := by
  unfold fX12_zero_67
  exact zpc_if (fun _ => zpc_ck (zpc_if (fun _ => pb_fX12_zero_109) (fun _ => pb_fX12_zero_109))) (fun _ => zpc_if (fun _ => pb_fX12_zero_104) (fun _ => zpc_bi zpc_tt (fun σ2 v3 _ => zpc_if (fun _ => pb_fX12_zero_109) (fun _ => pb_fX12_zero_104))))
theorem pb_fX12_zero_266 {σ : zSt} {x6 : Int32} {s0 : Int32} {s1 : Int32} : zpc (fX12_zero_266 σ x6 s0 s1) (fun r => zr (11) (11) r.2) := by
  unfold fX12_zero_266
  exact zpc_bu zpc_tt (fun σ4 _ => zpc_bu zpc_tt (fun σ5 _ => zpc_bu zpc_tt (fun σ6 _ => zpc_some (zr_c (x := 11) (lo := 11) (hi := 11) (by decide)))))
theorem pb_fX12_zero_249 {σ : zSt} {x6 : Int32} {s0 : Int32} {s1 : Int32} : zpc (fX12_zero_249 σ x6 s0 s1) (fun r => zr (11) (11) r.2) := by
  unfold fX12_zero_249
  exact zpc_bu zpc_tt (fun σ7 _ => zpc_if (fun _ => pb_fX12_zero_266) (fun _ => pb_fX12_zero_266))
theorem pb_fX12_moves_214 {σ : zSt} {s0 : Int32} (qs0 : zr 13 16 s0) : zpc (fX12_moves_214 σ s0) (fun r => zr (13) (16) r.2) := by
  unfold fX12_moves_214
  exact zpc_some qs0
theorem pb_fX12_moves_201 {σ : zSt} {x1 : Int32} {s0 : Int32} {s1 : Int32} : zpc (fX12_moves_201 σ x1 s0 s1) (fun r => zr (13) (16) r.2) := by
  unfold fX12_moves_201
  exact zpc_ck (zpc_bv (fun σ9 _ => zpc_if (fun _ => pb_fX12_moves_214 (zr_w (zr_c (x := 16) (lo := 16) (hi := 16) (by decide)) (by decide))) (fun _ => pb_fX12_moves_214 (zr_w (zr_c (x := 13) (lo := 13) (hi := 13) (by decide)) (by decide)))))
theorem pb_fX12_moves_195 {σ : zSt} {x1 : Int32} {x3 : Int32} {s0 : Int32} : zpc (fX12_moves_195 σ x1 x3 s0) (fun r => zr (13) (16) r.2) := by
  unfold fX12_moves_195
  exact pb_fX12_moves_201
theorem pb_fX12_moves_160 {σ : zSt} {x1 : Int32} {x2 : Int32} {x3 : Int32} : zpc (fX12_moves_160 σ x1 x2 x3) (fun r => zr (13) (16) r.2) := by
  unfold fX12_moves_160
  exact zpc_if (fun _ => zpc_if (fun _ => zpc_ck (pb_fX12_moves_201)) (fun _ => pb_fX12_moves_195)) (fun _ => pb_fX12_moves_195)
theorem pb_fX12_moves_114 {σ : zSt} {x1 : Int32} {x2 : Int32} {x3 : Int32} : zpc (fX12_moves_114 σ x1 x2 x3) (fun r => zr (13) (16) r.2) := by
  unfold fX12_moves_114
  exact zpc_if (fun _ => zpc_bi zpc_tt (fun σ14 v15 _ => zpc_bu zpc_tt (fun σ16 _ => pb_fX12_moves_160))) (fun _ => zpc_if (fun _ => zpc_ck (zpc_bu zpc_tt (fun σ10 _ => pb_fX12_moves_160))) (fun _ => zpc_bi zpc_tt (fun σ11 v12 _ => zpc_ck (zpc_bv (fun σ13 _ => pb_fX12_moves_160)))))
theorem pb_fX12_moves_85 {σ : zSt} : zpc (fX12_moves_85 σ) (fun r => zr (7) (7) r.2) := by
  unfold fX12_moves_85
  exact zpc_some (zr_c (x := 7) (lo := 7) (hi := 7) (by decide))
theorem pb_fX12_moves_15 {σ : zSt} {x2 : Int32} {s0 : Int32} : zpc (fX12_moves_15 σ x2 s0) (fun r => zr (7) (7) r.2) := by
  unfold fX12_moves_15
  exact zpc_bi zpc_tt (fun σ1 v2 _ => zpc_if (fun _ => zpc_ck (zpc_bu zpc_tt (fun σ3 _ => zpc_ck (zpc_ck (zpc_bv (fun σ4 _ => pb_fX12_moves_85)))))) (fun _ => zpc_bi zpc_tt (fun σ5 v6 _ => zpc_ck (zpc_bv (fun σ7 _ => zpc_ck (zpc_bv (fun σ8 _ => pb_fX12_moves_85)))))))
theorem pb_fX12_moves {σ : zSt} {x1 : Int32} {x2 : Int32} : zpc (fX12_moves σ x1 x2) (fun r => zr (7) (16) r.2) := by
  unfold fX12_moves
  exact zpc_if (fun _ => zpc_bi zpc_tt (fun σ17 v18 _ => zpc_if (fun _ => zpc_if (fun _ => zpc_mono (pb_fX12_moves_114) (fun _ h => zr_w h (by decide))) (fun _ => zpc_bi zpc_tt (fun σ19 v20 _ => zpc_bu zpc_tt (fun σ21 _ => zpc_mono (pb_fX12_moves_160) (fun _ h => zr_w h (by decide)))))) (fun _ => zpc_mono (pb_fX12_moves_114) (fun _ h => zr_w h (by decide))))) (fun _ => zpc_if (fun _ => zpc_mono (pb_fX12_moves_15) (fun _ h => zr_w h (by decide))) (fun _ => zpc_mono (pb_fX12_moves_15) (fun _ h => zr_w h (by decide))))
theorem pb_fX12_zero_306 {σ : zSt} {s0 : Int32} {s1 : Int32} : zpc (fX12_zero_306 σ s0 s1) (fun r => zr (7) (16) r.2) := by
  unfold fX12_zero_306
  exact zpc_bi (pb_fX12_moves) (fun σ8 v9 hv9 => zpc_some hv9)
theorem pb_fX12_zero_328 {σ : zSt} {s0 : Int32} {s1 : Int32} {s2 : Int32} : zpc (fX12_zero_328 σ s0 s1 s2) (fun r => zr (6) (6) r.2) := by
  unfold fX12_zero_328
  exact zpc_bu zpc_tt (fun σ10 _ => zpc_some (zr_c (x := 6) (lo := 6) (hi := 6) (by decide)))
theorem pb_fX12_zero_178 {σ : zSt} {x1 : Int32} {x2 : Int32} {x3 : Int32} : zpc (fX12_zero_178 σ x1 x2 x3) (fun r => zr (6) (16) r.2) := by
  unfold fX12_zero_178
  exact zpc_if (fun _ => zpc_bi zpc_tt (fun σ13 v14 _ => zpc_bi zpc_tt (fun σ15 v16 _ => zpc_ck (zpc_bv (fun σ17 _ => zpc_bv (fun v18 _ => zpc_bu zpc_tt (fun σ19 _ => zpc_if (fun _ => zpc_mono (pb_fX12_zero_249) (fun _ h => zr_w h (by decide))) (fun _ => zpc_mono (pb_fX12_zero_249) (fun _ h => zr_w h (by decide)))))))))) (fun _ => zpc_if (fun _ => zpc_ck (zpc_if (fun _ => zpc_mono (pb_fX12_zero_306) (fun _ h => zr_w h (by decide))) (fun _ => zpc_mono (pb_fX12_zero_306) (fun _ h => zr_w h (by decide))))) (fun _ => zpc_bi zpc_tt (fun σ11 v12 _ => zpc_ck (zpc_if (fun _ => zpc_mono (pb_fX12_zero_328) (fun _ h => zr_w h (by decide))) (fun _ => zpc_mono (pb_fX12_zero_328) (fun _ h => zr_w h (by decide)))))))
theorem pb_fX12_zero {σ : zSt} {x1 : Int32} {x2 : Int32} : zpc (fX12_zero σ x1 x2) (fun r => zr (4) (16) r.2) := by
  unfold fX12_zero
  exact zpc_bv (fun v20 _ => zpc_if (fun _ => zpc_if (fun _ => zpc_some (zr_w (zr_c (x := 4) (lo := 4) (hi := 4) (by decide)) (by decide))) (fun _ => zpc_if (fun _ => zpc_bu zpc_tt (fun σ29 _ => zpc_bu zpc_tt (fun σ30 _ => zpc_some (zr_w (zr_c (x := 4) (lo := 4) (hi := 4) (by decide)) (by decide))))) (fun _ => zpc_bi zpc_tt (fun σ24 v25 _ => zpc_bi zpc_tt (fun σ26 v27 _ => zpc_if (fun _ => zpc_ck (zpc_ck (zpc_bv (fun σ28 _ => zpc_mono (pb_fX12_zero_67) (fun _ h => zr_w h (by decide)))))) (fun _ => zpc_mono (pb_fX12_zero_67) (fun _ h => zr_w h (by decide)))))))) (fun _ => zpc_if (fun _ => zpc_ck (zpc_if (fun _ => zpc_bi zpc_tt (fun σ21 v22 _ => zpc_bu zpc_tt (fun σ23 _ => zpc_some (zr_w (zr_c (x := 10) (lo := 10) (hi := 10) (by decide)) (by decide))))) (fun _ => zpc_mono (pb_fX12_zero_178) (fun _ h => zr_w h (by decide))))) (fun _ => zpc_mono (pb_fX12_zero_178) (fun _ h => zr_w h (by decide)))))
theorem pb_fX12_plain_116 {σ : zSt} {s0 : Int32} (qs0 : zr 4 7 s0) : zpc (fX12_plain_116 σ s0) (fun r => zr (4) (7) r.2) := by
  unfold fX12_plain_116
  exact zpc_some qs0
theorem pb_fX12_plain_115 {σ : zSt} : zpc (fX12_plain_115 σ) (fun r => zr (4) (7) r.2) := by
  unfold fX12_plain_115
  exact pb_fX12_plain_116 (zr_w (zr_c (x := 4) (lo := 4) (hi := 4) (by decide)) (by decide))
theorem pb_fX12_plain_110 {σ : zSt} : zpc (fX12_plain_110 σ) (fun r => zr (4) (7) r.2) := by
  unfold fX12_plain_110
  exact pb_fX12_plain_116 (zr_w (zr_c (x := 7) (lo := 7) (hi := 7) (by decide)) (by decide))
theorem pb_fX12_plain_92 {σ : zSt} {x1 : Int32} {x2 : Int32} {x3 : Int32} : zpc (fX12_plain_92 σ x1 x2 x3) (fun r => zr (4) (7) r.2) := by
  unfold fX12_plain_92
  exact zpc_if (fun _ => pb_fX12_plain_115) (fun _ => zpc_if (fun _ => pb_fX12_plain_110) (fun _ => zpc_if (fun _ => pb_fX12_plain_110) (fun _ => pb_fX12_plain_115)))
theorem pb_fX12_plain_139 {σ : zSt} {s0 : Int32} (qs0 : zr 4 7 s0) : zpc (fX12_plain_139 σ s0) (fun r => zr (4) (7) r.2) := by
  unfold fX12_plain_139
  exact zpc_some qs0
theorem pb_fX12_more3_119 {σ : zSt} {s0 : Int32} : zpc (fX12_more3_119 σ s0) (fun r => zr (11) (11) r.2) := by
  unfold fX12_more3_119
  exact zpc_bu zpc_tt (fun σ1 _ => zpc_some (zr_c (x := 11) (lo := 11) (hi := 11) (by decide)))
theorem pb_fX12_more_133 {σ : zSt} {x5 : Int32} {x6 : Int32} : zpc (fX12_more_133 σ x5 x6) (fun r => zr (12) (12) r.2) := by
  unfold fX12_more_133
  exact zpc_bu zpc_tt (fun σ8 _ => zpc_bi zpc_tt (fun σ9 v10 _ => zpc_bu zpc_tt (fun σ11 _ => zpc_bu zpc_tt (fun σ12 _ => zpc_bu zpc_tt (fun σ13 _ => zpc_ck (zpc_bv (fun σ14 _ => zpc_some (zr_c (x := 12) (lo := 12) (hi := 12) (by decide)))))))))
theorem pb_fX12_more_195 {σ : zSt} {s0 : Int32} {s1 : Int32} : zpc (fX12_more_195 σ s0 s1) (fun r => zr (12) (12) r.2) := by
  unfold fX12_more_195
  exact zpc_bu zpc_tt (fun σ4 _ => zpc_bi zpc_tt (fun σ5 v6 _ => zpc_ck (zpc_bv (fun σ7 _ => zpc_some (zr_c (x := 12) (lo := 12) (hi := 12) (by decide))))))
theorem pb_fX12_more_234 {σ : zSt} {s0 : Int32} {s1 : Int32} : zpc (fX12_more_234 σ s0 s1) (fun r => zr (15) (15) r.2) := by
  unfold fX12_more_234
  exact zpc_bu zpc_tt (fun σ3 _ => zpc_some (zr_c (x := 15) (lo := 15) (hi := 15) (by decide)))
theorem pb_fX12_more_281 {σ : zSt} {x7 : Int32} : zpc (fX12_more_281 σ x7) (fun r => zr (20) (20) r.2) := by
  unfold fX12_more_281
  exact zpc_ck (zpc_bv (fun σ2 _ => zpc_some (zr_c (x := 20) (lo := 20) (hi := 20) (by decide))))
theorem pb_fX12_more_387 {σ : zSt} {s0 : Int32} {s1 : Int32} : zpc (fX12_more_387 σ s0 s1) (fun r => zr (8) (8) r.2) := by
  unfold fX12_more_387
  exact zpc_ck (zpc_bv (fun σ1 _ => zpc_some (zr_c (x := 8) (lo := 8) (hi := 8) (by decide))))
theorem pb_fX12_specials_244 {σ : zSt} {s0 : Int32} (qs0 : zr 9 18 s0) : zpc (fX12_specials_244 σ s0) (fun r => zr (9) (18) r.2) := by
  unfold fX12_specials_244
  exact zpc_some qs0
theorem pb_fX12_specials_220 {σ : zSt} {x1 : Int32} : zpc (fX12_specials_220 σ x1) (fun r => zr (9) (18) r.2) := by
  unfold fX12_specials_220
  exact zpc_bu zpc_tt (fun σ2 _ => zpc_bu zpc_tt (fun σ3 _ => zpc_if (fun _ => pb_fX12_specials_244 (zr_w (zr_c (x := 18) (lo := 18) (hi := 18) (by decide)) (by decide))) (fun _ => pb_fX12_specials_244 (zr_w (zr_c (x := 9) (lo := 9) (hi := 9) (by decide)) (by decide)))))
theorem pb_fX12_specials_194 {σ : zSt} {x1 : Int32} {s0 : Int32} {s1 : Int32} {s2 : Int32} : zpc (fX12_specials_194 σ x1 s0 s1 s2) (fun r => zr (9) (18) r.2) := by
  unfold fX12_specials_194
  exact zpc_ck (zpc_bv (fun σ7 _ => zpc_ck (zpc_bu zpc_tt (fun σ8 _ => zpc_ck (zpc_bi zpc_tt (fun σ9 v10 _ => zpc_bu zpc_tt (fun σ11 _ => pb_fX12_specials_220)))))))
theorem pb_fX12_specials_161 {σ : zSt} {x1 : Int32} {x3 : Int32} {s0 : Int32} {s1 : Int32} : zpc (fX12_specials_161 σ x1 x3 s0 s1) (fun r => zr (9) (18) r.2) := by
  unfold fX12_specials_161
  exact zpc_bu zpc_tt (fun σ12 _ => zpc_ck (zpc_if (fun _ => pb_fX12_specials_194) (fun _ => pb_fX12_specials_194)))
theorem pb_fX12_specials_94 {σ : zSt} {x1 : Int32} {s0 : Int32} {s1 : Int32} : zpc (fX12_specials_94 σ x1 s0 s1) (fun r => zr (9) (18) r.2) := by
  unfold fX12_specials_94
  exact zpc_bu zpc_tt (fun σ4 _ => pb_fX12_specials_220)
theorem pb_fX12_specials_64 {σ : zSt} {x1 : Int32} {s0 : Int32} {s2 : Int32} : zpc (fX12_specials_64 σ x1 s0 s2) (fun r => zr (9) (18) r.2) := by
  unfold fX12_specials_64
  exact zpc_ck (zpc_ck (zpc_bv (fun σ5 _ => zpc_ck (zpc_bu zpc_tt (fun σ6 _ => zpc_ck (zpc_if (fun _ => pb_fX12_specials_94) (fun _ => pb_fX12_specials_94)))))))
theorem pb_fX12_specials_28 {σ : zSt} {s0 : Int32} : zpc (fX12_specials_28 σ s0) (fun r => zr (9) (9) r.2) := by
  unfold fX12_specials_28
  exact zpc_ck (zpc_ck (zpc_bv (fun σ1 _ => zpc_some (zr_c (x := 9) (lo := 9) (hi := 9) (by decide)))))
theorem pb_fX12_specials {σ : zSt} {x1 : Int32} : zpc (fX12_specials σ x1) (fun r => zr (8) (18) r.2) := by
  unfold fX12_specials
  exact zpc_if (fun _ => zpc_if (fun _ => zpc_if (fun _ => zpc_bi zpc_tt (fun σ13 v14 _ => zpc_ck (zpc_bv (fun σ15 _ => zpc_bi zpc_tt (fun σ16 v17 _ => zpc_ck (zpc_bv (fun v18 _ => zpc_if (fun _ => zpc_mono (pb_fX12_specials_161) (fun _ h => zr_w h (by decide))) (fun _ => zpc_mono (pb_fX12_specials_161) (fun _ h => zr_w h (by decide)))))))))) (fun _ => zpc_if (fun _ => zpc_mono (pb_fX12_specials_64) (fun _ h => zr_w h (by decide))) (fun _ => zpc_mono (pb_fX12_specials_64) (fun _ h => zr_w h (by decide))))) (fun _ => zpc_if (fun _ => zpc_mono (pb_fX12_specials_28) (fun _ h => zr_w h (by decide))) (fun _ => zpc_mono (pb_fX12_specials_28) (fun _ h => zr_w h (by decide))))) (fun _ => zpc_some (zr_w (zr_c (x := 8) (lo := 8) (hi := 8) (by decide)) (by decide)))
theorem pb_fX12_more_42 {σ : zSt} {x2 : Int32} {x3 : Int32} {x4 : Int32} : zpc (fX12_more_42 σ x2 x3 x4) (fun r => zr (8) (20) r.2) := by
  unfold fX12_more_42
  exact zpc_if (fun _ => zpc_if (fun _ => zpc_bi zpc_tt (fun σ15 v16 _ => zpc_bv (fun v17 _ => zpc_ck (zpc_bi zpc_tt (fun σ18 v19 _ => zpc_if (fun _ => zpc_mono (pb_fX12_more_133) (fun _ h => zr_w h (by decide))) (fun _ => zpc_bu zpc_tt (fun σ20 _ => zpc_mono (pb_fX12_more_133) (fun _ h => zr_w h (by decide))))))))) (fun _ => zpc_if (fun _ => zpc_ck (zpc_if (fun _ => zpc_mono (pb_fX12_more_195) (fun _ h => zr_w h (by decide))) (fun _ => zpc_bi zpc_tt (fun σ21 v22 _ => zpc_mono (pb_fX12_more_195) (fun _ h => zr_w h (by decide)))))) (fun _ => zpc_if (fun _ => zpc_ck (zpc_if (fun _ => zpc_mono (pb_fX12_more_234) (fun _ h => zr_w h (by decide))) (fun _ => zpc_mono (pb_fX12_more_234) (fun _ h => zr_w h (by decide))))) (fun _ => zpc_if (fun _ => zpc_bi zpc_tt (fun σ23 v24 _ => zpc_ck (zpc_if (fun _ => zpc_bi zpc_tt (fun σ28 v29 _ => zpc_bu zpc_tt (fun σ30 _ => zpc_mono (pb_fX12_more_281) (fun _ h => zr_w h (by decide))))) (fun _ => zpc_bi zpc_tt (fun σ25 v26 _ => zpc_bu zpc_tt (fun σ27 _ => zpc_mono (pb_fX12_more_281) (fun _ h => zr_w h (by decide)))))))) (fun _ => zpc_if (fun _ => zpc_ck (zpc_bv (fun v31 _ => zpc_ck (zpc_bv (fun σ32 _ => zpc_bu zpc_tt (fun σ33 _ => zpc_some (zr_w (zr_c (x := 8) (lo := 8) (hi := 8) (by decide)) (by decide)))))))) (fun _ => zpc_if (fun _ => zpc_bi zpc_tt (fun σ34 v35 _ => zpc_ck (zpc_bv (fun σ36 _ => zpc_ck (zpc_ck (zpc_bv (fun σ37 _ => zpc_ck (zpc_ck (zpc_bv (fun σ38 _ => zpc_some (zr_w (zr_c (x := 14) (lo := 14) (hi := 14) (by decide)) (by decide)))))))))))) (fun _ => zpc_if (fun _ => zpc_ck (zpc_if (fun _ => zpc_ck (zpc_mono (pb_fX12_more_387) (fun _ h => zr_w h (by decide)))) (fun _ => zpc_mono (pb_fX12_more_387) (fun _ h => zr_w h (by decide))))) (fun _ => zpc_bi (pb_fX12_specials) (fun σ39 v40 hv40 => zpc_some (zr_w hv40 (by decide))))))))))) (fun _ => zpc_some (zr_w (zr_c (x := 8) (lo := 8) (hi := 8) (by decide)) (by decide)))
theorem pb_fX12_blocks_595 {σ : zSt} : zpc (fX12_blocks_595 σ) (fun r => zr (16) (16) r.2) := by
  unfold fX12_blocks_595
  exact zpc_some (zr_c (x := 16) (lo := 16) (hi := 16) (by decide))
theorem pb_fX12_blocks_641 {σ : zSt} : zpc (fX12_blocks_641 σ) (fun r => zr (21) (21) r.2) := by
  unfold fX12_blocks_641
  exact zpc_some (zr_c (x := 21) (lo := 21) (hi := 21) (by decide))
theorem pb_fX12_blocks_584 {σ : zSt} {x1 : Int32} {x2 : Int32} {x5 : Int32} : zpc (fX12_blocks_584 σ x1 x2 x5) (fun r => zr (16) (21) r.2) := by
  unfold fX12_blocks_584
  exact zpc_if (fun _ => zpc_mono (pb_fX12_blocks_595) (fun _ h => zr_w h (by decide))) (fun _ => zpc_if (fun _ => zpc_mono (pb_fX12_blocks_595) (fun _ h => zr_w h (by decide))) (fun _ => zpc_ck (zpc_ck (zpc_bv (fun σ1 _ => zpc_if (fun _ => zpc_mono (pb_fX12_blocks_641) (fun _ h => zr_w h (by decide))) (fun _ => zpc_ck (zpc_ck (zpc_bv (fun σ2 _ => zpc_mono (pb_fX12_blocks_641) (fun _ h => zr_w h (by decide)))))))))))
theorem pb_fX12_blocks_582 {σ : zSt} {x1 : Int32} {x2 : Int32} {s0 : Int32} : zpc (fX12_blocks_582 σ x1 x2 s0) (fun r => zr (16) (21) r.2) := by
  unfold fX12_blocks_582
  exact pb_fX12_blocks_584
theorem pb_fX12_blocks_545 {σ : zSt} {x1 : Int32} {x2 : Int32} {x6 : Int32} {s0 : Int32} {s1 : Int32} : zpc (fX12_blocks_545 σ x1 x2 x6 s0 s1) (fun r => zr (16) (21) r.2) := by
  unfold fX12_blocks_545
  exact zpc_bu zpc_tt (fun σ27 _ => zpc_ck (zpc_bi zpc_tt (fun σ28 v29 _ => zpc_bu zpc_tt (fun σ30 _ => zpc_ck (zpc_if (fun _ => pb_fX12_blocks_582) (fun _ => pb_fX12_blocks_582))))))
theorem pb_fX12_blocks_527 {σ : zSt} {x1 : Int32} {x2 : Int32} {x6 : Int32} {s0 : Int32} {s1 : Int32} : zpc (fX12_blocks_527 σ x1 x2 x6 s0 s1) (fun r => zr (16) (21) r.2) := by
  unfold fX12_blocks_527
  exact zpc_bu zpc_tt (fun σ31 _ => zpc_if (fun _ => pb_fX12_blocks_545) (fun _ => pb_fX12_blocks_545))
theorem pb_fX12_blocks_509 {σ : zSt} {x1 : Int32} {x2 : Int32} {x6 : Int32} {s0 : Int32} {s1 : Int32} : zpc (fX12_blocks_509 σ x1 x2 x6 s0 s1) (fun r => zr (16) (21) r.2) := by
  unfold fX12_blocks_509
  exact zpc_bu zpc_tt (fun σ32 _ => zpc_if (fun _ => pb_fX12_blocks_527) (fun _ => pb_fX12_blocks_527))
theorem pb_fX12_blocks_485 {σ : zSt} {x1 : Int32} {x2 : Int32} {x4 : Int32} {x6 : Int32} : zpc (fX12_blocks_485 σ x1 x2 x4 x6) (fun r => zr (16) (21) r.2) := by
  unfold fX12_blocks_485
  exact zpc_ck (zpc_bu zpc_tt (fun σ33 _ => zpc_if (fun _ => pb_fX12_blocks_509) (fun _ => pb_fX12_blocks_509)))
theorem pb_fX12_blocks_297 {σ : zSt} {x1 : Int32} {x2 : Int32} {s0 : Int32} : zpc (fX12_blocks_297 σ x1 x2 s0) (fun r => zr (16) (21) r.2) := by
  unfold fX12_blocks_297
  exact pb_fX12_blocks_584
theorem pb_fX12_blocks_292 {σ : zSt} {x1 : Int32} {x2 : Int32} : zpc (fX12_blocks_292 σ x1 x2) (fun r => zr (16) (21) r.2) := by
  unfold fX12_blocks_292
  exact pb_fX12_blocks_297
theorem pb_fX12_blocks_296 {σ : zSt} {x1 : Int32} {x2 : Int32} : zpc (fX12_blocks_296 σ x1 x2) (fun r => zr (16) (21) r.2) := by
  unfold fX12_blocks_296
  exact pb_fX12_blocks_297
theorem pb_fX12_blocks_267 {σ : zSt} {x1 : Int32} {x2 : Int32} {s0 : Int32} {s1 : Int32} : zpc (fX12_blocks_267 σ x1 x2 s0 s1) (fun r => zr (16) (21) r.2) := by
  unfold fX12_blocks_267
  exact zpc_bu zpc_tt (fun σ3 _ => zpc_bi zpc_tt (fun σ4 v5 _ => zpc_if (fun _ => zpc_if (fun _ => pb_fX12_blocks_292) (fun _ => zpc_bi zpc_tt (fun σ6 v7 _ => zpc_if (fun _ => pb_fX12_blocks_292) (fun _ => pb_fX12_blocks_296)))) (fun _ => pb_fX12_blocks_296)))
theorem pb_fX12_blocks_249 {σ : zSt} {x1 : Int32} {x2 : Int32} {s0 : Int32} {s1 : Int32} : zpc (fX12_blocks_249 σ x1 x2 s0 s1) (fun r => zr (16) (21) r.2) := by
  unfold fX12_blocks_249
  exact zpc_bu zpc_tt (fun σ8 _ => zpc_bi zpc_tt (fun σ9 v10 _ => zpc_if (fun _ => pb_fX12_blocks_267) (fun _ => pb_fX12_blocks_267)))
theorem pb_fX12_blocks_234 {σ : zSt} {x1 : Int32} {x2 : Int32} {s0 : Int32} {s1 : Int32} : zpc (fX12_blocks_234 σ x1 x2 s0 s1) (fun r => zr (16) (21) r.2) := by
  unfold fX12_blocks_234
  exact zpc_bu zpc_tt (fun σ11 _ => zpc_if (fun _ => pb_fX12_blocks_249) (fun _ => pb_fX12_blocks_249))
theorem pb_fX12_blocks_216 {σ : zSt} {x1 : Int32} {x2 : Int32} {x6 : Int32} {s0 : Int32} {s1 : Int32} : zpc (fX12_blocks_216 σ x1 x2 x6 s0 s1) (fun r => zr (16) (21) r.2) := by
  unfold fX12_blocks_216
  exact zpc_bu zpc_tt (fun σ12 _ => zpc_if (fun _ => pb_fX12_blocks_234) (fun _ => pb_fX12_blocks_234))
theorem pb_fX12_blocks_202 {σ : zSt} {x1 : Int32} {x2 : Int32} {x6 : Int32} : zpc (fX12_blocks_202 σ x1 x2 x6) (fun r => zr (16) (21) r.2) := by
  unfold fX12_blocks_202
  exact zpc_if (fun _ => pb_fX12_blocks_216) (fun _ => pb_fX12_blocks_216)
theorem pb_fX12_blocks_190 {σ : zSt} {x1 : Int32} {x2 : Int32} {s0 : Int32} {s1 : Int32} : zpc (fX12_blocks_190 σ x1 x2 s0 s1) (fun r => zr (16) (21) r.2) := by
  unfold fX12_blocks_190
  exact zpc_bv (fun v13 _ => pb_fX12_blocks_202)
theorem pb_fX12_blocks_159 {σ : zSt} {x1 : Int32} {x2 : Int32} {x6 : Int32} {s0 : Int32} : zpc (fX12_blocks_159 σ x1 x2 x6 s0) (fun r => zr (16) (21) r.2) := by
  unfold fX12_blocks_159
  exact zpc_bu zpc_tt (fun σ14 _ => zpc_bu zpc_tt (fun σ15 _ => zpc_if (fun _ => pb_fX12_blocks_190) (fun _ => pb_fX12_blocks_190)))
theorem pb_fX12_blocks_111 {σ : zSt} {x1 : Int32} {x2 : Int32} {x3 : Int32} {x4 : Int32} {s0 : Int32} : zpc (fX12_blocks_111 σ x1 x2 x3 x4 s0) (fun r => zr (16) (21) r.2) := by
  unfold fX12_blocks_111
  exact zpc_if (fun _ => zpc_ck (zpc_ck (zpc_bv (fun σ17 _ => zpc_ck (zpc_if (fun _ => pb_fX12_blocks_159) (fun _ => pb_fX12_blocks_159)))))) (fun _ => zpc_bu zpc_tt (fun σ16 _ => pb_fX12_blocks_202))
theorem pb_fX12_blocks_74 {σ : zSt} {x1 : Int32} {x2 : Int32} {x3 : Int32} {x4 : Int32} : zpc (fX12_blocks_74 σ x1 x2 x3 x4) (fun r => zr (16) (21) r.2) := by
  unfold fX12_blocks_74
  exact zpc_bi zpc_tt (fun σ18 v19 _ => zpc_bu zpc_tt (fun σ20 _ => zpc_if (fun _ => zpc_ck (pb_fX12_blocks_111)) (fun _ => zpc_ck (pb_fX12_blocks_111))))
theorem pb_fX12_blocks_44 {σ : zSt} {x1 : Int32} {x2 : Int32} {x3 : Int32} {x4 : Int32} : zpc (fX12_blocks_44 σ x1 x2 x3 x4) (fun r => zr (16) (21) r.2) := by
  unfold fX12_blocks_44
  exact zpc_bi zpc_tt (fun σ21 v22 _ => zpc_bu zpc_tt (fun σ23 _ => zpc_if (fun _ => zpc_bi zpc_tt (fun σ24 v25 _ => zpc_bu zpc_tt (fun σ26 _ => pb_fX12_blocks_74))) (fun _ => pb_fX12_blocks_74)))
theorem pb_fX12_blocks_11 {σ : zSt} {x1 : Int32} {x2 : Int32} {s0 : Int32} : zpc (fX12_blocks_11 σ x1 x2 s0) (fun r => zr (16) (21) r.2) := by
  unfold fX12_blocks_11
  exact zpc_if (fun _ => zpc_if (fun _ => zpc_bi zpc_tt (fun σ47 v48 _ => zpc_ck (zpc_bv (fun σ49 _ => zpc_ck (zpc_bi zpc_tt (fun σ50 v51 _ => zpc_ck (zpc_ck (zpc_bv (fun σ52 _ => zpc_bi zpc_tt (fun σ53 v54 _ => zpc_bu zpc_tt (fun σ55 _ => zpc_bi zpc_tt (fun σ56 v57 _ => zpc_bu zpc_tt (fun σ58 _ => zpc_ck (zpc_bv (fun v59 _ => pb_fX12_blocks_485))))))))))))))) (fun _ => zpc_bi zpc_tt (fun σ34 v35 _ => zpc_bi zpc_tt (fun σ36 v37 _ => zpc_ck (zpc_ck (zpc_bv (fun σ38 _ => zpc_ck (zpc_bu zpc_tt (fun σ39 _ => zpc_bi zpc_tt (fun σ40 v41 _ => zpc_bu zpc_tt (fun σ42 _ => zpc_bi zpc_tt (fun σ43 v44 _ => zpc_ck (zpc_bv (fun σ45 _ => zpc_ck (zpc_bv (fun v46 _ => pb_fX12_blocks_485)))))))))))))))) (fun _ => zpc_bi zpc_tt (fun σ60 v61 _ => zpc_bi zpc_tt (fun σ62 v63 _ => zpc_if (fun _ => zpc_bi zpc_tt (fun σ64 v65 _ => zpc_bu zpc_tt (fun σ66 _ => pb_fX12_blocks_44))) (fun _ => pb_fX12_blocks_44))))
theorem pb_fX12_blocks {σ : zSt} {x1 : Int32} {x2 : Int32} : zpc (fX12_blocks σ x1 x2) (fun r => zr (16) (21) r.2) := by
  unfold fX12_blocks
  exact zpc_ck (zpc_if (fun _ => pb_fX12_blocks_11) (fun _ => pb_fX12_blocks_11))
theorem pb_fX12_more {σ : zSt} {x1 : Int32} : zpc (fX12_more σ x1) (fun r => zr (8) (21) r.2) := by
  unfold fX12_more
  exact zpc_bv (fun v41 _ => zpc_bv (fun v42 _ => zpc_bv (fun v43 _ => zpc_if (fun _ => zpc_if (fun _ => zpc_mono (pb_fX12_more_42) (fun _ h => zr_w h (by decide))) (fun _ => zpc_if (fun _ => zpc_mono (pb_fX12_more_42) (fun _ h => zr_w h (by decide))) (fun _ => zpc_bi (pb_fX12_blocks) (fun σ44 v45 hv45 => zpc_some (zr_w hv45 (by decide)))))) (fun _ => zpc_mono (pb_fX12_more_42) (fun _ h => zr_w h (by decide))))))
theorem pb_fX12_more3_200 {σ : zSt} {s0 : Int32} (qs0 : zr 4 35 s0) : zpc (fX12_more3_200 σ s0) (fun r => zr (4) (35) r.2) := by
  unfold fX12_more3_200
  exact zpc_some qs0
theorem pb_fX12_prefixed_33 {σ : zSt} : zpc (fX12_prefixed_33 σ) (fun r => zr (4) (4) r.2) := by
  unfold fX12_prefixed_33
  exact zpc_ck (zpc_bv (fun σ1 _ => zpc_some (zr_c (x := 4) (lo := 4) (hi := 4) (by decide))))
theorem pb_fX12_turn_122 {σ : zSt} {s0 : Int32} (qs0 : zr 8 12 s0) : zpc (fX12_turn_122 σ s0) (fun r => zr (8) (12) r.2) := by
  unfold fX12_turn_122
  exact zpc_some qs0
theorem pb_fX12_turn_106 {σ : zSt} {x3 : Int32} {s0 : Int32} : zpc (fX12_turn_106 σ x3 s0) (fun r => zr (8) (12) r.2) := by
  unfold fX12_turn_106
  exact zpc_bu zpc_tt (fun σ1 _ => zpc_if (fun _ => pb_fX12_turn_122 (zr_w (zr_c (x := 12) (lo := 12) (hi := 12) (by decide)) (by decide))) (fun _ => pb_fX12_turn_122 (zr_w (zr_c (x := 8) (lo := 8) (hi := 8) (by decide)) (by decide))))
theorem pb_fX12_turn_69 {σ : zSt} {x3 : Int32} {x4 : Int32} {s0 : Int32} {s1 : Int32} : zpc (fX12_turn_69 σ x3 x4 s0 s1) (fun r => zr (8) (12) r.2) := by
  unfold fX12_turn_69
  exact zpc_bu zpc_tt (fun σ2 _ => zpc_bu zpc_tt (fun σ3 _ => zpc_bu zpc_tt (fun σ4 _ => zpc_if (fun _ => zpc_ck (pb_fX12_turn_106)) (fun _ => pb_fX12_turn_106))))
theorem pb_fX12_turn_219 {σ : zSt} {s0 : Int32} (qs0 : zr 8 15 s0) : zpc (fX12_turn_219 σ s0) (fun r => zr (8) (15) r.2) := by
  unfold fX12_turn_219
  exact zpc_some qs0
theorem pb_fX12_turn_193 {σ : zSt} {x3 : Int32} {x4 : Int32} : zpc (fX12_turn_193 σ x3 x4) (fun r => zr (8) (15) r.2) := by
  unfold fX12_turn_193
  exact zpc_bu zpc_tt (fun σ5 _ => zpc_bv (fun σ6 _ => zpc_if (fun _ => pb_fX12_turn_219 (zr_w (zr_c (x := 15) (lo := 15) (hi := 15) (by decide)) (by decide))) (fun _ => pb_fX12_turn_219 (zr_w (zr_c (x := 8) (lo := 8) (hi := 8) (by decide)) (by decide)))))
theorem pb_fX12_turn_191 {σ : zSt} {x3 : Int32} {s0 : Int32} : zpc (fX12_turn_191 σ x3 s0) (fun r => zr (8) (15) r.2) := by
  unfold fX12_turn_191
  exact pb_fX12_turn_193
theorem pb_fX12_turn_23 {σ : zSt} {x1 : Int32} {x2 : Int32} {s0 : Int32} : zpc (fX12_turn_23 σ x1 x2 s0) (fun r => zr (8) (15) r.2) := by
  unfold fX12_turn_23
  exact zpc_bi zpc_tt (fun σ7 v8 _ => zpc_bv (fun v9 _ => zpc_if (fun _ => zpc_bv (fun v18 _ => zpc_bu zpc_tt (fun σ19 _ => zpc_if (fun _ => zpc_mono (pb_fX12_turn_69) (fun _ h => zr_w h (by decide))) (fun _ => zpc_mono (pb_fX12_turn_69) (fun _ h => zr_w h (by decide)))))) (fun _ => zpc_if (fun _ => zpc_bi zpc_tt (fun σ10 v11 _ => zpc_bu zpc_tt (fun σ12 _ => zpc_bi zpc_tt (fun σ13 v14 _ => zpc_bu zpc_tt (fun σ15 _ => zpc_bu zpc_tt (fun σ16 _ => zpc_bu zpc_tt (fun σ17 _ => pb_fX12_turn_193))))))) (fun _ => zpc_if (fun _ => pb_fX12_turn_191) (fun _ => pb_fX12_turn_191)))))
theorem pb_fX12_turn {σ : zSt} {x1 : Int32} : zpc (fX12_turn σ x1) (fun r => zr (8) (15) r.2) := by
  unfold fX12_turn
  exact zpc_bv (fun v20 _ => zpc_if (fun _ => pb_fX12_turn_23) (fun _ => pb_fX12_turn_23))
theorem pb_fX12_prefixed_154 {σ : zSt} {s0 : Int32} (qs0 : zr 16 23 s0) : zpc (fX12_prefixed_154 σ s0) (fun r => zr (16) (23) r.2) := by
  unfold fX12_prefixed_154
  exact zpc_some qs0
theorem pb_fX12_prefixed_135 {σ : zSt} {x4 : Int32} {x5 : Int32} (qx5 : zr 8 15 x5) : zpc (fX12_prefixed_135 σ x4 x5) (fun r => zr (16) (23) r.2) := by
  unfold fX12_prefixed_135
  exact zpc_if (fun _ => pb_fX12_prefixed_154 (zr_w (zr_c (x := 20) (lo := 20) (hi := 20) (by decide)) (by decide))) (fun _ => pb_fX12_prefixed_154 (zr_add (lo := 16) (hi := 23) qx5 (zr_c (x := 8) (lo := 8) (hi := 8) (by decide)) (by decide)))
theorem pb_fX12_plain_r1_64 {σ : zSt} {s0 : Int32} (qs0 : zr 4 16 s0) : zpc (fX12_plain_r1_64 σ s0) (fun r => zr (4) (16) r.2) := by
  unfold fX12_plain_r1_64
  exact zpc_some qs0
theorem pb_fX12_plain_r1_116 {σ : zSt} {s0 : Int32} (qs0 : zr 4 7 s0) : zpc (fX12_plain_r1_116 σ s0) (fun r => zr (4) (7) r.2) := by
  unfold fX12_plain_r1_116
  exact zpc_some qs0
theorem pb_fX12_plain_r1_115 {σ : zSt} : zpc (fX12_plain_r1_115 σ) (fun r => zr (4) (7) r.2) := by
  unfold fX12_plain_r1_115
  exact pb_fX12_plain_r1_116 (zr_w (zr_c (x := 4) (lo := 4) (hi := 4) (by decide)) (by decide))
theorem pb_fX12_plain_r1_110 {σ : zSt} : zpc (fX12_plain_r1_110 σ) (fun r => zr (4) (7) r.2) := by
  unfold fX12_plain_r1_110
  exact pb_fX12_plain_r1_116 (zr_w (zr_c (x := 7) (lo := 7) (hi := 7) (by decide)) (by decide))
theorem pb_fX12_plain_r1_92 {σ : zSt} {x1 : Int32} {x2 : Int32} {x3 : Int32} : zpc (fX12_plain_r1_92 σ x1 x2 x3) (fun r => zr (4) (7) r.2) := by
  unfold fX12_plain_r1_92
  exact zpc_if (fun _ => pb_fX12_plain_r1_115) (fun _ => zpc_if (fun _ => pb_fX12_plain_r1_110) (fun _ => zpc_if (fun _ => pb_fX12_plain_r1_110) (fun _ => pb_fX12_plain_r1_115)))
theorem pb_fX12_plain_r1_139 {σ : zSt} {s0 : Int32} (qs0 : zr 4 7 s0) : zpc (fX12_plain_r1_139 σ s0) (fun r => zr (4) (7) r.2) := by
  unfold fX12_plain_r1_139
  exact zpc_some qs0
theorem pb_fX12_more3_r1_119 {σ : zSt} {s0 : Int32} : zpc (fX12_more3_r1_119 σ s0) (fun r => zr (11) (11) r.2) := by
  unfold fX12_more3_r1_119
  exact zpc_bu zpc_tt (fun σ1 _ => zpc_some (zr_c (x := 11) (lo := 11) (hi := 11) (by decide)))
theorem pb_fX12_more3_r1_200 {σ : zSt} {s0 : Int32} (qs0 : zr 4 23 s0) : zpc (fX12_more3_r1_200 σ s0) (fun r => zr (4) (23) r.2) := by
  unfold fX12_more3_r1_200
  exact zpc_some qs0
theorem pb_fX12_prefixed_r1_33 {σ : zSt} : zpc (fX12_prefixed_r1_33 σ) (fun r => zr (4) (4) r.2) := by
  unfold fX12_prefixed_r1_33
  exact zpc_ck (zpc_bv (fun σ1 _ => zpc_some (zr_c (x := 4) (lo := 4) (hi := 4) (by decide))))
theorem pb_fX12_prefixed_r1_154 {σ : zSt} {s0 : Int32} (qs0 : zr 16 23 s0) : zpc (fX12_prefixed_r1_154 σ s0) (fun r => zr (16) (23) r.2) := by
  unfold fX12_prefixed_r1_154
  exact zpc_some qs0
theorem pb_fX12_prefixed_r1_135 {σ : zSt} {x4 : Int32} {x5 : Int32} (qx5 : zr 8 15 x5) : zpc (fX12_prefixed_r1_135 σ x4 x5) (fun r => zr (16) (23) r.2) := by
  unfold fX12_prefixed_r1_135
  exact zpc_if (fun _ => pb_fX12_prefixed_r1_154 (zr_w (zr_c (x := 20) (lo := 20) (hi := 20) (by decide)) (by decide))) (fun _ => pb_fX12_prefixed_r1_154 (zr_add (lo := 16) (hi := 23) qx5 (zr_c (x := 8) (lo := 8) (hi := 8) (by decide)) (by decide)))
theorem pb_fX12_prefixed_r1_244 {σ : zSt} {x1 : Int32} {x3 : Int32} {s0 : Int32} : zpc (fX12_prefixed_r1_244 σ x1 x3 s0) (fun r => zr (10) (10) r.2) := by
  unfold fX12_prefixed_r1_244
  exact zpc_if (fun _ => zpc_bv (fun σ8 _ => zpc_none)) (fun _ => zpc_ck (zpc_bi zpc_tt (fun σ2 v3 _ => zpc_bi zpc_tt (fun σ4 v5 _ => zpc_ck (zpc_bv (fun σ6 _ => zpc_ck (zpc_bv (fun σ7 _ => zpc_none))))))))
theorem pb_fX12_prefixed_r1_239 {σ : zSt} {x1 : Int32} {x3 : Int32} : zpc (fX12_prefixed_r1_239 σ x1 x3) (fun r => zr (10) (10) r.2) := by
  unfold fX12_prefixed_r1_239
  exact pb_fX12_prefixed_r1_244
theorem pb_fX12_prefixed_r1_243 {σ : zSt} {x1 : Int32} {x3 : Int32} : zpc (fX12_prefixed_r1_243 σ x1 x3) (fun r => zr (10) (10) r.2) := by
  unfold fX12_prefixed_r1_243
  exact pb_fX12_prefixed_r1_244
theorem pb_fX12_prefixed_r1_226 {σ : zSt} {x1 : Int32} {x3 : Int32} {x5 : Int32} {x6 : Int32} : zpc (fX12_prefixed_r1_226 σ x1 x3 x5 x6) (fun r => zr (10) (10) r.2) := by
  unfold fX12_prefixed_r1_226
  exact zpc_if (fun _ => zpc_if (fun _ => pb_fX12_prefixed_r1_239) (fun _ => pb_fX12_prefixed_r1_243)) (fun _ => pb_fX12_prefixed_r1_243)
theorem pb_fX12_prefixed_r1_220 {σ : zSt} {x1 : Int32} {x3 : Int32} {x5 : Int32} {x6 : Int32} : zpc (fX12_prefixed_r1_220 σ x1 x3 x5 x6) (fun r => zr (10) (10) r.2) := by
  unfold fX12_prefixed_r1_220
  exact zpc_if (fun _ => pb_fX12_prefixed_r1_226) (fun _ => pb_fX12_prefixed_r1_239)
theorem pb_fX12_prefixed_r1_200 {σ : zSt} {x1 : Int32} {x3 : Int32} {x4 : Int32} {x5 : Int32} {x6 : Int32} : zpc (fX12_prefixed_r1_200 σ x1 x3 x4 x5 x6) (fun r => zr (10) (10) r.2) := by
  unfold fX12_prefixed_r1_200
  exact zpc_if (fun _ => zpc_if (fun _ => pb_fX12_prefixed_r1_220) (fun _ => zpc_if (fun _ => pb_fX12_prefixed_r1_220) (fun _ => pb_fX12_prefixed_r1_226))) (fun _ => pb_fX12_prefixed_r1_226)
theorem pb_fX12_prefixed_r1 {σ : zSt} {x1 : Int32} : zpc (fX12_prefixed_r1 σ x1) (fun r => zr (4) (23) r.2) := by
  unfold fX12_prefixed_r1
  exact zpc_ck (zpc_bi zpc_tt (fun σ9 v10 _ => zpc_if (fun _ => zpc_mono (pb_fX12_prefixed_r1_33) (fun _ h => zr_w h (by decide))) (fun _ => zpc_if (fun _ => zpc_mono (pb_fX12_prefixed_r1_33) (fun _ h => zr_w h (by decide))) (fun _ => zpc_if (fun _ => zpc_mono (pb_fX12_prefixed_r1_33) (fun _ h => zr_w h (by decide))) (fun _ => zpc_bi zpc_tt (fun σ11 v12 _ => zpc_if (fun _ => zpc_ck (zpc_bi zpc_tt (fun σ16 v17 _ => zpc_bi zpc_tt (fun σ18 v19 _ => zpc_ck (zpc_bv (fun σ20 _ => zpc_ck (zpc_bv (fun σ21 _ => zpc_bi zpc_tt (fun σ22 v23 _ => zpc_bi (pb_fX12_turn) (fun σ24 v25 hv25 => zpc_if (fun _ => zpc_mono (pb_fX12_prefixed_r1_135 hv25) (fun _ h => zr_w h (by decide))) (fun _ => zpc_if (fun _ => zpc_mono (pb_fX12_prefixed_r1_135 hv25) (fun _ h => zr_w h (by decide))) (fun _ => zpc_ck (zpc_bv (fun σ26 _ => zpc_bu zpc_tt (fun σ27 _ => zpc_mono (pb_fX12_prefixed_r1_135 hv25) (fun _ h => zr_w h (by decide))))))))))))))))) (fun _ => zpc_bv (fun v13 _ => zpc_bv (fun v14 _ => zpc_bv (fun v15 _ => zpc_if (fun _ => zpc_if (fun _ => zpc_mono (pb_fX12_prefixed_r1_200) (fun _ h => zr_w h (by decide))) (fun _ => zpc_if (fun _ => zpc_mono (pb_fX12_prefixed_r1_200) (fun _ h => zr_w h (by decide))) (fun _ => zpc_if (fun _ => zpc_mono (pb_fX12_prefixed_r1_239) (fun _ h => zr_w h (by decide))) (fun _ => zpc_mono (pb_fX12_prefixed_r1_200) (fun _ h => zr_w h (by decide)))))) (fun _ => zpc_mono (pb_fX12_prefixed_r1_200) (fun _ h => zr_w h (by decide)))))))))))))
theorem pb_fX12_more3_r1_197 {σ : zSt} {s0 : Int32} : zpc (fX12_more3_r1_197 σ s0) (fun r => zr (4) (23) r.2) := by
  unfold fX12_more3_r1_197
  exact zpc_bi (pb_fX12_prefixed_r1) (fun σ2 v3 hv3 => pb_fX12_more3_r1_200 hv3)
theorem pb_fX12_more3_r1 {σ : zSt} {x1 : Int32} {x2 : Int32} : zpc (fX12_more3_r1 σ x1 x2) (fun r => zr (4) (23) r.2) := by
  unfold fX12_more3_r1
  exact zpc_bv (fun v4 _ => zpc_if (fun _ => zpc_bi zpc_tt (fun σ22 v23 _ => zpc_ck (zpc_bv (fun σ24 _ => zpc_bi zpc_tt (fun σ25 v26 _ => zpc_if (fun _ => zpc_some (zr_w (zr_c (x := 10) (lo := 10) (hi := 10) (by decide)) (by decide))) (fun _ => zpc_ck (zpc_bu zpc_tt (fun σ27 _ => zpc_ck (zpc_ck (zpc_bv (fun σ28 _ => zpc_some (zr_w (zr_c (x := 17) (lo := 17) (hi := 17) (by decide)) (by decide))))))))))))) (fun _ => zpc_if (fun _ => zpc_bi zpc_tt (fun σ19 v20 _ => zpc_bu zpc_tt (fun σ21 _ => zpc_some (zr_w (zr_c (x := 7) (lo := 7) (hi := 7) (by decide)) (by decide))))) (fun _ => zpc_if (fun _ => zpc_bu zpc_tt (fun σ18 _ => zpc_some (zr_w (zr_c (x := 11) (lo := 11) (hi := 11) (by decide)) (by decide)))) (fun _ => zpc_ck (zpc_if (fun _ => zpc_if (fun _ => zpc_bi zpc_tt (fun σ16 v17 _ => zpc_mono (pb_fX12_more3_r1_119) (fun _ h => zr_w h (by decide)))) (fun _ => zpc_bi zpc_tt (fun σ14 v15 _ => zpc_mono (pb_fX12_more3_r1_119) (fun _ h => zr_w h (by decide))))) (fun _ => zpc_if (fun _ => zpc_bi zpc_tt (fun σ9 v10 _ => zpc_ck (zpc_bv (fun σ11 _ => zpc_ck (zpc_bu zpc_tt (fun σ12 _ => zpc_ck (zpc_ck (zpc_bv (fun σ13 _ => zpc_some (zr_w (zr_c (x := 17) (lo := 17) (hi := 17) (by decide)) (by decide))))))))))) (fun _ => zpc_if (fun _ => zpc_bi zpc_tt (fun σ5 v6 _ => zpc_bi (pb_fX12_more) (fun σ7 v8 hv8 => pb_fX12_more3_r1_200 (zr_w hv8 (by decide))))) (fun _ => zpc_if (fun _ => pb_fX12_more3_r1_197) (fun _ => pb_fX12_more3_r1_197)))))))))
theorem pb_fX12_plain_r1_160 {σ : zSt} {s0 : Int32} (qs0 : zr 4 23 s0) : zpc (fX12_plain_r1_160 σ s0) (fun r => zr (4) (23) r.2) := by
  unfold fX12_plain_r1_160
  exact zpc_some qs0
theorem pb_fX12_three_85 {σ : zSt} : zpc (fX12_three_85 σ) (fun r => zr (10) (10) r.2) := by
  unfold fX12_three_85
  exact zpc_some (zr_c (x := 10) (lo := 10) (hi := 10) (by decide))
theorem pb_fX12_three_200 {σ : zSt} {s0 : Int32} (qs0 : zr 4 6 s0) : zpc (fX12_three_200 σ s0) (fun r => zr (4) (6) r.2) := by
  unfold fX12_three_200
  exact zpc_some qs0
theorem pb_fX12_three_189 {σ : zSt} {x3 : Int32} : zpc (fX12_three_189 σ x3) (fun r => zr (4) (6) r.2) := by
  unfold fX12_three_189
  exact zpc_if (fun _ => pb_fX12_three_200 (zr_w (zr_c (x := 6) (lo := 6) (hi := 6) (by decide)) (by decide))) (fun _ => pb_fX12_three_200 (zr_w (zr_c (x := 4) (lo := 4) (hi := 4) (by decide)) (by decide)))
theorem pb_fX12_three_173 {σ : zSt} {x3 : Int32} : zpc (fX12_three_173 σ x3) (fun r => zr (4) (6) r.2) := by
  unfold fX12_three_173
  exact zpc_if (fun _ => zpc_bi zpc_tt (fun σ1 v2 _ => zpc_ck (zpc_bv (fun σ3 _ => pb_fX12_three_189)))) (fun _ => pb_fX12_three_189)
theorem pb_fX12_three_157 {σ : zSt} {x3 : Int32} : zpc (fX12_three_157 σ x3) (fun r => zr (4) (6) r.2) := by
  unfold fX12_three_157
  exact zpc_if (fun _ => zpc_bi zpc_tt (fun σ4 v5 _ => zpc_ck (zpc_bv (fun σ6 _ => pb_fX12_three_173)))) (fun _ => pb_fX12_three_173)
theorem pb_fX12_three_128_body {k128 : zSt → Int32 → Int32 → Option (zSt × Int32)} (hk : ∀ (y0 : zSt) (y1 : Int32) (y2 : Int32), zpc (k128 y0 y1 y2) (fun r => zr (4) (6) r.2)) {σ : zSt} {x3 : Int32} {x4 : Int32} : zpc (fX12_three_128_body k128 σ x3 x4) (fun r => zr (4) (6) r.2) := by
  unfold fX12_three_128_body
  exact zpc_if (fun _ => zpc_if (fun _ => pb_fX12_three_157) (fun _ => zpc_bu zpc_tt (fun σ7 _ => zpc_bv (fun v8 _ => hk _ _ _)))) (fun _ => pb_fX12_three_157)
theorem pb_fX12_three_128 : ∀ (n : Nat) (y0 : zSt) (y1 : Int32) (y2 : Int32), zpc (fX12_three_128 n y0 y1 y2) (fun r => zr (4) (6) r.2) := by
  intro n
  induction n with
  | zero => intro y0 y1 y2; exact zpc_none
  | succ n ih => intro y0 y1 y2; exact pb_fX12_three_128_body ih
theorem pb_fX12_three_239 {σ : zSt} : zpc (fX12_three_239 σ) (fun r => zr (10) (10) r.2) := by
  unfold fX12_three_239
  exact zpc_some (zr_c (x := 10) (lo := 10) (hi := 10) (by decide))
theorem pb_fX12_turns {σ : zSt} : zpc (fX12_turns σ) (fun r => zr (8) (15) r.2) := by
  unfold fX12_turns
  exact zpc_bi zpc_tt (fun σ1 v2 _ => zpc_bi (pb_fX12_turn) (fun σ3 v4 hv4 => zpc_some hv4))
theorem pb_fX12_three_502 {σ : zSt} : zpc (fX12_three_502 σ) (fun r => zr (4) (4) r.2) := by
  unfold fX12_three_502
  exact zpc_some (zr_c (x := 4) (lo := 4) (hi := 4) (by decide))
theorem pb_fX12_three_88 {σ : zSt} {x1 : Int32} {x2 : Int32} {x3 : Int32} : zpc (fX12_three_88 σ x1 x2 x3) (fun r => zr (4) (19) r.2) := by
  unfold fX12_three_88
  exact zpc_if (fun _ => zpc_if (fun _ => zpc_bi zpc_tt (fun σ43 v44 _ => zpc_ck (zpc_bv (fun σ45 _ => zpc_ck (zpc_ck (zpc_bv (fun σ46 _ => zpc_some (zr_w (zr_c (x := 10) (lo := 10) (hi := 10) (by decide)) (by decide))))))))) (fun _ => zpc_mono (pb_fX12_three_128 _ _ _ _) (fun _ h => zr_w h (by decide)))) (fun _ => zpc_if (fun _ => zpc_bi zpc_tt (fun σ37 v38 _ => zpc_ck (zpc_bv (fun σ39 _ => zpc_bi zpc_tt (fun σ40 v41 _ => zpc_if (fun _ => zpc_mono (pb_fX12_three_239) (fun _ h => zr_w h (by decide))) (fun _ => zpc_ck (zpc_ck (zpc_bv (fun σ42 _ => zpc_mono (pb_fX12_three_239) (fun _ h => zr_w h (by decide))))))))))) (fun _ => zpc_if (fun _ => zpc_bi zpc_tt (fun σ9 v10 _ => zpc_ck (zpc_bv (fun σ11 _ => zpc_ck (zpc_ck (zpc_bv (fun σ12 _ => zpc_some (zr_w (zr_c (x := 10) (lo := 10) (hi := 10) (by decide)) (by decide))))))))) (fun _ => zpc_if (fun _ => zpc_bi (pb_fX12_turns) (fun σ13 v14 hv14 => zpc_some (zr_w hv14 (by decide)))) (fun _ => zpc_if (fun _ => zpc_bi zpc_tt (fun σ15 v16 _ => zpc_ck (zpc_bu zpc_tt (fun σ17 _ => zpc_ck (zpc_ck (zpc_bv (fun σ18 _ => zpc_some (zr_w (zr_c (x := 11) (lo := 11) (hi := 11) (by decide)) (by decide))))))))) (fun _ => zpc_if (fun _ => zpc_bi zpc_tt (fun σ19 v20 _ => zpc_ck (zpc_ck (zpc_bv (fun σ21 _ => zpc_bi zpc_tt (fun σ22 v23 _ => zpc_ck (zpc_bv (fun σ24 _ => zpc_some (zr_w (zr_c (x := 11) (lo := 11) (hi := 11) (by decide)) (by decide)))))))))) (fun _ => zpc_if (fun _ => zpc_ck (zpc_bi zpc_tt (fun σ25 v26 _ => zpc_ck (zpc_bi zpc_tt (fun σ27 v28 _ => zpc_bu zpc_tt (fun σ29 _ => zpc_bu zpc_tt (fun σ30 _ => zpc_ck (zpc_bv (fun σ31 _ => zpc_some (zr_w (zr_c (x := 19) (lo := 19) (hi := 19) (by decide)) (by decide))))))))))) (fun _ => zpc_if (fun _ => zpc_bu zpc_tt (fun σ32 _ => zpc_bu zpc_tt (fun σ33 _ => zpc_some (zr_w (zr_c (x := 4) (lo := 4) (hi := 4) (by decide)) (by decide))))) (fun _ => zpc_ck (zpc_bv (fun σ34 _ => zpc_ck (zpc_bv (fun σ35 _ => zpc_if (fun _ => zpc_ck (zpc_bv (fun σ36 _ => zpc_mono (pb_fX12_three_502) (fun _ h => zr_w h (by decide))))) (fun _ => zpc_mono (pb_fX12_three_502) (fun _ h => zr_w h (by decide)))))))))))))))
theorem pb_fX12_three {σ : zSt} {x1 : Int32} {x2 : Int32} : zpc (fX12_three σ x1 x2) (fun r => zr (4) (19) r.2) := by
  unfold fX12_three
  exact zpc_bv (fun v47 _ => zpc_if (fun _ => zpc_bi zpc_tt (fun σ52 v53 _ => zpc_if (fun _ => zpc_some (zr_w (zr_c (x := 5) (lo := 5) (hi := 5) (by decide)) (by decide))) (fun _ => zpc_bi zpc_tt (fun σ54 v55 _ => zpc_ck (zpc_bv (fun σ56 _ => zpc_ck (zpc_ck (zpc_bv (fun σ57 _ => zpc_some (zr_w (zr_c (x := 11) (lo := 11) (hi := 11) (by decide)) (by decide))))))))))) (fun _ => zpc_if (fun _ => zpc_ck (zpc_if (fun _ => zpc_bi zpc_tt (fun σ48 v49 _ => zpc_if (fun _ => zpc_bu zpc_tt (fun σ51 _ => zpc_mono (pb_fX12_three_85) (fun _ h => zr_w h (by decide)))) (fun _ => zpc_bu zpc_tt (fun σ50 _ => zpc_mono (pb_fX12_three_85) (fun _ h => zr_w h (by decide)))))) (fun _ => pb_fX12_three_88))) (fun _ => pb_fX12_three_88)))
theorem pb_fX12_plain_r1 {σ : zSt} {x1 : Int32} : zpc (fX12_plain_r1 σ x1) (fun r => zr (4) (23) r.2) := by
  unfold fX12_plain_r1
  exact zpc_bv (fun v1 _ => zpc_bv (fun v2 _ => zpc_if (fun _ => zpc_if (fun _ => zpc_bi (pb_fX12_singles) (fun σ3 v4 hv4 => zpc_mono (pb_fX12_plain_r1_64 (zr_w hv4 (by decide))) (fun _ h => zr_w h (by decide)))) (fun _ => zpc_bi (pb_fX12_zero) (fun σ5 v6 hv6 => zpc_mono (pb_fX12_plain_r1_64 hv6) (fun _ h => zr_w h (by decide))))) (fun _ => zpc_if (fun _ => zpc_if (fun _ => zpc_ck (zpc_bv (fun σ10 _ => zpc_mono (pb_fX12_plain_r1_92) (fun _ h => zr_w h (by decide))))) (fun _ => zpc_bi zpc_tt (fun σ7 v8 _ => zpc_bu zpc_tt (fun σ9 _ => zpc_mono (pb_fX12_plain_r1_92) (fun _ h => zr_w h (by decide)))))) (fun _ => zpc_if (fun _ => zpc_bi zpc_tt (fun σ11 v12 _ => zpc_bu zpc_tt (fun σ13 _ => zpc_if (fun _ => zpc_mono (pb_fX12_plain_r1_139 (zr_w (zr_c (x := 7) (lo := 7) (hi := 7) (by decide)) (by decide))) (fun _ h => zr_w h (by decide))) (fun _ => zpc_mono (pb_fX12_plain_r1_139 (zr_w (zr_c (x := 4) (lo := 4) (hi := 4) (by decide)) (by decide))) (fun _ h => zr_w h (by decide)))))) (fun _ => zpc_if (fun _ => zpc_bi (pb_fX12_more3_r1) (fun σ14 v15 hv15 => pb_fX12_plain_r1_160 hv15)) (fun _ => zpc_bi (pb_fX12_three) (fun σ16 v17 hv17 => pb_fX12_plain_r1_160 (zr_w hv17 (by decide)))))))))
theorem pb_fX12_prefixed_311 {σ : zSt} {s0 : Int32} {s1 : Int32} (qs0 : zr 9 12 s0) (qs1 : zr 4 23 s1) : zpc (fX12_prefixed_311 σ s0 s1) (fun r => zr (13) (35) r.2) := by
  unfold fX12_prefixed_311
  exact zpc_some (zr_add (lo := 13) (hi := 35) qs1 qs0 (by decide))
theorem pb_fX12_prefixed_244 {σ : zSt} {x1 : Int32} {x3 : Int32} {s0 : Int32} : zpc (fX12_prefixed_244 σ x1 x3 s0) (fun r => zr (8) (35) r.2) := by
  unfold fX12_prefixed_244
  exact zpc_if (fun _ => zpc_bv (fun σ10 _ => zpc_bi (pb_fX12_plain_r1) (fun σ11 v12 hv12 => zpc_some (zr_w (zr_add (lo := 8) (hi := 27) hv12 (zr_c (x := 4) (lo := 4) (hi := 4) (by decide)) (by decide)) (by decide))))) (fun _ => zpc_ck (zpc_bi zpc_tt (fun σ2 v3 _ => zpc_bi zpc_tt (fun σ4 v5 _ => zpc_ck (zpc_bv (fun σ6 _ => zpc_ck (zpc_bv (fun σ7 _ => zpc_bi (pb_fX12_plain_r1) (fun σ8 v9 hv9 => zpc_if (fun _ => zpc_mono (pb_fX12_prefixed_311 (zr_w (zr_c (x := 9) (lo := 9) (hi := 9) (by decide)) (by decide)) hv9) (fun _ h => zr_w h (by decide))) (fun _ => zpc_mono (pb_fX12_prefixed_311 (zr_w (zr_c (x := 12) (lo := 12) (hi := 12) (by decide)) (by decide)) hv9) (fun _ h => zr_w h (by decide))))))))))))
theorem pb_fX12_prefixed_239 {σ : zSt} {x1 : Int32} {x3 : Int32} : zpc (fX12_prefixed_239 σ x1 x3) (fun r => zr (8) (35) r.2) := by
  unfold fX12_prefixed_239
  exact pb_fX12_prefixed_244
theorem pb_fX12_prefixed_243 {σ : zSt} {x1 : Int32} {x3 : Int32} : zpc (fX12_prefixed_243 σ x1 x3) (fun r => zr (8) (35) r.2) := by
  unfold fX12_prefixed_243
  exact pb_fX12_prefixed_244
theorem pb_fX12_prefixed_226 {σ : zSt} {x1 : Int32} {x3 : Int32} {x5 : Int32} {x6 : Int32} : zpc (fX12_prefixed_226 σ x1 x3 x5 x6) (fun r => zr (8) (35) r.2) := by
  unfold fX12_prefixed_226
  exact zpc_if (fun _ => zpc_if (fun _ => pb_fX12_prefixed_239) (fun _ => pb_fX12_prefixed_243)) (fun _ => pb_fX12_prefixed_243)
theorem pb_fX12_prefixed_220 {σ : zSt} {x1 : Int32} {x3 : Int32} {x5 : Int32} {x6 : Int32} : zpc (fX12_prefixed_220 σ x1 x3 x5 x6) (fun r => zr (8) (35) r.2) := by
  unfold fX12_prefixed_220
  exact zpc_if (fun _ => pb_fX12_prefixed_226) (fun _ => pb_fX12_prefixed_239)
theorem pb_fX12_prefixed_200 {σ : zSt} {x1 : Int32} {x3 : Int32} {x4 : Int32} {x5 : Int32} {x6 : Int32} : zpc (fX12_prefixed_200 σ x1 x3 x4 x5 x6) (fun r => zr (8) (35) r.2) := by
  unfold fX12_prefixed_200
  exact zpc_if (fun _ => zpc_if (fun _ => pb_fX12_prefixed_220) (fun _ => zpc_if (fun _ => pb_fX12_prefixed_220) (fun _ => pb_fX12_prefixed_226))) (fun _ => pb_fX12_prefixed_226)
theorem pb_fX12_prefixed {σ : zSt} {x1 : Int32} : zpc (fX12_prefixed σ x1) (fun r => zr (4) (35) r.2) := by
  unfold fX12_prefixed
  exact zpc_ck (zpc_bi zpc_tt (fun σ13 v14 _ => zpc_if (fun _ => zpc_mono (pb_fX12_prefixed_33) (fun _ h => zr_w h (by decide))) (fun _ => zpc_if (fun _ => zpc_mono (pb_fX12_prefixed_33) (fun _ h => zr_w h (by decide))) (fun _ => zpc_if (fun _ => zpc_mono (pb_fX12_prefixed_33) (fun _ h => zr_w h (by decide))) (fun _ => zpc_bi zpc_tt (fun σ15 v16 _ => zpc_if (fun _ => zpc_ck (zpc_bi zpc_tt (fun σ20 v21 _ => zpc_bi zpc_tt (fun σ22 v23 _ => zpc_ck (zpc_bv (fun σ24 _ => zpc_ck (zpc_bv (fun σ25 _ => zpc_bi zpc_tt (fun σ26 v27 _ => zpc_bi (pb_fX12_turn) (fun σ28 v29 hv29 => zpc_if (fun _ => zpc_mono (pb_fX12_prefixed_135 hv29) (fun _ h => zr_w h (by decide))) (fun _ => zpc_if (fun _ => zpc_mono (pb_fX12_prefixed_135 hv29) (fun _ h => zr_w h (by decide))) (fun _ => zpc_ck (zpc_bv (fun σ30 _ => zpc_bu zpc_tt (fun σ31 _ => zpc_mono (pb_fX12_prefixed_135 hv29) (fun _ h => zr_w h (by decide))))))))))))))))) (fun _ => zpc_bv (fun v17 _ => zpc_bv (fun v18 _ => zpc_bv (fun v19 _ => zpc_if (fun _ => zpc_if (fun _ => zpc_mono (pb_fX12_prefixed_200) (fun _ h => zr_w h (by decide))) (fun _ => zpc_if (fun _ => zpc_mono (pb_fX12_prefixed_200) (fun _ h => zr_w h (by decide))) (fun _ => zpc_if (fun _ => zpc_mono (pb_fX12_prefixed_239) (fun _ h => zr_w h (by decide))) (fun _ => zpc_mono (pb_fX12_prefixed_200) (fun _ h => zr_w h (by decide)))))) (fun _ => zpc_mono (pb_fX12_prefixed_200) (fun _ h => zr_w h (by decide)))))))))))))
theorem pb_fX12_more3_197 {σ : zSt} {s0 : Int32} : zpc (fX12_more3_197 σ s0) (fun r => zr (4) (35) r.2) := by
  unfold fX12_more3_197
  exact zpc_bi (pb_fX12_prefixed) (fun σ2 v3 hv3 => pb_fX12_more3_200 hv3)
theorem pb_fX12_more3 {σ : zSt} {x1 : Int32} {x2 : Int32} : zpc (fX12_more3 σ x1 x2) (fun r => zr (4) (35) r.2) := by
  unfold fX12_more3
  exact zpc_bv (fun v4 _ => zpc_if (fun _ => zpc_bi zpc_tt (fun σ22 v23 _ => zpc_ck (zpc_bv (fun σ24 _ => zpc_bi zpc_tt (fun σ25 v26 _ => zpc_if (fun _ => zpc_some (zr_w (zr_c (x := 10) (lo := 10) (hi := 10) (by decide)) (by decide))) (fun _ => zpc_ck (zpc_bu zpc_tt (fun σ27 _ => zpc_ck (zpc_ck (zpc_bv (fun σ28 _ => zpc_some (zr_w (zr_c (x := 17) (lo := 17) (hi := 17) (by decide)) (by decide))))))))))))) (fun _ => zpc_if (fun _ => zpc_bi zpc_tt (fun σ19 v20 _ => zpc_bu zpc_tt (fun σ21 _ => zpc_some (zr_w (zr_c (x := 7) (lo := 7) (hi := 7) (by decide)) (by decide))))) (fun _ => zpc_if (fun _ => zpc_bu zpc_tt (fun σ18 _ => zpc_some (zr_w (zr_c (x := 11) (lo := 11) (hi := 11) (by decide)) (by decide)))) (fun _ => zpc_ck (zpc_if (fun _ => zpc_if (fun _ => zpc_bi zpc_tt (fun σ16 v17 _ => zpc_mono (pb_fX12_more3_119) (fun _ h => zr_w h (by decide)))) (fun _ => zpc_bi zpc_tt (fun σ14 v15 _ => zpc_mono (pb_fX12_more3_119) (fun _ h => zr_w h (by decide))))) (fun _ => zpc_if (fun _ => zpc_bi zpc_tt (fun σ9 v10 _ => zpc_ck (zpc_bv (fun σ11 _ => zpc_ck (zpc_bu zpc_tt (fun σ12 _ => zpc_ck (zpc_ck (zpc_bv (fun σ13 _ => zpc_some (zr_w (zr_c (x := 17) (lo := 17) (hi := 17) (by decide)) (by decide))))))))))) (fun _ => zpc_if (fun _ => zpc_bi zpc_tt (fun σ5 v6 _ => zpc_bi (pb_fX12_more) (fun σ7 v8 hv8 => pb_fX12_more3_200 (zr_w hv8 (by decide))))) (fun _ => zpc_if (fun _ => pb_fX12_more3_197) (fun _ => pb_fX12_more3_197)))))))))
theorem pb_fX12_plain_160 {σ : zSt} {s0 : Int32} (qs0 : zr 4 35 s0) : zpc (fX12_plain_160 σ s0) (fun r => zr (4) (35) r.2) := by
  unfold fX12_plain_160
  exact zpc_some qs0
theorem pb_fX12_plain {σ : zSt} {x1 : Int32} : zpc (fX12_plain σ x1) (fun r => zr (4) (35) r.2) := by
  unfold fX12_plain
  exact zpc_bv (fun v1 _ => zpc_bv (fun v2 _ => zpc_if (fun _ => zpc_if (fun _ => zpc_bi (pb_fX12_singles) (fun σ3 v4 hv4 => zpc_mono (pb_fX12_plain_64 (zr_w hv4 (by decide))) (fun _ h => zr_w h (by decide)))) (fun _ => zpc_bi (pb_fX12_zero) (fun σ5 v6 hv6 => zpc_mono (pb_fX12_plain_64 hv6) (fun _ h => zr_w h (by decide))))) (fun _ => zpc_if (fun _ => zpc_if (fun _ => zpc_ck (zpc_bv (fun σ10 _ => zpc_mono (pb_fX12_plain_92) (fun _ h => zr_w h (by decide))))) (fun _ => zpc_bi zpc_tt (fun σ7 v8 _ => zpc_bu zpc_tt (fun σ9 _ => zpc_mono (pb_fX12_plain_92) (fun _ h => zr_w h (by decide)))))) (fun _ => zpc_if (fun _ => zpc_bi zpc_tt (fun σ11 v12 _ => zpc_bu zpc_tt (fun σ13 _ => zpc_if (fun _ => zpc_mono (pb_fX12_plain_139 (zr_w (zr_c (x := 7) (lo := 7) (hi := 7) (by decide)) (by decide))) (fun _ h => zr_w h (by decide))) (fun _ => zpc_mono (pb_fX12_plain_139 (zr_w (zr_c (x := 4) (lo := 4) (hi := 4) (by decide)) (by decide))) (fun _ h => zr_w h (by decide)))))) (fun _ => zpc_if (fun _ => zpc_bi (pb_fX12_more3) (fun σ14 v15 hv15 => pb_fX12_plain_160 hv15)) (fun _ => zpc_bi (pb_fX12_three) (fun σ16 v17 hv17 => pb_fX12_plain_160 (zr_w hv17 (by decide)))))))))
theorem pb_fX12_instruction {σ : zSt} : zpc (fX12_instruction σ) (fun r => zr (4) (35) r.2) := by
  unfold fX12_instruction
  exact zpc_bv (fun σ1 _ => zpc_ck (zpc_bv (fun σ2 _ => zpc_bi zpc_tt (fun σ3 v4 _ => zpc_bi (pb_fX12_plain) (fun σ5 v6 hv6 => zpc_some hv6)))))
theorem p_beats {σ : zSt} : zpc (fX12_instruction σ ) (fun r => zr 1 64 r.2) := zpc_mono pb_fX12_instruction (fun _ h => zr_w h (by decide))
end ZJN3
