/-! PREFIXES -/
def mpl (op : Int32) : Int32 := if op >>> ((6 : Int32) &&& 31) = 0 then (if (if op &&& 56 = 48 then (1 : Int32) else 0) = 0 then 0 else if op &&& 7 < 4 then 0 else if 6 < op &&& 7 then 0 else 1) else if op >>> ((6 : Int32) &&& 31) = 1 then (if (if op &&& 56 = 48 then (1 : Int32) else 0) = (if op &&& 7 = 6 then 1 else 0) then 0 else 1) else if op >>> ((6 : Int32) &&& 31) = 2 then (if op &&& 7 = 6 then 1 else 0) else 0
def pml6 (x z : Int32) : Int32 := if x = 2 then (if z = 6 then 1 else 0) else 0
def pml2 (op x z : Int32) : Int32 := if op = 118 then pml6 x z else 1
def pml0 (op x y z : Int32) : Int32 := if x = 1 then (if y = 6 then pml2 op x z else if z = 6 then pml2 op x z else pml6 x z) else pml6 x z
def pml (op x y z : Int32) : Int32 := if x = 0 then (if z ≤ 3 then pml0 op x y z else if 7 ≤ z then pml0 op x y z else if y = 6 then 1 else pml0 op x y z) else pml0 op x y z
theorem v_mpl : ∀ i : Fin 256, pml (Int32.ofNat i.val) (Int32.ofNat i.val >>> ((6 : Int32) &&& 31)) ((Int32.ofNat i.val >>> ((3 : Int32) &&& 31)) &&& 7) (Int32.ofNat i.val &&& 7) = mpl (Int32.ofNat i.val) ∧ (mpl (Int32.ofNat i.val) = 0 ∨ mpl (Int32.ofNat i.val) = 1) := by decide +kernel
theorem z_mpl {op : Int32} (h : zr 0 255 op) : pml op (op >>> ((6 : Int32) &&& 31)) ((op >>> ((3 : Int32) &&& 31)) &&& 7) (op &&& 7) = mpl op ∧ (mpl op = 0 ∨ mpl op = 1) := by
  obtain ⟨i, e⟩ := z_byteF h
  subst e
  exact v_mpl i
section ZPX
variable {I : zSt → zSt → Prop} {σ μ : zSt}
theorem p_mpl {op : Int32} : zpc (fX5_meansPlace σ op) (fun r => r = (σ, mpl op)) := by
  unfold fX5_meansPlace mpl
  refine zpc_jx (K := fun v => fX5_meansPlace_14 σ op v) (a := 1) (b := 0) rfl rfl (fun a ea => ?_)
  unfold fX5_meansPlace_14
  refine zpc_jx (K := fun v => fX5_meansPlace_29 σ op a v) (a := 1) (b := 0) rfl rfl (fun b eb => ?_)
  rw [← ea, ← eb]
  unfold fX5_meansPlace_29 fX5_meansPlace_85 fX5_meansPlace_86 fX5_meansPlace_97
  refine zpc_if (fun x => ?_) (fun x => ?_)
  · rw [if_pos x]
    exact zpc_if (fun q => zpc_ck (zpc_some (by rw [if_pos q]))) (fun q => zpc_if (fun r => zpc_ck (zpc_some (by rw [if_neg q, if_pos r]))) (fun r => zpc_if (fun u => zpc_ck (zpc_some (by rw [if_neg q, if_neg r, if_pos u]))) (fun u => zpc_ck (zpc_some (by rw [if_neg q, if_neg r, if_neg u])))))
  · rw [if_neg x]
    refine zpc_if (fun x1 => ?_) (fun x1 => ?_)
    · rw [if_pos x1]
      exact zpc_if (fun q => zpc_ck (zpc_some (by rw [if_pos q]))) (fun q => zpc_ck (zpc_some (by rw [if_neg q])))
    · rw [if_neg x1]
      exact zpc_if (fun q => zpc_ck (zpc_some (by rw [if_pos q]))) (fun q => zpc_ck (zpc_some (by rw [if_neg q])))
theorem e_pml {op w x y z : Int32} : (if x = 0 then if z ≤ 3 then fX12_prefixed_200 μ w op y z x else if 7 ≤ z then fX12_prefixed_200 μ w op y z x else if y = 6 then fX12_prefixed_239 μ w op else fX12_prefixed_200 μ w op y z x else fX12_prefixed_200 μ w op y z x) = fX12_prefixed_244 μ w op (pml op x y z) := by
  have e6 : fX12_prefixed_226 μ w op z x = fX12_prefixed_244 μ w op (pml6 x z) := z_jx (K := fun v => fX12_prefixed_244 μ w op v) (z_jx (a := 1) (b := 0) rfl rfl) (b := 0) rfl
  have e2 : fX12_prefixed_220 μ w op z x = fX12_prefixed_244 μ w op (pml2 op x z) := z_jx (K := fun v => fX12_prefixed_244 μ w op v) e6 (b := 1) rfl
  have e0 : fX12_prefixed_200 μ w op y z x = fX12_prefixed_244 μ w op (pml0 op x y z) := z_jx (K := fun v => fX12_prefixed_244 μ w op v) (z_jx e2 (z_jx e2 e6)) e6
  exact z_jx (K := fun v => fX12_prefixed_244 μ w op v) (z_jx e0 (z_jx e0 (z_jx (a := 1) rfl e0))) e0
theorem zTT.pl (hI : zIoK I) (h : zTT I σ μ) {v u : Int32} : zTT I (zsi σ 7 5 v) (zsi μ 0 32 u) := ⟨h.1.keep (zQ.wi zQ.rf rfl) (zQ.wi zQ.rf rfl), ⟨fun j a b c => h.2.1.1 j a b c, h.2.1.2.1, h.2.1.2.2.1, h.2.1.2.2.2⟩, h.2.2.1.of rfl rfl, hI _ _ _ _ h.2.2.2 (zQ.wi zQ.rf rfl) (zQ.wi zQ.rf rfl)⟩
theorem z_ia {α : Type} {o : Option (zSt × Int32)} {f : zSt → Int32 → Option (zSt × Int32)} {k : zSt → Int32 → Option α} : zbi (zbi o f) k = zbi o (fun s v => zbi (f s v) k) := by
  cases o with
  | none => rfl
  | some r => rfl
/-- the class fetches within; the reference fetches -/
theorem zp2_fx {α β : Type} {c : Bool} {o p : Option (zSt × Int32)} {f : zSt → Int32 → Option (zSt × Int32)} {k : zSt → Int32 → Option α} {g : zSt → Int32 → Option β} {P : zSt × Int32 → zSt × Int32 → Prop} {Q : α → β → Prop} (h : zp2 o p P) (n : ∀ s v t w, P (s, v) (t, w) → zp2 (zbi (f s v) k) (g t w) Q) : zp2 (zbi (zck c (zbi o f)) k) (zbi p g) Q := by
  intro a b ea eb
  cases c with
  | false => cases ea
  | true =>
    have ea : zbi (zbi o f) k = some a := ea
    cases e1 : o with
    | none => rw [e1] at ea; cases ea
    | some r =>
      cases e2 : p with
      | none => rw [e2] at eb; cases eb
      | some r' =>
        rw [e1] at ea
        rw [e2] at eb
        exact n r.1 r.2 r'.1 r'.2 (h r r' e1 e2) a b ea eb
theorem t_px (hI : zIoK I) (hPo : zPorts I) (h : zTT I σ μ) (hF : zF σ μ) (hW : zWzz σ μ) (hp : zPlc σ μ) (h7 : σ.1 7 4 = 6) (h28 : σ.1 36 28 = 0) {op w : Int32} (hw : w = 16 ∨ w = 17) (ho : zr 0 255 op) (n1 : ¬ op = 203) (n2 : ¬ op = 237) (n3 : ¬ op = 221) (n4 : ¬ op = 253) : zp2 (zbi (fX5_takePlace (zsi σ 7 4 w) op) (fun σ25 v26 => fX5_carryOn_141 σ25 op v26)) (fX12_prefixed_244 μ w op (mpl op)) (zEnq I) := by
  have en : ∀ (c : Int32) (r b : zSt × Int32), zEn2 I c r b → zEnq I r (b.1, b.2 + c) := fun c r b q => q
  unfold fX5_takePlace fX12_prefixed_244
  rcases (z_mpl ho).2 with m0 | m1
  · refine zp2_bil (P := fun r => r = (zsi σ 7 4 w, 4)) (zpc_bi p_mpl (fun s v e => ?_)) (fun s v e => ?_)
    · cases e
      exact zpc_if (fun _ => zpc_some rfl) (fun q => absurd m0 q)
    · cases e
      refine zp2_ifr (fun _ => zp2_bvr (fun t1 g1 => ?_)) (fun q => absurd m0 q)
      subst g1
      have hq := t_quart_r1 hI hPo (h.j6 hI hw) (show zF (zsi σ 7 4 w) (zsi μ 0 31 w) from hF) (show zWzz (zsi σ 7 4 w) (zsi μ 0 31 w) from hW) (hp.of (σ1 := zsi σ 7 4 w) (μ1 := zsi μ 0 31 w) rfl rfl rfl rfl rfl) (show (zsi σ 7 4 w).1 36 28 = 0 from h28) (op := op) (x2 := 4) ho n1 n2 n3 n4
      exact zp2_birp hq (fun a t v q => zp2_some (en 4 a (t, v) q))
  · refine zp2_ifr (fun q => absurd (m1.symm.trans q) (by decide)) (fun _ => zp2_ckr ?_)
    rw [z_ia]
    refine zp2_bil p_mpl (fun s v e => ?_)
    cases e
    rw [if_neg (fun q => absurd (m1.symm.trans q) (by decide))]
    have ej : zgi (zsi σ 7 4 w) 7 4 = w := rfl
    have ei : zgi (zsi σ 7 4 w) 36 w.toNatClampNeg = zgi μ 3 w.toNatClampNeg := by
      rcases hw with e | e
      · subst e; exact (h.eq (j := 16) (by decide)).symm
      · subst e; exact (h.eq (j := 17) (by decide)).symm
    rw [ej, ei]
    -- the class fetches, then goes on
    refine zp2_fx (t_nextJ hI h (w := w)) (fun s1 v t v' q => ?_)
    obtain ⟨s', q1, h1, q3, q4, qc, qm⟩ := q
    have q3 : v' = v := q3
    subst q3
    have q4 : zr 0 255 v' := q4
    refine zp2_bir p_signed (fun t1 v1 et => ?_)
    cases et
    refine zp2_ckr (zp2_bvr (fun t2 g2 => zp2_ckr (zp2_bvr (fun t3 g3 => ?_))))
    have ev : v'.toInt8.toInt32 = if 128 ≤ v' then v' - 256 else v' := z_i8s q4
    rw [ev]
    generalize hV : ((zgi μ 3 w.toNatClampNeg) + (if 128 ≤ v' then v' - 256 else v')) &&& 65535 = V at g2
    have rV : zr 0 65535 V := by rw [← hV]; exact z_r16 _
    have zz := (zEnq.wz hI h1 (hF.of (qc.1 36 1 rfl) (qm.1 3 1 rfl)) (v := V) rfl rV (b := 0))
    have q1 : s1 = zsi s' 7 4 w := q1
    have s7 : s'.1 7 4 = 6 := (qc.1 7 4 rfl).trans h7
    have eS : zsi (zsi (zsi s1 36 20 V) 7 5 V) 7 4 6 = zsi (zsi s' 36 20 V) 7 5 V := by
      rw [q1, zsi_cr (k := 7) (l := 36) (by decide), zsi_comm (ν := zsi s' 36 20 V) (k := 7) (i := 4) (j := 5) (by decide), zsi_ow]
      have e4 : zsi (zsi (zsi s' 36 20 V) 7 5 V) 7 4 ((zsi (zsi s' 36 20 V) 7 5 V).1 7 4) = zsi (zsi s' 36 20 V) 7 5 V := zsi_own
      rw [show (zsi (zsi s' 36 20 V) 7 5 V).1 7 4 = 6 from s7] at e4
      exact e4
    have hS : zTT I (zsi (zsi s' 36 20 V) 7 5 V) t3 := by rw [g3, g2]; exact zz.1.pl hI
    have fS : zF (zsi (zsi s' 36 20 V) 7 5 V) t3 := by rw [g3, g2]; exact zz.2.1
    have wS : zWzz (zsi (zsi s' 36 20 V) 7 5 V) t3 := by rw [g3, g2]; rfl
    have pS : zPlc (zsi (zsi s' 36 20 V) 7 5 V) t3 := by
      rw [g3, g2]
      exact Or.inr ⟨show ¬ (1 : Int32) = 0 by decide, rfl⟩
    have c28 : (zsi (zsi s' 36 20 V) 7 5 V).1 36 28 = 0 := (qc.1 36 28 rfl).trans h28
    have hq := fun x2 => t_quart_r1 hI hPo hS fS wS pS c28 (op := op) (x2 := x2) ho n1 n2 n3 n4
    have fin : ∀ c : Int32, zp2 (fX5_carryOn_141 (zsi (zsi (zsi s1 36 20 V) 7 5 V) 7 4 6) op c) (zbi (fX12_plain_r1 t3 op) (fun σ8 v9 => fX12_prefixed_311 σ8 c v9)) (zEnq I) := fun c => by
      rw [eS]
      exact zp2_birp (hq c) (fun a t v q => zp2_some (en c a (t, v) q))
    by_cases o54 : op = 54
    · have e1 : (zck (zin 20 29) (zbv (zsi s1 36 ((20 : Int32).toNatClampNeg) V) (fun σ5 => zck (zin 20 29) (zbv (zsi σ5 7 5 (zgi σ5 36 (20 : Int32).toNatClampNeg)) (fun σ6 => zbv (zsi σ6 7 4 6) (fun σ7 => if op = 54 then fX5_takePlace_64 σ7 9 else fX5_takePlace_64 σ7 12)))))) = some (zsi (zsi (zsi s1 36 20 V) 7 5 V) 7 4 6, 9) := by
        show (if op = 54 then some (zsi (zsi (zsi s1 36 20 V) 7 5 V) 7 4 6, (9 : Int32)) else some (zsi (zsi (zsi s1 36 20 V) 7 5 V) 7 4 6, (12 : Int32))) = _
        rw [if_pos o54]
      rw [e1]
      simp only [if_pos o54]
      exact fin 9
    · have e1 : (zck (zin 20 29) (zbv (zsi s1 36 ((20 : Int32).toNatClampNeg) V) (fun σ5 => zck (zin 20 29) (zbv (zsi σ5 7 5 (zgi σ5 36 (20 : Int32).toNatClampNeg)) (fun σ6 => zbv (zsi σ6 7 4 6) (fun σ7 => if op = 54 then fX5_takePlace_64 σ7 9 else fX5_takePlace_64 σ7 12)))))) = some (zsi (zsi (zsi s1 36 20 V) 7 5 V) 7 4 6, 12) := by
        show (if op = 54 then some (zsi (zsi (zsi s1 36 20 V) 7 5 V) 7 4 6, (9 : Int32)) else some (zsi (zsi (zsi s1 36 20 V) 7 5 V) 7 4 6, (12 : Int32))) = _
        rw [if_neg o54]
      rw [e1]
      simp only [if_neg o54]
      exact fin 12
end ZPX
