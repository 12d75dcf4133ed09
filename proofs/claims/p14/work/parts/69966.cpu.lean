/-! THE PAINTER, 7: COLOURS -/
def gHc (c : Int32) : Int32 := ((5 * (c &&& 3)) + (80 * ((c >>> ((2 : Int32) &&& 31)) &&& 3))) + (1280 * (c >>> ((4 : Int32) &&& 31)))
def gCo (σ : zSt) (m v : Int32) : Int32 := if m = 4 then (if σ.1 3 1 = 0 then σ.1 23 (32 + v).toNatClampNeg &&& 63 else (σ.1 23 (32 + (2 * v)).toNatClampNeg ||| (σ.1 23 ((32 + (2 * v)) + 1).toNatClampNeg <<< ((8 : Int32) &&& 31))) &&& 4095) else (if σ.1 3 1 = 0 then zt3 (v &&& 15).toNatClampNeg else gHc (zt3 (v &&& 15).toNatClampNeg))
theorem v_gHc : ∀ c : Fin 64, ((5 * (zrem (Int32.ofNat c.val) 4)) + (80 * (zrem (Int32.ofNat c.val / 4) 4))) + (1280 * (Int32.ofNat c.val / 16)) = gHc (Int32.ofNat c.val) := by decide +kernel
section ZT7
variable {σ μ s t : zSt}
theorem zdC.h (h : zdC σ s) : s.1 3 1 = σ.1 3 1 := zQ.o h (k := 3) (a := 0) (b := 6) rfl (by decide) (by decide)
theorem c_mix {m : Int32} {o : zSt} : ∀ (n i : Nat) (s : zSt), i ≤ 32 → zdC σ s → s.1 27 = o.1 27 → s.1 25 = o.1 25 → s.1 23 = o.1 23 → (∀ j : Nat, j < i → s.1 29 j = gCo σ m (Int32.ofNat j)) → zpc (fX3_mixColours_2 n s m (Int32.ofNat i)) (fun r => zdC σ r ∧ r.1 27 = o.1 27 ∧ r.1 25 = o.1 25 ∧ r.1 23 = o.1 23 ∧ ∀ j : Nat, j < 32 → r.1 29 j = gCo σ m (Int32.ofNat j)) := by
  intro n
  induction n with
  | zero => intro i s _ _ _ _ _ _; exact zpc_none
  | succ n ih =>
    intro i s hi hd e27 e25 e23 hin
    show zpc (fX3_mixColours_2_body (fX3_mixColours_2 n) s m (Int32.ofNat i)) _
    unfold fX3_mixColours_2_body
    refine zpc_if (fun q => zpc_some ?_) (fun q => ?_)
    · have := (z_ofL (k := 32) (by omega) rfl).mp q
      exact ⟨hd, e27, e25, e23, fun j hj => hin j (by omega)⟩
    have hi2 : i < 32 := by
      have : ¬ 32 ≤ i := fun z => q ((z_ofL (c := 32) (k := 32) (i := i) (by omega) rfl).mpr z)
      omega
    have ri : zr 0 31 (Int32.ofNat i) := z_ofr (by omega) (by omega)
    have nx : ∀ v, v = gCo σ m (Int32.ofNat i) → zpc (zck (zin (Int32.ofNat i) 32) (zbv (zsi s 29 ((Int32.ofNat i).toNatClampNeg) v) (fun σ2 => fX3_mixColours_130 (fX3_mixColours_2 n) σ2 m (Int32.ofNat i)))) (fun r => zdC σ r ∧ r.1 27 = o.1 27 ∧ r.1 25 = o.1 25 ∧ r.1 23 = o.1 23 ∧ ∀ j : Nat, j < 32 → r.1 29 j = gCo σ m (Int32.ofNat j)) := fun v ev => by
      unfold fX3_mixColours_130
      rw [z_ofC (by omega), z_ofS (by omega)]
      refine zpc_ck (zpc_bv (fun s1 g1 => zpc_bv (fun x ex => ?_)))
      subst ex
      refine ih (i + 1) s1 (by omega) (by rw [g1]; exact zQ.wi hd rfl) (by rw [g1, zsi_ne (by decide)]; exact e27) (by rw [g1, zsi_ne (by decide)]; exact e25) (by rw [g1, zsi_ne (by decide)]; exact e23) (fun j hj => ?_)
      by_cases z : j = i
      · rw [z, g1, zsi_ej, ev]
      · rw [g1, zsi_nj z]; exact hin j (by omega)
    have g31 : zgi s 3 1 = σ.1 3 1 := hd.h
    rw [g31]
    refine zpc_if (fun m4 => ?_) (fun m4 => ?_)
    · refine zpc_if (fun q0 => ?_) (fun q0 => ?_)
      · have rr : zr 32 63 (32 + Int32.ofNat i) := zr_add (zr_c (lo := 32) (hi := 32) (x := 32) (by decide)) ri (by decide)
        refine zpc_bi (p_held (zr_w rr (by decide))) (fun s1 v1 e1 => ?_)
        cases e1
        unfold fX3_mixColours_78
        refine nx _ ?_
        have k := z_clamp (x := 32 + Int32.ofNat i) (by have := rr.1; omega)
        have k2 := rr.1
        have k3 := rr.2
        unfold gCo
        rw [if_pos m4, if_pos q0, hd.r2 (by omega) (by omega)]
      · have r2 : zr 0 62 (2 * Int32.ofNat i) := zr_mul (zr_c (lo := 2) (hi := 2) (x := 2) (by decide)) ri (by decide)
        have rr : zr 32 94 (32 + 2 * Int32.ofNat i) := zr_add (zr_c (lo := 32) (hi := 32) (x := 32) (by decide)) r2 (by decide)
        have rs : zr 33 95 (32 + 2 * Int32.ofNat i + 1) := zr_add rr (zr_c (lo := 1) (hi := 1) (x := 1) (by decide)) (by decide)
        refine zpc_bi (p_held (zr_w rr (by decide))) (fun s1 v1 e1 => ?_)
        cases e1
        refine zpc_bi (p_held (zr_w rs (by decide))) (fun s1 v1 e1 => ?_)
        cases e1
        unfold fX3_mixColours_78
        refine nx _ ?_
        have k := z_clamp (x := 32 + 2 * Int32.ofNat i) (by have := rr.1; omega)
        have k2 := rr.1
        have k3 := rr.2
        have l := z_clamp (x := 32 + 2 * Int32.ofNat i + 1) (by have := rs.1; omega)
        have l2 := rs.1
        have l3 := rs.2
        unfold gCo
        rw [if_pos m4, if_neg q0, hd.r2 (j := (32 + 2 * Int32.ofNat i).toNatClampNeg) (by omega) (by omega), hd.r2 (j := (32 + 2 * Int32.ofNat i + 1).toNatClampNeg) (by omega) (by omega)]
    · refine zpc_ck (zpc_bv (fun v4 e4 => ?_))
      unfold fX3_mixColours_129
      refine zpc_if (fun q0 => nx _ ?_) (fun q0 => nx _ ?_)
      · unfold gCo; rw [if_neg m4, if_pos q0, e4]
      · unfold gCo; rw [if_neg m4, if_neg q0, e4]; rfl
theorem z_cr (h : zE σ μ) {j : Nat} (hj : j < 64) : μ.1 8 j &&& 255 = σ.1 23 (32 + j) := by
  have q := h.at (z_pn23_32 (d := j) hj)
  rw [Nat.zero_add] at q
  exact q
theorem z_63 {x : Int32} : x &&& 63 = (x &&& 255) &&& 63 := by
  rw [Int32.and_assoc]
  rfl
theorem z_4096 {a b : Int32} (ha : zr 0 255 a) (hb : zr 0 255 b) : zrem (a ||| (b <<< ((8 : Int32) &&& 31))) 4096 = (a ||| (b <<< ((8 : Int32) &&& 31))) &&& 4095 := by
  have r : zr 0 65535 (a ||| (b <<< ((8 : Int32) &&& 31))) := zr_or (lo := 0) (hi := 65535) 16 ha (zr_shl (lo := 0) (hi := 65280) 8 rfl hb (by decide)) (by decide)
  exact z_remm 12 r rfl rfl (by decide) (by decide)
/-- the reference's colour -/
theorem m_col (h : zVe σ μ) (hd : zdM μ t) {v : Nat} (hv : v < 32) (hm : zmd (σ.1 23 0) (σ.1 23 1) = 4 ∨ v < 16) : zpc (fX12_colour t (Int32.ofNat v)) (fun r => r = (t, gCo σ (zmd (σ.1 23 0) (σ.1 23 1)) (Int32.ofNat v))) := by
  have f0 : t.1 3 47 = σ.1 23 0 := h.ej hd (j := 0) (by decide)
  have f1 : t.1 3 48 = σ.1 23 1 := h.ej hd (j := 1) (by decide)
  have pm := p_modeM (μ := t) (by rw [f0]; exact h.r0) (by rw [f1]; exact h.r1)
  rw [f0, f1] at pm
  have e03 : zgi t 0 3 = μ.1 0 3 := zQ.o hd (k := 0) (a := 0) (b := 30) rfl (by decide) (by decide)
  have t8 : t.1 8 = μ.1 8 := zQ.ro hd (k := 8) rfl
  obtain ⟨k0, k1, k2, k3, k4, k5⟩ := h.2.2.1
  have kk : (σ.1 3 1 = 0 ↔ ¬ μ.1 0 3 = 2) := by
    rw [k3]
    by_cases q : μ.1 0 3 = 2
    · rw [if_pos q]; exact ⟨fun z => absurd z (by decide), fun z => absurd q z⟩
    · rw [if_neg q]; exact ⟨fun _ => q, fun _ => rfl⟩
  unfold fX12_colour
  refine zpc_bi pm (fun t1 v1 e1 => ?_)
  cases e1
  obtain ⟨M, eM⟩ : ∃ M, M = zmd (σ.1 23 0) (σ.1 23 1) := ⟨_, rfl⟩
  rw [← eM] at hm
  rw [← eM, e03]
  have ri : zr 0 31 (Int32.ofNat v) := z_ofr (by omega) (by omega)
  have ci := z_ofC (i := v) (by omega)
  refine zpc_if (fun m4 => ?_) (fun m4 => ?_)
  · unfold fX12_colour_62
    refine zpc_if (fun q => zpc_ck (zpc_ck (zpc_ck (zpc_some ?_)))) (fun q => zpc_ck (zpc_some ?_))
    · have r2 : zr 0 62 (2 * Int32.ofNat v) := zr_mul (zr_c (lo := 2) (hi := 2) (x := 2) (by decide)) ri (by decide)
      have t2 : (2 * Int32.ofNat v).toInt = 2 * (Int32.ofNat v).toInt := z_tmul (zr_c (lo := 2) (hi := 2) (x := 2) (by decide)) ri (by decide)
      rw [z_ofI (by omega)] at t2
      have c2 := z_clamp r2.1
      have i2 : (2 * Int32.ofNat v).toNatClampNeg = 2 * v := by omega
      have o2 : (32 + 2 * Int32.ofNat v).toNatClampNeg = 32 + 2 * v := by rw [z_off r2 (k := 32) rfl (by decide), i2]
      have r3 : zr 1 63 (2 * Int32.ofNat v + 1) := zr_add r2 (zr_c (lo := 1) (hi := 1) (x := 1) (by decide)) (by decide)
      have t3 := z_tadd r2 (zr_c (lo := 1) (hi := 1) (x := 1) (by decide)) (by decide)
      rw [show (1 : Int32).toInt = 1 from rfl] at t3
      have c3 := z_clamp (x := 2 * Int32.ofNat v + 1) (by have := r3.1; omega)
      have i3 : (2 * Int32.ofNat v + 1).toNatClampNeg = 2 * v + 1 := by omega
      have o3 : (32 + 2 * Int32.ofNat v + 1).toNatClampNeg = 32 + (2 * v + 1) := by
        have e : 32 + 2 * Int32.ofNat v + 1 = 32 + (2 * Int32.ofNat v + 1) := Int32.add_assoc _ _ _
        rw [e, z_off (x := 2 * Int32.ofNat v + 1) (c := 32) (k := 32) (a := 0) (b := 63) (zr_w r3 (by decide)) rfl (by decide), i3]
      unfold gCo
      rw [if_pos m4, if_neg (fun z => (kk.mp z) q), o2, o3, ← z_cr h.1 (j := 2 * v) (by omega), ← z_cr h.1 (j := 2 * v + 1) (by omega)]
      show (t, zrem ((t.1 8 (2 * Int32.ofNat v).toNatClampNeg &&& 255) ||| ((t.1 8 (2 * Int32.ofNat v + 1).toNatClampNeg &&& 255) <<< ((8 : Int32) &&& 31))) 4096) = _
      rw [t8, i2, i3, z_4096 (z_r8 _) (z_r8 _)]
    · have o1 : (32 + Int32.ofNat v).toNatClampNeg = 32 + v := by rw [z_off ri (k := 32) rfl (by decide), ci]
      unfold gCo
      rw [if_pos m4, if_pos (kk.mpr q), o1, ← z_cr h.1 (j := v) (by omega), ← z_63]
      show (t, t.1 8 (Int32.ofNat v).toNatClampNeg &&& 63) = _
      rw [t8, ci]
  · have v16 : v < 16 := hm.resolve_left m4
    have fin : ∀ c : Int32, zr 0 63 c → c = zt3 (Int32.ofNat v &&& 15).toNatClampNeg → zpc (fX12_colour_217 t c) (fun r => r = (t, gCo σ M (Int32.ofNat v))) := fun c rc ec => by
      unfold fX12_colour_217 fX12_colour_252
      rw [e03]
      refine zpc_if (fun q => zpc_ck (zpc_ck (zpc_ck (zpc_ck (zpc_some ?_))))) (fun q => zpc_some ?_)
      · unfold gCo
        rw [if_neg m4, if_neg (fun z => (kk.mp z) q), ← ec]
        obtain ⟨d, ed⟩ := z_F (m := 64) rc (by decide)
        rw [ed, v_gHc d]
      · unfold gCo
        rw [if_neg m4, if_pos (kk.mpr q), ec]
    have cs : v = 0 ∨ v = 1 ∨ v = 2 ∨ v = 3 ∨ v = 4 ∨ v = 5 ∨ v = 6 ∨ v = 7 ∨ v = 8 ∨ v = 9 ∨ v = 10 ∨ v = 11 ∨ v = 12 ∨ v = 13 ∨ v = 14 ∨ v = 15 := by omega
    rcases cs with z | z | z | z | z | z | z | z | z | z | z | z | z | z | z | z
    · subst z; exact zpc_if (fun y => absurd y (by decide)) (fun _ => zpc_if (fun y => absurd y (by decide)) (fun _ => zpc_if (fun y => absurd y (by decide)) (fun _ => zpc_if (fun y => absurd y (by decide)) (fun _ => zpc_if (fun y => absurd y (by decide)) (fun _ => zpc_if (fun y => absurd y (by decide)) (fun _ => zpc_if (fun y => absurd y (by decide)) (fun _ => zpc_if (fun y => absurd y (by decide)) (fun _ => zpc_if (fun y => absurd y (by decide)) (fun _ => zpc_if (fun y => absurd y (by decide)) (fun _ => zpc_if (fun y => absurd y (by decide)) (fun _ => zpc_if (fun y => absurd y (by decide)) (fun _ => zpc_if (fun y => absurd y (by decide)) (fun _ => zpc_if (fun y => absurd y (by decide)) (fun _ => (fin 0 (zr_c (by decide)) rfl)))))))))))))))
    · subst z; exact zpc_if (fun y => absurd y (by decide)) (fun _ => zpc_if (fun y => absurd y (by decide)) (fun _ => zpc_if (fun y => absurd y (by decide)) (fun _ => zpc_if (fun y => absurd y (by decide)) (fun _ => zpc_if (fun y => absurd y (by decide)) (fun _ => zpc_if (fun y => absurd y (by decide)) (fun _ => zpc_if (fun y => absurd y (by decide)) (fun _ => zpc_if (fun y => absurd y (by decide)) (fun _ => zpc_if (fun y => absurd y (by decide)) (fun _ => zpc_if (fun y => absurd y (by decide)) (fun _ => zpc_if (fun y => absurd y (by decide)) (fun _ => zpc_if (fun y => absurd y (by decide)) (fun _ => zpc_if (fun y => absurd y (by decide)) (fun _ => zpc_if (fun y => absurd y (by decide)) (fun _ => (fin 0 (zr_c (by decide)) rfl)))))))))))))))
    · subst z; exact zpc_if (fun _ => (fin 8 (zr_c (by decide)) rfl)) (fun y => absurd rfl y)
    · subst z; exact zpc_if (fun y => absurd y (by decide)) (fun _ => zpc_if (fun _ => (fin 12 (zr_c (by decide)) rfl)) (fun y => absurd rfl y))
    · subst z; exact zpc_if (fun y => absurd y (by decide)) (fun _ => zpc_if (fun y => absurd y (by decide)) (fun _ => zpc_if (fun _ => (fin 16 (zr_c (by decide)) rfl)) (fun y => absurd rfl y)))
    · subst z; exact zpc_if (fun y => absurd y (by decide)) (fun _ => zpc_if (fun y => absurd y (by decide)) (fun _ => zpc_if (fun y => absurd y (by decide)) (fun _ => zpc_if (fun _ => (fin 48 (zr_c (by decide)) rfl)) (fun y => absurd rfl y))))
    · subst z; exact zpc_if (fun y => absurd y (by decide)) (fun _ => zpc_if (fun y => absurd y (by decide)) (fun _ => zpc_if (fun y => absurd y (by decide)) (fun _ => zpc_if (fun y => absurd y (by decide)) (fun _ => zpc_if (fun _ => (fin 1 (zr_c (by decide)) rfl)) (fun y => absurd rfl y)))))
    · subst z; exact zpc_if (fun y => absurd y (by decide)) (fun _ => zpc_if (fun y => absurd y (by decide)) (fun _ => zpc_if (fun y => absurd y (by decide)) (fun _ => zpc_if (fun y => absurd y (by decide)) (fun _ => zpc_if (fun y => absurd y (by decide)) (fun _ => zpc_if (fun _ => (fin 60 (zr_c (by decide)) rfl)) (fun y => absurd rfl y))))))
    · subst z; exact zpc_if (fun y => absurd y (by decide)) (fun _ => zpc_if (fun y => absurd y (by decide)) (fun _ => zpc_if (fun y => absurd y (by decide)) (fun _ => zpc_if (fun y => absurd y (by decide)) (fun _ => zpc_if (fun y => absurd y (by decide)) (fun _ => zpc_if (fun y => absurd y (by decide)) (fun _ => zpc_if (fun _ => (fin 2 (zr_c (by decide)) rfl)) (fun y => absurd rfl y)))))))
    · subst z; exact zpc_if (fun y => absurd y (by decide)) (fun _ => zpc_if (fun y => absurd y (by decide)) (fun _ => zpc_if (fun y => absurd y (by decide)) (fun _ => zpc_if (fun y => absurd y (by decide)) (fun _ => zpc_if (fun y => absurd y (by decide)) (fun _ => zpc_if (fun y => absurd y (by decide)) (fun _ => zpc_if (fun y => absurd y (by decide)) (fun _ => zpc_if (fun _ => (fin 3 (zr_c (by decide)) rfl)) (fun y => absurd rfl y))))))))
    · subst z; exact zpc_if (fun y => absurd y (by decide)) (fun _ => zpc_if (fun y => absurd y (by decide)) (fun _ => zpc_if (fun y => absurd y (by decide)) (fun _ => zpc_if (fun y => absurd y (by decide)) (fun _ => zpc_if (fun y => absurd y (by decide)) (fun _ => zpc_if (fun y => absurd y (by decide)) (fun _ => zpc_if (fun y => absurd y (by decide)) (fun _ => zpc_if (fun y => absurd y (by decide)) (fun _ => zpc_if (fun _ => (fin 5 (zr_c (by decide)) rfl)) (fun y => absurd rfl y)))))))))
    · subst z; exact zpc_if (fun y => absurd y (by decide)) (fun _ => zpc_if (fun y => absurd y (by decide)) (fun _ => zpc_if (fun y => absurd y (by decide)) (fun _ => zpc_if (fun y => absurd y (by decide)) (fun _ => zpc_if (fun y => absurd y (by decide)) (fun _ => zpc_if (fun y => absurd y (by decide)) (fun _ => zpc_if (fun y => absurd y (by decide)) (fun _ => zpc_if (fun y => absurd y (by decide)) (fun _ => zpc_if (fun y => absurd y (by decide)) (fun _ => zpc_if (fun _ => (fin 15 (zr_c (by decide)) rfl)) (fun y => absurd rfl y))))))))))
    · subst z; exact zpc_if (fun y => absurd y (by decide)) (fun _ => zpc_if (fun y => absurd y (by decide)) (fun _ => zpc_if (fun y => absurd y (by decide)) (fun _ => zpc_if (fun y => absurd y (by decide)) (fun _ => zpc_if (fun y => absurd y (by decide)) (fun _ => zpc_if (fun y => absurd y (by decide)) (fun _ => zpc_if (fun y => absurd y (by decide)) (fun _ => zpc_if (fun y => absurd y (by decide)) (fun _ => zpc_if (fun y => absurd y (by decide)) (fun _ => zpc_if (fun y => absurd y (by decide)) (fun _ => zpc_if (fun _ => (fin 4 (zr_c (by decide)) rfl)) (fun y => absurd rfl y)))))))))))
    · subst z; exact zpc_if (fun y => absurd y (by decide)) (fun _ => zpc_if (fun y => absurd y (by decide)) (fun _ => zpc_if (fun y => absurd y (by decide)) (fun _ => zpc_if (fun y => absurd y (by decide)) (fun _ => zpc_if (fun y => absurd y (by decide)) (fun _ => zpc_if (fun y => absurd y (by decide)) (fun _ => zpc_if (fun y => absurd y (by decide)) (fun _ => zpc_if (fun y => absurd y (by decide)) (fun _ => zpc_if (fun y => absurd y (by decide)) (fun _ => zpc_if (fun y => absurd y (by decide)) (fun _ => zpc_if (fun y => absurd y (by decide)) (fun _ => zpc_if (fun _ => (fin 51 (zr_c (by decide)) rfl)) (fun y => absurd rfl y))))))))))))
    · subst z; exact zpc_if (fun y => absurd y (by decide)) (fun _ => zpc_if (fun y => absurd y (by decide)) (fun _ => zpc_if (fun y => absurd y (by decide)) (fun _ => zpc_if (fun y => absurd y (by decide)) (fun _ => zpc_if (fun y => absurd y (by decide)) (fun _ => zpc_if (fun y => absurd y (by decide)) (fun _ => zpc_if (fun y => absurd y (by decide)) (fun _ => zpc_if (fun y => absurd y (by decide)) (fun _ => zpc_if (fun y => absurd y (by decide)) (fun _ => zpc_if (fun y => absurd y (by decide)) (fun _ => zpc_if (fun y => absurd y (by decide)) (fun _ => zpc_if (fun y => absurd y (by decide)) (fun _ => zpc_if (fun _ => (fin 21 (zr_c (by decide)) rfl)) (fun y => absurd rfl y)))))))))))))
    · subst z; exact zpc_if (fun y => absurd y (by decide)) (fun _ => zpc_if (fun y => absurd y (by decide)) (fun _ => zpc_if (fun y => absurd y (by decide)) (fun _ => zpc_if (fun y => absurd y (by decide)) (fun _ => zpc_if (fun y => absurd y (by decide)) (fun _ => zpc_if (fun y => absurd y (by decide)) (fun _ => zpc_if (fun y => absurd y (by decide)) (fun _ => zpc_if (fun y => absurd y (by decide)) (fun _ => zpc_if (fun y => absurd y (by decide)) (fun _ => zpc_if (fun y => absurd y (by decide)) (fun _ => zpc_if (fun y => absurd y (by decide)) (fun _ => zpc_if (fun y => absurd y (by decide)) (fun _ => zpc_if (fun y => absurd y (by decide)) (fun _ => zpc_if (fun _ => (fin 63 (zr_c (by decide)) rfl)) (fun y => absurd rfl y))))))))))))))
/-- the painter's work keeps the relation -/
theorem zVe.draw (h : zVe σ μ) (hs : zdC σ s) (hd : zdM μ t) (hst : zStt s t) (hp : ∀ j : Nat, j < 61440 → t.1 9 j = s.1 25 j) : zVe s t := by
  have chk : (zTb.all (fun e => Nat.beq e.1 25 || ((Nat.beq e.1 23 && Nat.beq e.2.1 0) || (zof [25, 27, 28, 29] [(3, 7, 8), (23, 15, 15)] e.1 e.2.1 (e.2.1 + e.2.2.1 - 1) && zof [22, 23, 24, 25, 9] [(3, 62, 62)] e.2.2.2.1 e.2.2.2.2.1 (e.2.2.2.2.1 + e.2.2.1 - 1))))) = true := by decide +kernel
  have chg : (zGt.all (fun e => (Nat.beq e.1 23 && Nat.beq e.2.1 15) || zof [25, 27, 28, 29] [(3, 7, 8), (23, 15, 15)] e.1 e.2.1 (e.2.1 + e.2.2.1 - 1))) = true := by decide +kernel
  have only25 : ∀ e ∈ zTb, e.1 = 25 → e = (25, 0, 61440, 9, 0, (-1)) := by decide +kernel
  have only23 : ∀ e ∈ zTb, e.1 = 23 → e.2.1 = 0 → e = (23, 0, 17, 3, 47, (-1)) := by decide +kernel
  rw [List.all_eq_true] at chk chg
  refine h.of (fun e he i hi => ?_) (fun k j a b eg => ?_) ⟨zQ.o hs (k := 0) (a := 0) (b := 0) rfl (by decide) (by decide), zQ.o hs (k := 2) (a := 0) (b := 1) rfl (by decide) (by decide), hs.h, zQ.o hs (k := 6) (a := 0) (b := 0) rfl (by decide) (by decide), zQ.o hs (k := 2) (a := 0) (b := 1) rfl (by decide) (by decide)⟩ (zQ.o hd (k := 0) (a := 3) (b := 3) rfl (by decide) (by decide)) (hs.r2 (by decide) (by decide))
  · have z := chk e he
    rw [Bool.or_eq_true, Bool.or_eq_true, Bool.and_eq_true, Bool.and_eq_true] at z
    rcases z with z | ⟨z1, z2⟩ | ⟨z1, z2⟩
    · have ee := only25 e he (Nat.eq_of_beq_eq_true z)
      subst ee
      show t.1 9 (0 + i) &&& (-1) = s.1 25 (0 + i)
      rw [z_an1, Nat.zero_add]
      exact hp i hi
    · have ee := only23 e he (Nat.eq_of_beq_eq_true z1) (Nat.eq_of_beq_eq_true z2)
      subst ee
      have hi : i < 17 := hi
      show t.1 3 (47 + i) &&& (-1) = s.1 23 (0 + i)
      rw [z_an1, Nat.zero_add]
      by_cases y : i = 15
      · subst y
        exact hst.1
      · by_cases x : i ≤ 14
        · rw [hs.r x]
          exact h.ej hd x
        · have y16 : i = 16 := by omega
          subst y16
          rw [hs.r2 (by decide) (by decide), hd.r2 (by decide) (by decide)]
          exact h.e16
    · rw [zQ.o hs z1 (by omega) (by omega), zQ.o hd z2 (by omega) (by omega)]
      exact h.1 e he i hi
  · obtain ⟨e, he, e1, e2, e3⟩ := zGf_mem eg
    have z := chg e he
    rw [Bool.or_eq_true, Bool.and_eq_true] at z
    rcases z with ⟨z1, z2⟩ | z
    · have y1 : e.1 = 23 := Nat.eq_of_beq_eq_true z1
      have y2 : e.2.1 = 15 := Nat.eq_of_beq_eq_true z2
      have y3 : e.2.2.1 = 1 := by
        have w : ∀ e ∈ zGt, e.1 = 23 → e.2.1 = 15 → e.2.2.1 = 1 := by decide +kernel
        exact w e he y1 y2
      have k23 : k = 23 := e1.symm.trans y1
      have j15 : j = 15 := by omega
      subst k23
      subst j15
      have eg : some ((0 : Int), (255 : Int)) = some (a, b) := eg
      cases eg
      exact hst.2
    · rw [e1] at z
      rw [zQ.o hs z e2 (by omega)]
      exact h.2.1 k j a b eg
/-- the line, dot by dot, into the picture -/
theorem t_302 (h : zVe σ μ) {L : Int32} (hL : zr 0 239 L) : ∀ (n m i : Nat) (s t : zSt), i ≤ 256 → zdC σ s → zdM μ t → zStt s t → (∀ j : Nat, j < 61440 → t.1 9 j = s.1 25 j) → (∀ v : Nat, v < 32 → s.1 29 v = gCo σ (zmd (σ.1 23 0) (σ.1 23 1)) (Int32.ofNat v)) → (∀ j : Nat, j < 256 → ∃ v : Nat, v < 32 ∧ (zmd (σ.1 23 0) (σ.1 23 1) = 4 ∨ v < 16) ∧ t.1 22 j = Int32.ofNat v ∧ s.1 27 j &&& 31 = Int32.ofNat v) → zp2 (fX3_draw_152 n s L (Int32.ofNat i)) (fX12_draws_302 m t L (Int32.ofNat i)) (fun r r' => zVe r r' ∧ zdC σ r ∧ zdM μ r') := by
  intro n
  induction n with
  | zero => intro m i s t _ _ _ _ _ _ _; exact zp2_nl
  | succ n ih =>
    intro m i s t hi hs hd hst hp hc hn
    cases m with
    | zero => exact zp2_nr
    | succ m =>
      show zp2 (fX3_draw_152_body (fX3_draw_152 n) s L (Int32.ofNat i)) (fX12_draws_302_body (fX12_draws_302 m) t L (Int32.ofNat i)) _
      unfold fX3_draw_152_body fX12_draws_302_body
      refine zp2_if (fun _ => zp2_some ⟨h.draw hs hd hst hp, hs, hd⟩) (fun q => ?_)
      have hi2 : i < 256 := by
        have : ¬ 256 ≤ i := fun z => q ((z_ofL (c := 256) (k := 256) (i := i) (by omega) rfl).mpr z)
        omega
      obtain ⟨v, v1, v2, v3, v4⟩ := hn i hi2
      have ci := z_ofC (i := i) (by omega)
      have r6 : zr 0 61184 (256 * L) := zr_mul (zr_c (lo := 256) (hi := 256) (x := 256) (by decide)) hL (by decide)
      have ra : zr 0 61439 (256 * L + Int32.ofNat i) := zr_add r6 (z_ofr (b := 255) (by omega) (by omega)) (by decide)
      have ka := z_clamp ra.1
      have kb := ra.2
      rw [ci, Int32.mul_comm L 256]
      obtain ⟨A, eA⟩ : ∃ A, A = (256 * L + Int32.ofNat i).toNatClampNeg := ⟨_, rfl⟩
      rw [show zgi s 27 i &&& 31 = Int32.ofNat v from v4, show zgi t 22 i = Int32.ofNat v from v3, ← eA, z_ofS (by omega)]
      have hA : A < 61440 := by omega
      refine zp2_ckl (zp2_ckl (zp2_ckl (zp2_bvl (fun s1 f1 => zp2_bvl (fun x ex => ?_)))))
      subst ex
      rw [z_ofC (i := v) (by omega), show zgi s 29 v = gCo σ (zmd (σ.1 23 0) (σ.1 23 1)) (Int32.ofNat v) from hc v v1] at f1
      refine zp2_ckr (zp2_bir (m_col h hd v1 v2) (fun t1 w1 e1 => zp2_ckr (zp2_bvr (fun t3 g3 => zp2_bvr (fun x ex => ?_)))))
      cases e1
      subst ex
      refine ih m (i + 1) s1 t3 (by omega) (by rw [f1]; exact zQ.wi hs rfl) (by rw [g3]; exact zQ.wi hd rfl) ?_ (fun j hj => ?_) (fun w hw => ?_) (fun j hj => ?_)
      · unfold zStt
        rw [f1, g3, zsi_ne (by decide), zsi_ne (by decide)]
        exact hst
      · rw [f1, g3]
        by_cases z : j = A
        · rw [z, zsi_ej, zsi_ej]
        · rw [zsi_nj z, zsi_nj z]; exact hp j hj
      · rw [f1, zsi_ne (by decide)]; exact hc w hw
      · rw [f1, g3, zsi_ne (by decide), zsi_ne (by decide)]; exact hn j hj
end ZT7
