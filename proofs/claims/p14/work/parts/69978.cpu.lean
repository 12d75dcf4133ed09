/-! LINE, SET, WIPE -/
section ZLS
variable {σ μ s t : zSt} {B : Int × Int × Int}
theorem v_ch1 : ∀ a b c : Fin 2, (((Int32.ofNat c.val ||| (Int32.ofNat b.val <<< ((1 : Int32) &&& 31))) &&& ((Int32.ofNat a.val ||| (Int32.ofNat b.val <<< ((1 : Int32) &&& 31))) ^^^ (-1)) = 0) ↔ ¬ (Int32.ofNat a.val = 0 ∧ Int32.ofNat c.val = 1)) ∧ (((Int32.ofNat b.val ||| (Int32.ofNat c.val <<< ((1 : Int32) &&& 31))) &&& ((Int32.ofNat b.val ||| (Int32.ofNat a.val <<< ((1 : Int32) &&& 31))) ^^^ (-1)) = 0) ↔ ¬ (Int32.ofNat a.val = 0 ∧ Int32.ofNat c.val = 1)) := by decide +kernel
/-- one line moves -/
theorem t_moveL (h : zVe s t) {x v : Int32} (hx : x = 0 ∨ x = 1) (hv : zr 0 1 v) : zp2 (fX4_changeLines s (10 + (x &&& 1)) v) (zbi (fX12_lineAt t x) (fun σ9 v10 => fX12_line_47 σ9 x v10 v (45 + x))) (zPo s t) := by
  unfold fX4_changeLines fX12_line_47 fX12_line_72
  have end_ : ∀ (s3 t3 : zSt) (l n cc : Int32), zPo s t s3 t3 → (cc = 0 ↔ ¬ (l = 0 ∧ n = 1)) → zpc (fX12_lineAt t3 x) (fun r => r = (t3, n)) → zp2 (if cc = 0 then fX4_changeLines_37 s3 else zbi (fX9_hCount s3 ) (fun σ6 v7 => zck (zin 6 12) (zbv (zsi σ6 34 ((6 : Int32).toNatClampNeg) v7) (fun σ8 => fX4_changeLines_37 σ8)))) (if l = 0 then zbi (fX12_lineAt t3 x) (fun σ2 v3 => if v3 = 1 then zbi (fX12_hCount σ2 ) (fun σ4 v5 => zck (zin 35 1048) (zbv (zsi σ4 3 ((35 : Int32).toNatClampNeg) v5) (fun σ6 => some σ6))) else some σ2) else some t3) (zPo s t) := fun s3 t3 l n cc k e pn => by
    refine zp2_ifr (fun l0 => zp2_bir pn (fun t4 w e4 => ?_)) (fun l0 => ?_)
    · cases e4
      refine zp2_ifr (fun n1 => ?_) (fun n1 => ?_)
      · exact zp2_ifl (fun q => absurd ⟨l0, n1⟩ (e.mp q)) (fun _ => t_latch k)
      · exact zp2_ifl (fun _ => zp2_some k) (fun q => absurd (e.mpr (fun z => n1 z.2)) q)
    · exact zp2_ifl (fun _ => zp2_some k) (fun q => absurd (e.mpr (fun z => l0 z.1)) q)
  obtain ⟨a, ea⟩ := z_F (m := 2) h.l0 (by decide)
  obtain ⟨b, eb⟩ := z_F (m := 2) h.l1 (by decide)
  rcases hx with z | z
  · subst z
    refine zp2_bil p_linesC (fun s1 w e => zp2_ckl (zp2_bvl (fun s3 f3 => ?_)))
    cases e
    refine zp2_bir (p_line0 h) (fun t1 w e => zp2_ckr (zp2_bvr (fun t3 g3 => ?_)))
    cases e
    have k : zPo s t s3 t3 := by
      rw [f3, g3]
      exact (zPo.rf h).w1 (z_pn34_7 (d := 3) (by decide)) rfl (zGo.r rfl hv) rfl rfl rfl
    have e1 : zL1 s3 = zL1 s := by rw [f3]; rfl
    obtain ⟨c, ec⟩ := z_F (m := 2) k.1.l0 (by decide)
    have key := (v_ch1 a b c).1
    rw [← ea, ← eb, ← ec] at key
    refine zp2_bil p_linesC (fun s1 w e => ?_)
    cases e
    rw [e1]
    exact end_ s3 t3 (zL0 s) (zL0 s3) _ k key (p_line0 k.1)
  · subst z
    refine zp2_bil p_linesC (fun s1 w e => zp2_ckl (zp2_bvl (fun s3 f3 => ?_)))
    cases e
    refine zp2_bir (p_line1 h) (fun t1 w e => zp2_ckr (zp2_bvr (fun t3 g3 => ?_)))
    cases e
    have k : zPo s t s3 t3 := by
      rw [f3, g3]
      exact (zPo.rf h).w1 (z_pn34_7 (d := 4) (by decide)) rfl (zGo.r rfl hv) rfl rfl rfl
    have e1 : zL0 s3 = zL0 s := by rw [f3]; rfl
    obtain ⟨c, ec⟩ := z_F (m := 2) k.1.l1 (by decide)
    have key := (v_ch1 b a c).2
    rw [← ea, ← eb, ← ec] at key
    refine zp2_bil p_linesC (fun s1 w e => ?_)
    cases e
    rw [e1]
    exact end_ s3 t3 (zL1 s) (zL1 s3) _ k key (p_line1 k.1)
theorem b_line (h : zNow B s t) {x y : Int32} : zp2 (fX11_line s x y) (fX12_line t x y) (fun r r' => zNow B (zRus r) r') := by
  unfold fX11_line fX12_line fX11_line_9 fX12_line_16
  refine zp2_within (fun w1 w2 => ?_) (fun w => ?_)
  · have hx := z_wir w1 w2 (zrl_c (lo := 0) (hi := 0) (by decide)) (zrl_c (lo := 1) (hi := 1) (by decide))
    refine zp2_ifr (fun q => absurd q (by decide)) (fun _ => zp2_fails0 (fun t1 e1 => zp2_ifr (fun _ => ?_) (fun q => absurd rfl q)))
    have h1 : zNow B s t1 := by rw [e1]; exact h.th
    refine zp2_ifl (fun q => absurd q (zq_lt hx rfl (by decide))) (fun _ => zp2_ifl (fun _ => ?_) (fun q => absurd (zq_le hx rfl (by decide)) q))
    refine zp2_bulp (P := zNow B) ?_ (fun a b q => zp2_some q)
    unfold fX4_moveLine fX4_moveLine_16
    have h01 := zx_01 hx
    by_cases y0 : y = 0
    · refine zp2_ifl (fun _ => ?_) (fun q => absurd y0 q)
      refine zp2_bulp (P := zNow B) ?_ (fun a b q => zp2_some q)
      rw [show (fun (σ9 : zSt) (v10 : Int32) => if y = 0 then fX12_line_47 σ9 x v10 0 (45 + x) else fX12_line_47 σ9 x v10 1 (45 + x)) = (fun σ9 v10 => fX12_line_47 σ9 x v10 0 (45 + x)) from funext fun _ => funext fun _ => if_pos y0]
      exact zp2_mono (t_moveL h1.ve h01 (zr_c (by decide))) (fun r r' q => h1.po q)
    · refine zp2_ifl (fun q => absurd q y0) (fun _ => ?_)
      refine zp2_bulp (P := zNow B) ?_ (fun a b q => zp2_some q)
      rw [show (fun (σ9 : zSt) (v10 : Int32) => if y = 0 then fX12_line_47 σ9 x v10 0 (45 + x) else fX12_line_47 σ9 x v10 1 (45 + x)) = (fun σ9 v10 => fX12_line_47 σ9 x v10 1 (45 + x)) from funext fun _ => funext fun _ => if_neg y0]
      exact zp2_mono (t_moveL h1.ve h01 (zr_c (by decide))) (fun r r' q => h1.po q)
  · have hn := z_nin w (a := 0) (b := 1) rfl rfl
    refine zp2_ifr (fun _ => zp2_fails1 (fun t1 e1 => ?_)) (fun q => absurd rfl q)
    refine zp2_ifr (fun q => absurd q (by decide)) (fun _ => ?_)
    have c0 : (0 : Int32).toInt = 0 := rfl
    have c1 : (1 : Int32).toInt = 1 := rfl
    have fin : zp2 (some (Sum.inr (s, 1) : zRu)) (some t1) (fun r r' => zNow B (zRus r) r') := zp2_some (by rw [e1]; exact h.th)
    refine zp2_ifl (fun _ => fin) (fun q => zp2_ifl (fun q1 => ?_) (fun _ => fin))
    have r1 := Int32.le_iff_toInt_le.mp (z_nlt q)
    have r2 := Int32.le_iff_toInt_le.mp q1
    exfalso; omega
/-- a register is set -/
theorem zNow.reg (h : zNow B s t) {j : Nat} (hj : j ≤ 26) {v : Int32} (hv : zrg j v) : zNow B (zsi s 36 j v) (zsi t 3 j v) := by
  obtain ⟨hT, hF, hW⟩ := h
  refine ⟨hT.upd zIoK_a [j] (zQ.wi zQ.rf (zcv_m (a := j) (b := j) List.mem_cons_self (Nat.le_refl _) (Nat.le_refl _))) (zQ.wi zQ.rf (zcv_m (a := j) (b := j) List.mem_cons_self (Nat.le_refl _) (Nat.le_refl _))) ?_ (zAl1 ⟨by rw [zsi_ej, zsi_ej], by rw [zsi_ej]; exact hv⟩), ?_, ?_⟩
  · show (Nat.ble j 26 && true) = true
    rw [Bool.and_true]
    exact Nat.ble_eq.mpr hj
  · unfold zF
    by_cases q : 1 = j
    · subst q; rw [zsi_ej, zsi_ej]
    · rw [zsi_nj q, zsi_nj q]; exact hF
  · unfold zWzz
    by_cases q : 20 = j
    · subst q; rw [zsi_ej, zsi_ej]
    · rw [zsi_nj q, zsi_nj q]; exact hW
theorem v_min3 : ∀ c : Fin 4, zmin 2 (Int32.ofNat c.val) = (if Int32.ofNat c.val = 3 then 2 else Int32.ofNat c.val) ∧ 0 ≤ (zmin 2 (Int32.ofNat c.val)).toInt ∧ (zmin 2 (Int32.ofNat c.val)).toInt ≤ 2 := by decide +kernel
theorem b_set (h : zNow B s t) {x y : Int32} : zp2 (fX11_set s x y) (fX12_set t x y) (fun r r' => zNow B (zRus r) r') := by
  unfold fX11_set fX12_set fX11_set_10 fX12_set_18
  refine zp2_within (fun w1 w2 => ?_) (fun w => ?_)
  · have hx := z_wir w1 w2 (zrl_c (lo := 0) (hi := 0) (by decide)) (zrl_c (lo := 25) (hi := 25) (by decide))
    refine zp2_ifr (fun q => absurd q (by decide)) (fun _ => zp2_fails0 (fun t1 e1 => zp2_ifr (fun _ => ?_) (fun q => absurd rfl q)))
    have h1 : zNow B s t1 := by rw [e1]; exact h.th
    refine zp2_ifl (fun q => absurd q (zq_lt hx rfl (by decide))) (fun _ => zp2_ifl (fun _ => ?_) (fun q => absurd (zq_le hx rfl (by decide)) q))
    refine zp2_bulp (P := zNow B) ?_ (fun a b q => zp2_some q)
    unfold fX5_change fX5_change_75 fX5_change_80 fX5_change_81 fX12_set_51 fX12_set_104 fX12_set_105
    have kx := z_clamp hx.1
    have x2 := hx.2
    have x1 := hx.1
    have go : ∀ {c1 c2 : Bool} (v w : Int32), v = w → zrg x.toNatClampNeg v → zp2 (zck c1 (zbv (zsi s 36 (x.toNatClampNeg) v) (fun σ1 => some σ1))) (zck c2 (zbv (zsi t1 3 (x.toNatClampNeg) w) (fun σ1 => some σ1))) (zNow B) := fun v w e hr => zp2_ckl (zp2_bvl (fun s2 f2 => zp2_ckr (zp2_bvr (fun t2 g2 => zp2_some (by rw [f2, g2, ← e]; exact h1.reg (by omega) hr)))))
    have r3 : zr 0 3 (y &&& 3) := zr_andr (lo := 0) (hi := 3) (zr_c (lo := 3) (hi := 3) (by decide)) (by decide)
    have r1 : zr 0 1 (y &&& 1) := zr_andr (lo := 0) (hi := 1) (zr_c (lo := 1) (hi := 1) (by decide)) (by decide)
    have r16 : zr 0 65535 (y &&& 65535) := zr_andr (lo := 0) (hi := 65535) (zr_c (lo := 65535) (hi := 65535) (by decide)) (by decide)
    refine zp2_ifl (fun q => absurd q (zq_lt hx rfl (by decide))) (fun _ => zp2_ifl (fun _ => ?_) (fun q => absurd (zq_le hx rfl (by decide)) q))
    have c16 : (16 : Int32).toInt = 16 := rfl
    have c20 : (20 : Int32).toInt = 20 := rfl
    have c22 : (22 : Int32).toInt = 22 := rfl
    have c23 : (23 : Int32).toInt = 23 := rfl
    have c25 : (25 : Int32).toInt = 25 := rfl
    refine zp2_if (fun q => ?_) (fun q => ?_)
    · obtain ⟨c, ec⟩ := z_F (m := 4) r3 (by decide)
      obtain ⟨m1, m2⟩ := v_min3 c
      rw [← ec] at m1 m2
      have ex : x.toNatClampNeg = 25 := by rw [q]; rfl
      have rr : zrg x.toNatClampNeg (zmin 2 (y &&& 3)) := by
        rw [ex]
        exact ⟨fun z => absurd z (by decide), fun _ z => absurd z (by decide), fun _ z => absurd z (by decide), fun _ z => absurd z (by decide), fun _ => m2, fun z => absurd z (by decide)⟩
      refine zp2_ifr (fun z => go _ _ ?_ rr) (fun z => go _ _ ?_ rr)
      · rw [m1, if_pos z]
      · rw [m1, if_neg z]
    · have nx : ¬ x.toInt = 25 := fun z => q (Int32.toInt_inj.mp z)
      by_cases a : x < 16
      · have a' := Int32.lt_iff_toInt_lt.mp a
        have b : ¬ 16 ≤ x := fun z => by have := Int32.le_iff_toInt_le.mp z; omega
        have c : x < 23 := Int32.lt_iff_toInt_lt.mpr (by omega)
        refine zp2_ifl (fun _ => zp2_ifl (fun _ => ?_) (fun z => absurd a z)) (fun z => absurd c z)
        exact zp2_ifr (fun z => absurd z b) (fun _ => go _ _ rfl (zrg_b (Or.inl (by omega)) (z_r8 _)))
      · have a' := Int32.le_iff_toInt_le.mp (z_nlt a)
        have b : 16 ≤ x := z_nlt a
        by_cases c : 20 < x
        · have c' := Int32.lt_iff_toInt_lt.mp c
          by_cases d : 22 < x
          · have d' := Int32.lt_iff_toInt_lt.mp d
            have e : ¬ x < 23 := fun z => by have := Int32.lt_iff_toInt_lt.mp z; omega
            refine zp2_ifl (fun z => absurd z e) (fun _ => ?_)
            exact zp2_ifr (fun _ => zp2_ifr (fun _ => zp2_ifr (fun _ => go _ _ rfl (zrg_1 (by omega) (by omega) r1)) (fun z => absurd d z)) (fun z => absurd c z)) (fun z => absurd b z)
          · have d' := Int32.le_iff_toInt_le.mp (z_nlt d)
            have e : x < 23 := Int32.lt_iff_toInt_lt.mpr (by omega)
            refine zp2_ifl (fun _ => zp2_ifl (fun z => absurd z a) (fun _ => zp2_ifl (fun _ => ?_) (fun z => absurd c z))) (fun z => absurd e z)
            exact zp2_ifr (fun _ => zp2_ifr (fun _ => zp2_ifr (fun z => absurd z d) (fun _ => go _ _ rfl (zrg_b (Or.inr (by omega)) (z_r8 _)))) (fun z => absurd c z)) (fun z => absurd b z)
        · have c' := Int32.le_iff_toInt_le.mp (z_nlt c)
          have e : x < 23 := Int32.lt_iff_toInt_lt.mpr (by omega)
          refine zp2_ifl (fun _ => zp2_ifl (fun z => absurd z a) (fun _ => zp2_ifl (fun z => absurd z c) (fun _ => ?_))) (fun z => absurd e z)
          exact zp2_ifr (fun _ => zp2_ifr (fun z => absurd z c) (fun _ => go _ _ rfl (zrg_w (by omega) (by omega) r16))) (fun z => absurd b z)
  · have hn := z_nin w (a := 0) (b := 25) rfl rfl
    refine zp2_ifr (fun _ => zp2_fails1 (fun t1 e1 => ?_)) (fun q => absurd rfl q)
    refine zp2_ifr (fun q => absurd q (by decide)) (fun _ => ?_)
    have c0 : (0 : Int32).toInt = 0 := rfl
    have c1 : (25 : Int32).toInt = 25 := rfl
    have fin : zp2 (some (Sum.inr (s, 1) : zRu)) (some t1) (fun r r' => zNow B (zRus r) r') := zp2_some (by rw [e1]; exact h.th)
    refine zp2_ifl (fun _ => fin) (fun q => zp2_ifl (fun q1 => ?_) (fun _ => fin))
    have r1 := Int32.le_iff_toInt_le.mp (z_nlt q)
    have r2 := Int32.le_iff_toInt_le.mp q1
    exfalso; omega
end ZLS
