/-! CALLS THAT CHANGE LITTLE -/
section ZOP
variable {σ μ s t : zSt} {B : Int × Int × Int}
theorem zNow.po (h : zNow B σ μ) (q : zPo σ μ s t) : zNow B s t := by
  obtain ⟨hT, hF, hW⟩ := h
  obtain ⟨q1, q2, q3, q4⟩ := q
  obtain ⟨k1, k2⟩ := hT.kp (J := zIa B) ⟨q1, hT.2.2.2.2.kp q2 q3 rfl rfl⟩ q2 q3 rfl rfl
  exact ⟨k1, k2.f hF, k2.w hW⟩
theorem zNow.ve (h : zNow B s t) : zVe s t := h.1.2.2.2.1
theorem zr_x {x : Int32} {a b : Int} (h1 : a ≤ x.toInt) (h2 : x.toInt ≤ b) : zr a b x := ⟨h1, h2⟩
theorem b_out (h : zNow B s t) {x y : Int32} : zp2 (fX11_out s x y) (fX12_out t x y) (zNow B) := by
  unfold fX11_out fX12_out
  refine zp2_bvr (fun t1 e1 => ?_)
  have h1 : zNow B s t1 := by rw [e1]; exact h.th
  exact zp2_buu (t_out h1.ve (z_r8 _) (z_r8 _)) (fun r r' q => zp2_some (h1.po q))
theorem b_in (h : zNow B s t) {x : Int32} : zp2 (fX11_in s x) (fX12_in t x) (fun r r' => zNow B r.1 r'.1 ∧ r.2 = r'.2) := by
  unfold fX11_in fX12_in
  refine zp2_bvr (fun t1 e1 => ?_)
  have h1 : zNow B s t1 := by rw [e1]; exact h.th
  refine zp2_bii (t_in h1.ve (z_r8 _)) (fun r v r' w q => zp2_some ⟨h1.po q.1, ?_⟩)
  exact q.2.1.symm
theorem b_poke (h : zNow B s t) {x y : Int32} : zp2 (fX11_poke s x y) (fX12_poke t x y) (zNow B) := by
  unfold fX11_poke fX12_poke
  refine zp2_bvr (fun t1 e1 => ?_)
  have h1 : zNow B s t1 := by rw [e1]; exact h.th
  obtain ⟨hT, hF, hW⟩ := h1
  refine zp2_wr hT.1 (v := y &&& 255) (by rw [Int32.and_assoc]; rfl) rfl (z_r8 _) (fun r r' q1 q2 q3 => zp2_some ?_)
  refine ⟨hT.fin zIoK_a [] q1 (q2.mono rfl rfl) (q3.mono rfl rfl) rfl zAl0 ?_, ?_, ?_⟩
  · unfold zJp
    rw [q2.ro (k := 7) rfl, q3.o (k := 0) (a := 31) (b := 31) rfl (j := 31) (by decide) (by decide)]
    exact hT.2.2.1
  · exact hF.of (by rw [q2.ro (k := 36) rfl]) (q3.o (k := 3) (a := 1) (b := 1) rfl (by decide) (by decide))
  · exact hW.of (by rw [q2.ro (k := 36) rfl]) (q3.o (k := 3) (a := 20) (b := 20) rfl (by decide) (by decide))
theorem b_start (h : zNow B s t) {x : Int32} : zp2 (fX11_start s x) (fX12_start t x) (zNow B) := by
  unfold fX11_start fX12_start fX4_holdStart fX4_holdStart_15 fX12_start_20
  refine zp2_bvr (fun t1 e1 => ?_)
  have h1 : zNow B s t1 := by rw [e1]; exact h.th
  refine zp2_bulp (P := zNow B) ?_ (fun a b q => zp2_some q)
  refine zp2_if (fun _ => ?_) (fun _ => ?_)
  · refine zp2_ckl (zp2_bvl (fun s2 f2 => zp2_ckr (zp2_bvr (fun t2 g2 => zp2_some ?_))))
    rw [f2, g2]
    exact h1.po ((zPo.rf h1.ve).w1 (z_pn34_7 (d := 2) (by decide)) rfl (zGo.r rfl (show zr 0 1 (0 : Int32) from zr_c (by decide))) rfl rfl rfl)
  · refine zp2_ckl (zp2_bvl (fun s2 f2 => zp2_ckr (zp2_bvr (fun t2 g2 => zp2_some ?_))))
    rw [f2, g2]
    exact h1.po ((zPo.rf h1.ve).w1 (z_pn34_7 (d := 2) (by decide)) rfl (zGo.r rfl (show zr 0 1 (1 : Int32) from zr_c (by decide))) rfl rfl rfl)
theorem b_pause (h : zNow B s t) : zp2 (fX11_pause s ) (fX12_pause t ) (fun r r' => zNow B r.1 r'.1) := by
  unfold fX11_pause fX12_pause fX11_pause_14 fX11_pause_26
  refine zp2_bvr (fun t1 e1 => ?_)
  have h1 : zNow B s t1 := by rw [e1]; exact h.th
  obtain ⟨k0, k1, k2, k3, k4, k5⟩ := h1.ve.2.2.1
  obtain ⟨hT, hF, hW⟩ := h1
  by_cases q : t1.1 0 3 = 2
  · rw [if_pos q] at k1
    have n0 : ¬ zgi s 0 0 = 0 := fun z => by rw [show zgi s 0 0 = 1 from k1] at z; exact absurd z (by decide)
    refine zp2_ifr (fun _ => zp2_ckr ?_) (fun z => absurd q z)
    exact zp2_ifl (fun z => absurd z n0) (fun _ => zp2_ifl (fun z => absurd z n0) (fun _ => zp2_ckl (zp2_some ⟨hT, hF, hW⟩)))
  · rw [if_neg q] at k1
    refine zp2_ifr (fun z => absurd z q) (fun _ => zp2_ckr (zp2_bvr (fun t2 g2 => zp2_ckr ?_)))
    refine zp2_ifl (fun _ => ?_) (fun z => absurd k1 z)
    refine zp2_bul (P := fun r => r = zsi s 36 27 1) (by unfold fX5_askForPause; exact zpc_ck (zpc_bv (fun s1 f1 => zpc_some f1))) (fun s1 f1 => ?_)
    have k1' : zgi s1 0 0 = 0 := by rw [f1]; exact k1
    refine zp2_ifl (fun _ => zp2_ckl (zp2_some ?_)) (fun z => absurd k1' z)
    rw [f1, g2]
    refine ⟨hT.pq zIoK_a (zr_c (by decide)), hF, hW⟩
/-- press -/
theorem b_press (h : zNow B s t) {x y : Int32} : zp2 (fX11_press s x y) (fX12_press t x y) (fun r r' => zNow B (zRus r) r') := by
  unfold fX11_press fX12_press fX12_press_23 fX12_press_28
  have no : zp2 (some (Sum.inr (s, 1) : zRu)) (zbi (fX12_fails t 1 1) (fun σ1 v2 => if v2 = 0 then zck (zin (42 + x) 1048) (zbv (zsi σ1 3 ((42 + x).toNatClampNeg) y) (fun σ3 => some σ3)) else some σ1)) (fun r r' => zNow B (zRus r) r') := by
    refine zp2_fails1 (fun t1 e1 => zp2_ifr (fun q => absurd q (by decide)) (fun _ => zp2_some ?_))
    rw [e1]
    exact h.th
  have cp : ∀ v : Int32, v = (if 0 ≤ x.toInt ∧ x.toInt ≤ 1 ∧ 0 ≤ y.toInt ∧ y.toInt ≤ 63 then 1 else 0) → zpc (fX4_canPress s x y) (fun r => r = (s, v)) := fun v ev => by
    have z0 : (0 : Int32).toInt = 0 := rfl
    have z1 : (1 : Int32).toInt = 1 := rfl
    have z63 : (63 : Int32).toInt = 63 := rfl
    unfold fX4_canPress fX4_canPress_23 fX4_canPress_24
    refine zpc_if (fun q => zpc_ck (zpc_some ?_)) (fun q1 => zpc_if (fun q => zpc_ck (zpc_some ?_)) (fun q2 => zpc_if (fun q => zpc_ck (zpc_some ?_)) (fun q3 => zpc_if (fun q => zpc_ck (zpc_some ?_)) (fun q4 => zpc_ck (zpc_some ?_)))))
    · have := Int32.lt_iff_toInt_lt.mp q
      rw [ev, if_neg (fun z => by omega)]
    · have := Int32.lt_iff_toInt_lt.mp q
      rw [ev, if_neg (fun z => by omega)]
    · have := Int32.lt_iff_toInt_lt.mp q
      rw [ev, if_neg (fun z => by omega)]
    · have := Int32.lt_iff_toInt_lt.mp q
      rw [ev, if_neg (fun z => by omega)]
    · have a1 := Int32.le_iff_toInt_le.mp (z_nlt q1)
      have a2 := Int32.le_iff_toInt_le.mp (z_nlt q2)
      have a3 := Int32.le_iff_toInt_le.mp (z_nlt q3)
      have a4 := Int32.le_iff_toInt_le.mp (z_nlt q4)
      rw [ev, if_pos (by omega)]
  refine zp2_within (fun w1 w2 => ?_) (fun w => ?_)
  · have hx := z_wir w1 w2 (zrl_c (lo := 0) (hi := 0) (by decide)) (zrl_c (lo := 1) (hi := 1) (by decide))
    refine zp2_ifr (fun q => absurd q (by decide)) (fun _ => ?_)
    refine zp2_within (fun v1 v2 => ?_) (fun v => ?_)
    · have hy := z_wir v1 v2 (zrl_c (lo := 0) (hi := 0) (by decide)) (zrl_c (lo := 63) (hi := 63) (by decide))
      refine zp2_ifr (fun q => absurd q (by decide)) (fun _ => zp2_fails0 (fun t1 e1 => zp2_ifr (fun _ => ?_) (fun q => absurd rfl q)))
      have h1 : zNow B s t1 := by rw [e1]; exact h.th
      refine zp2_bil (cp 1 (by rw [if_pos ⟨hx.1, hx.2, hy.1, hy.2⟩])) (fun s1 v e => ?_)
      cases e
      refine zp2_ifl (fun q => absurd q (by decide)) (fun _ => ?_)
      unfold fX4_holdButtons
      obtain ⟨i, ei⟩ := z_F (m := 2) hx (by decide)
      have m1 : x &&& 1 = x := by rw [ei]; exact v_bit1 i
      have kx := z_clamp hx.1
      have x1 := hx.2
      rw [m1, z_off hx (k := 7) rfl (by decide), z_off hx (k := 42) rfl (by decide)]
      refine zp2_bulp (P := zNow B) (zp2_ckl (zp2_bvl (fun s2 f2 => zp2_ckr (zp2_bvr (fun t2 g2 => zp2_some ?_))))) (fun a b q => zp2_some q)
      rw [f2, g2]
      refine h1.po ((zPo.rf h1.ve).w1 (z_pn34_7 (d := x.toNatClampNeg) (by omega)) rfl (zGo.r (a := 0) (b := 63) ?_ hy) rfl rfl (zcv_m (a := 33) (b := 65) (by decide) (by omega) (by omega)))
      rw [ei]
      exact zg_347 i
    · have hn := z_nin v (a := 0) (b := 63) rfl rfl
      refine zp2_ifr (fun _ => ?_) (fun q => absurd rfl q)
      refine zp2_bil (cp 0 (by rw [if_neg (fun z => by omega)])) (fun s1 v e => ?_)
      cases e
      exact zp2_ifl (fun _ => no) (fun q => absurd rfl q)
  · have hn := z_nin w (a := 0) (b := 1) rfl rfl
    refine zp2_ifr (fun _ => ?_) (fun q => absurd rfl q)
    refine zp2_bil (cp 0 (by rw [if_neg (fun z => by omega)])) (fun s1 v e => ?_)
    cases e
    exact zp2_ifl (fun _ => no) (fun q => absurd rfl q)
end ZOP
