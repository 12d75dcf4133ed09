/-! WRITING THE PORTS -/
section ZPW
variable {σ μ s t : zSt}
theorem v_l8 : ∀ i : Fin 8, (Int32.ofNat i.val) / 2 = (Int32.ofNat i.val) >>> ((1 : Int32) &&& 31) ∧ zrem (Int32.ofNat i.val) 2 = (Int32.ofNat i.val) &&& 1 ∧ 0 ≤ ((Int32.ofNat i.val) >>> ((1 : Int32) &&& 31)).toInt ∧ ((Int32.ofNat i.val) >>> ((1 : Int32) &&& 31)).toInt ≤ 3 := by decide +kernel
theorem z_r15m (x : Int32) : zr 0 15 (x &&& 15) := zr_andr (lo := 0) (hi := 15) (zr_c (lo := 15) (hi := 15) (by decide)) (by decide)
theorem t_take30 (k : zPo σ μ s t) {x a : Int32} (e : a = 0 ↔ x ≤ 127) : zp2 (fX7_take_30 s x a) (fX12_noise_19 t x) (zPo σ μ) := by
  have h := k.1
  have e17 : zgi t 3 (86 : Int32).toNatClampNeg = s.1 30 17 := h.1.e (z_pn30_17 (d := 0) (by decide))
  have r17 : zr 0 7 (s.1 30 17) := h.2.1.at (k := 30) (j := 17) rfl
  obtain ⟨i, ei⟩ := z_F (m := 8) r17 (by decide)
  obtain ⟨a1, a2, a3, a4⟩ := v_l8 i
  rw [← ei] at a1 a2 a3 a4
  unfold fX7_take_30 fX7_take_155 fX12_noise_19 fX12_noise_140 fX12_noise_141
  rw [e17, a1, a2]
  refine zp2_ckl (zp2_bvl (fun v ev => zp2_ckl ?_))
  have ev : v = s.1 30 17 >>> ((1 : Int32) &&& 31) := ev
  refine zp2_ckr (zp2_ckr (zp2_bvr (fun v2 ev2 => zp2_ckr (zp2_ckr ?_))))
  rw [← ev] at ev2 a3 a4
  subst ev2
  have rv : zr 0 3 v2 := ⟨a3, a4⟩
  have kv := z_clamp rv.1
  have b3 := rv.2
  obtain ⟨j, ej⟩ : ∃ j : Nat, v2.toNatClampNeg = j := ⟨_, rfl⟩
  have hj : j < 4 := by omega
  refine zp2_if (fun _ => ?_) (fun _ => ?_)
  · rw [z_off rv (k := 9) rfl (by decide), z_off rv (k := 78) rfl (by decide), ej]
    refine zp2_ckl (zp2_bvl (fun s1 f1 => zp2_ckr (zp2_bvr (fun t1 g1 => zp2_some ?_))))
    rw [f1, g1]
    exact k.w1 (z_pn30_9 (d := j) (by omega)) rfl (zGo.r (zg_30b ⟨j, hj⟩) (z_r15m _)) rfl (zcv_m (a := 9) (b := 13) (by decide) (by omega) (by omega)) (zcv_m (a := 78) (b := 82) (by decide) (by omega) (by omega))
  · refine zp2_if (fun _ => ?_) (fun n3 => ?_)
    · refine zp2_ckl (zp2_bvl (fun s1 f1 => zp2_ckl (zp2_bvl (fun s2 f2 => zp2_ckr (zp2_bvr (fun t1 g1 => zp2_ckr (zp2_bvr (fun t2 g2 => zp2_some ?_))))))))
      rw [f2, f1, g2, g1]
      exact (k.w1 (z_pn30_9 (d := 4) (by decide)) rfl (zGo.r rfl (zr_andr (lo := 0) (hi := 7) (zr_c (lo := 7) (hi := 7) (by decide)) (by decide))) rfl rfl rfl).nz
    · have hj3 : j < 3 := by
        have : ¬ v2.toInt = 3 := fun q => n3 (Int32.toInt_inj.mp q)
        omega
      have o0 : ((0 : Int32) + v2).toNatClampNeg = j := by rw [z_off rv (k := 0) rfl (by decide), ej]; omega
      have o69 : ((69 : Int32) + v2).toNatClampNeg = 69 + j := by rw [z_off rv (k := 69) rfl (by decide), ej]
      rw [o0, o69]
      have q := z_pn30_0 (d := j) (by omega)
      rw [Nat.zero_add] at q
      have eq : zgi t 3 (69 + j) = zgi s 30 j := h.1.e q
      rw [eq]
      have r0 : zr 0 1023 (((zgi s 30 j) &&& 15) ||| ((x &&& 63) <<< ((4 : Int32) &&& 31))) := zr_or (lo := 0) (hi := 1023) 10 (z_r15m _) (zr_shl (lo := 0) (hi := 1008) 4 rfl (zr_andr (lo := 0) (hi := 63) (zr_c (lo := 63) (hi := 63) (by decide)) (by decide)) (by decide)) (by decide)
      have r1 : zr 0 1023 (((zgi s 30 j) &&& 1008) ||| (x &&& 15)) := zr_or (lo := 0) (hi := 1023) 10 (zr_andr (lo := 0) (hi := 1008) (zr_c (lo := 1008) (hi := 1008) (by decide)) (by decide)) (z_r15m _) (by decide)
      refine zp2_iff e (fun _ _ => ?_) (fun _ _ => ?_)
      · refine zp2_ckl (zp2_ckl (zp2_bvl (fun s1 f1 => zp2_ckr (zp2_ckr (zp2_bvr (fun t1 g1 => zp2_some ?_))))))
        rw [f1, g1]
        exact k.w1 q rfl (zGo.r (zg_30a ⟨j, hj3⟩) r0) rfl (zcv_m (a := 0) (b := 2) (by decide) (by omega) (by omega)) (zcv_m (a := 68) (b := 71) (by decide) (by omega) (by omega))
      · refine zp2_ckl (zp2_ckl (zp2_bvl (fun s1 f1 => zp2_ckr (zp2_ckr (zp2_bvr (fun t1 g1 => zp2_some ?_))))))
        rw [f1, g1]
        exact k.w1 q rfl (zGo.r (zg_30a ⟨j, hj3⟩) r1) rfl (zcv_m (a := 0) (b := 2) (by decide) (by omega) (by omega)) (zcv_m (a := 68) (b := 71) (by decide) (by omega) (by omega))
theorem v_128 {x : Int32} : x < 128 ↔ x ≤ 127 := by
  have c1 : (127 : Int32).toInt = 127 := rfl
  have c2 : (128 : Int32).toInt = 128 := rfl
  exact ⟨fun q => Int32.le_iff_toInt_le.mpr (by have := Int32.lt_iff_toInt_lt.mp q; omega), fun q => Int32.lt_iff_toInt_lt.mpr (by have := Int32.le_iff_toInt_le.mp q; omega)⟩
theorem t_noise (h : zVe σ μ) {x : Int32} : zp2 (fX7_take σ x) (fX12_noise μ x) (zPo σ μ) := by
  unfold fX7_take fX7_take_12 fX12_noise
  refine zp2_iff v_128 (fun _ m => ?_) (fun _ m => ?_)
  · exact zp2_ifl (fun _ => t_take30 (zPo.rf h) ⟨fun _ => m, fun _ => rfl⟩) (fun q => absurd rfl q)
  · refine zp2_ifl (fun q => absurd q (by decide)) (fun _ => zp2_ckl (zp2_bvl (fun s1 f1 => zp2_ckr (zp2_bvr (fun t1 g1 => ?_)))))
    refine t_take30 (s := s1) (t := t1) ?_ ⟨fun q => absurd q (by decide), fun q => absurd q m⟩
    rw [f1, g1]
    exact (zPo.rf h).w1 (z_pn30_17 (d := 0) (by decide)) rfl (zGo.r rfl (zr_andr (lo := 0) (hi := 7) (zr_c (lo := 7) (hi := 7) (by decide)) (by decide))) rfl rfl rfl
/-- the latch of the line's place -/
theorem v_hc : ∀ i : Fin 228, 0 ≤ (zhc (Int32.ofNat i.val)).toInt ∧ (zhc (Int32.ofNat i.val)).toInt ≤ 255 := by decide +kernel
theorem t_latch (k : zPo σ μ s t) : zp2 (zbi (fX9_hCount s ) (fun σ6 v7 => zck (zin 6 12) (zbv (zsi σ6 34 ((6 : Int32).toNatClampNeg) v7) (fun σ8 => fX4_changeLines_37 σ8)))) (fX12_portTo_129 t) (zPo σ μ) := by
  unfold fX12_portTo_129 fX12_portTo_140 fX12_portTo_267 fX4_changeLines_37
  have h := k.1
  refine zp2_bil p_hCountC (fun s1 v es => zp2_bir p_hCountM (fun t1 w et => ?_))
  cases es
  cases et
  refine zp2_ckl (zp2_bvl (fun s2 f2 => zp2_ckr (zp2_bvr (fun t2 g2 => zp2_some ?_))))
  rw [f2, g2, h.e21]
  have r : zr 0 227 (s.1 23 21) := h.2.1.at (k := 23) (j := 21) rfl
  obtain ⟨i, ei⟩ := z_F (m := 228) r (by decide)
  refine k.w1 (z_pn34_6 (d := 0) (by decide)) rfl (zGo.r rfl ?_) rfl rfl rfl
  rw [ei]
  exact v_hc i
theorem v_ch : ∀ a b c d : Fin 2, ((Int32.ofNat c.val ||| (Int32.ofNat d.val <<< ((1 : Int32) &&& 31))) &&& ((Int32.ofNat a.val ||| (Int32.ofNat b.val <<< ((1 : Int32) &&& 31))) ^^^ (-1)) = 0) ↔ ¬ ((Int32.ofNat a.val = 0 ∧ Int32.ofNat c.val = 1) ∨ (Int32.ofNat b.val = 0 ∧ Int32.ofNat d.val = 1)) := by decide +kernel
/-- lines that rise: what follows a change, l and m the old lines -/
theorem t_rise (k : zPo σ μ s t) {l m : Int32} (hl : zr 0 1 l) (hm : zr 0 1 m) : zp2 (zbi (fX4_lines s ) (fun σ4 v5 => if (v5 &&& ((l ||| (m <<< ((1 : Int32) &&& 31))) ^^^ (-1))) = 0 then fX4_changeLines_37 σ4 else zbi (fX9_hCount σ4 ) (fun σ6 v7 => zck (zin 6 12) (zbv (zsi σ6 34 ((6 : Int32).toNatClampNeg) v7) (fun σ8 => fX4_changeLines_37 σ8))))) (if l = 0 then zbi (fX12_lineAt t 0) (fun σ11 v12 => if v12 = 1 then fX12_portTo_129 σ11 else fX12_portTo_115 σ11 m) else fX12_portTo_115 t m) (zPo σ μ) := by
  have h := k.1
  obtain ⟨a, ea⟩ := z_F (m := 2) hl (by decide)
  obtain ⟨b, eb⟩ := z_F (m := 2) hm (by decide)
  obtain ⟨c, ec⟩ := z_F (m := 2) h.l0 (by decide)
  obtain ⟨d, ed⟩ := z_F (m := 2) h.l1 (by decide)
  have key := v_ch a b c d
  rw [← ea, ← eb, ← ec, ← ed] at key
  refine zp2_bil p_linesC (fun s1 v es => ?_)
  cases es
  have no : ¬ (l = 0 ∧ zL0 s = 1) → zp2 (if ((zL0 s ||| (zL1 s <<< ((1 : Int32) &&& 31))) &&& ((l ||| (m <<< ((1 : Int32) &&& 31))) ^^^ (-1))) = 0 then fX4_changeLines_37 s else zbi (fX9_hCount s ) (fun σ6 v7 => zck (zin 6 12) (zbv (zsi σ6 34 ((6 : Int32).toNatClampNeg) v7) (fun σ8 => fX4_changeLines_37 σ8)))) (fX12_portTo_115 t m) (zPo σ μ) := fun n => by
    unfold fX12_portTo_115
    refine zp2_ifr (fun m0 => zp2_bir (p_line1 h) (fun t1 w et => ?_)) (fun m0 => ?_)
    · cases et
      refine zp2_ifr (fun d1 => ?_) (fun d1 => ?_)
      · exact zp2_ifl (fun q => absurd (Or.inr ⟨m0, d1⟩) (key.mp q)) (fun _ => t_latch k)
      · exact zp2_ifl (fun q => zp2_some k) (fun q => absurd (key.mpr (fun r => r.elim n (fun r => d1 r.2))) q)
    · exact zp2_ifl (fun q => zp2_some k) (fun q => absurd (key.mpr (fun r => r.elim n (fun r => m0 r.1))) q)
  refine zp2_ifr (fun l0 => zp2_bir (p_line0 h) (fun t1 w et => ?_)) (fun l0 => no (fun r => l0 r.1))
  cases et
  refine zp2_ifr (fun c1 => ?_) (fun c1 => no (fun r => c1 r.2))
  exact zp2_ifl (fun q => absurd (Or.inl ⟨l0, c1⟩) (key.mp q)) (fun _ => t_latch k)
theorem zPo.p0 (h : zPo σ μ s t) {v w : Int32} (r : zr 0 255 v) (e : w = v) : zPo σ μ (zsi s 34 0 v) (zsi t 3 33 w) := h.w1 (z_pn34_0 (d := 0) (by decide)) rfl (zGo.r rfl r) e rfl rfl
theorem t_pads75 (h : zVe σ μ) {x a b : Int32} (hx : zr 0 255 x) (e : a = 0 ↔ ¬ b = 0) : zp2 (fX4_write_71 σ x a) (fX12_portTo_75 μ x b) (zPo σ μ) := by
  unfold fX4_write_71 fX4_write_151 fX12_portTo_75 fX12_portTo_267 fX4_changeLines
  refine zp2_ifn e (fun _ _ => ?_) (fun _ _ => zp2_some (zPo.rf h))
  refine zp2_bulp (P := zPo σ μ) ?_ (fun s b q => zp2_some q)
  refine zp2_bil p_linesC (fun s1 v es => zp2_ckl (zp2_bvl (fun s3 f3 => ?_)))
  cases es
  refine zp2_bir (p_line0 h) (fun t1 w et => ?_)
  cases et
  refine zp2_bir (p_line1 h) (fun t1 w et => zp2_ckr (zp2_bvr (fun t3 g3 => ?_)))
  cases et
  have k : zPo σ μ s3 t3 := by
    rw [f3, g3]
    exact (zPo.rf h).p0 hx rfl
  exact t_rise k h.l0 h.l1
theorem v_u64 : ∀ i : Fin 256, zrem (Int32.ofNat i.val) 64 = Int32.ofNat i.val &&& 63 ∧ zrem (Int32.ofNat i.val) 4 = Int32.ofNat i.val &&& 3 := by decide +kernel
theorem t_fm (h : zVe σ μ) {p x : Int32} {c1 c2 : Bool} (hx : zr 0 255 x) : zp2 (zbu (fX10_take σ p x) (fun σ6 => fX4_write_151 σ6)) (if p = 240 then zck c1 (zck (zin 162 1048) (zbv (zsi μ 3 ((162 : Int32).toNatClampNeg) (zrem x 64)) (fun σ16 => fX12_portTo_267 σ16))) else if p = 241 then zck (zin 162 1048) (zck (zin (98 + (zgi μ 3 (162 : Int32).toNatClampNeg)) 1048) (zbv (zsi μ 3 ((98 + (zgi μ 3 (162 : Int32).toNatClampNeg)).toNatClampNeg) x) (fun σ15 => fX12_portTo_267 σ15))) else zck c2 (zck (zin 163 1048) (zbv (zsi μ 3 ((163 : Int32).toNatClampNeg) (zrem x 4)) (fun σ14 => fX12_portTo_267 σ14)))) (zPo σ μ) := by
  have ex : zrem x 64 = x &&& 63 ∧ zrem x 4 = x &&& 3 := by
    obtain ⟨i, e⟩ := z_byteF hx
    subst e
    exact v_u64 i
  rw [ex.1, ex.2]
  unfold fX4_write_151 fX12_portTo_267
  refine zp2_bulp (P := zPo σ μ) ?_ (fun s b q => zp2_some q)
  unfold fX10_take fX10_take_57
  refine zp2_if (fun _ => ?_) (fun _ => zp2_if (fun _ => ?_) (fun _ => ?_))
  · refine zp2_ckl (zp2_bvl (fun s1 f1 => zp2_ckr (zp2_ckr (zp2_bvr (fun t1 g1 => zp2_some ?_)))))
    rw [f1, g1]
    exact (zPo.rf h).w1 (z_pn32_68 (d := 0) (by decide)) rfl (zGo.r rfl (zr_andr (lo := 0) (hi := 63) (zr_c (lo := 63) (hi := 63) (by decide)) (by decide))) rfl rfl rfl
  · have e68 : zgi μ 3 (162 : Int32).toNatClampNeg = σ.1 32 68 := h.1.e (z_pn32_68 (d := 0) (by decide))
    have r68 : zr 0 63 (σ.1 32 68) := h.2.1.at (k := 32) (j := 68) rfl
    have m68 : zgi σ 32 (68 : Int32).toNatClampNeg &&& 63 = σ.1 32 68 := Int32.toInt_inj.mp (by
      show (σ.1 32 68 &&& 63).toInt = _
      rw [z_mask (k := 6) r68.1 rfl (by decide)]
      have := r68.1
      have := r68.2
      show (σ.1 32 68).toInt % 64 = _
      omega)
    rw [e68, m68]
    refine zp2_ckl (zp2_ckl (zp2_bvl (fun s1 f1 => zp2_ckr (zp2_ckr (zp2_bvr (fun t1 g1 => zp2_some ?_))))))
    have kk := z_clamp r68.1
    have b68 := r68.2
    rw [f1, g1, z_off r68 (k := 98) rfl (by decide)]
    have p := z_pn32_0 (d := (σ.1 32 68).toNatClampNeg) (by omega)
    rw [Nat.zero_add] at p
    exact (zPo.rf h).w1 p rfl (zGo.r (zg_32 ⟨(σ.1 32 68).toNatClampNeg, by omega⟩) hx) rfl (zcv_m (a := 0) (b := 64) (by decide) (by omega) (by omega)) (zcv_m (a := 98) (b := 163) (by decide) (by omega) (by omega))
  · refine zp2_ckl (zp2_bvl (fun s1 f1 => zp2_ckr (zp2_ckr (zp2_bvr (fun t1 g1 => zp2_some ?_)))))
    rw [f1, g1]
    exact (zPo.rf h).w1 (z_pn32_64 (d := 0) (by decide)) rfl (zGo.r rfl (zr_andr (lo := 0) (hi := 3) (zr_c (lo := 3) (hi := 3) (by decide)) (by decide))) rfl rfl rfl
theorem v_hd : ∀ i : Fin 256, (Int32.ofNat i.val < 1 ↔ Int32.ofNat i.val ≤ 0) ∧ (¬ Int32.ofNat i.val < 1 → ¬ Int32.ofNat i.val = 6 → (6 < Int32.ofNat i.val ↔ 6 ≤ Int32.ofNat i.val)) ∧ (Int32.ofNat i.val < 1 → ¬ Int32.ofNat i.val = 6) := by decide +kernel
theorem t_out11 (h : zVe σ μ) {p x a b : Int32} (hp : zr 0 255 p) (hx : zr 0 255 x) (e : a = 0 ↔ ¬ b = 0) : zp2 (fX4_write_11 σ p x a) (fX12_portTo_12 μ p x b) (zPo σ μ) := by
  obtain ⟨i, ei⟩ := z_byteF hp
  obtain ⟨d0, d1, d2, d3⟩ := v_p6 i
  obtain ⟨w0, w1, w2⟩ := v_hd i
  rw [← ei] at d0 d1 d2 d3 w0 w1 w2
  have two := h.2.2.1.two
  unfold fX4_write_11 fX12_portTo_12 fX12_portTo_50
  refine zp2_ifn d0 (fun c0 m0 => ?_) (fun c0 m0 => zp2_ifn (d1 c0) (fun c1 m1 => ?_) (fun c1 m1 => zp2_ifn (d2 c0 c1) (fun c2 m2 => ?_) (fun c2 m2 => ?_)))
  · -- 0 to 63
    rcases two with ⟨_, k6, k2⟩ | ⟨_, k6, k2⟩
    · exact zp2_ifl (fun _ => zp2_ifr (fun q => absurd q k2) (fun _ => zp2_ifr (fun q => absurd q k2) (fun _ => t_pads75 h hx e))) (fun q => absurd k6 q)
    · refine zp2_ifl (fun q => absurd q k6) (fun _ => zp2_ifr (fun _ => ?_) (fun q => absurd k2 q))
      refine zp2_iff w0 (fun c _ => ?_) (fun c _ => ?_)
      · exact zp2_ifr (fun _ => zp2_ifr (fun q => absurd q (w2 c)) (fun _ => t_pads75 h hx e)) (fun q => absurd k2 q)
      · by_cases s6 : p = 6
        · subst s6
          refine zp2_ifl (fun q => absurd q (by decide)) (fun _ => zp2_ifr (fun _ => zp2_ifr (fun _ => zp2_ifr (fun _ => ?_) (fun q => absurd rfl q)) (fun q => absurd k2 q)) (fun q => absurd (by decide) q))
          unfold fX4_write_151 fX12_portTo_267 fX4_writeHandy fX4_writeHandy_34 fX7_takeStereo
          refine zp2_bulp (P := zPo σ μ) ?_ (fun s b q => zp2_some q)
          refine zp2_ifl (fun _ => ?_) (fun q => absurd rfl q)
          refine zp2_bulp (P := zPo σ μ) ?_ (fun s b q => zp2_some q)
          refine zp2_ckl (zp2_bvl (fun s1 f1 => zp2_ckr (zp2_bvr (fun t1 g1 => zp2_some ?_))))
          rw [f1, g1]
          exact (zPo.rf h).w1 (z_pn30_18 (d := 0) (by decide)) rfl (zGo.r rfl hx) rfl rfl rfl
        · refine zp2_iff (w1 c s6) (fun _ _ => ?_) (fun c6 _ => ?_)
          · exact zp2_ifr (fun _ => zp2_ifr (fun q => absurd q s6) (fun _ => t_pads75 h hx e)) (fun q => absurd k2 q)
          · unfold fX4_write_151 fX12_portTo_267 fX4_writeHandy fX4_writeHandy_34
            refine zp2_bulp (P := zPo σ μ) ?_ (fun s b q => zp2_some q)
            have b1 := Int32.le_iff_toInt_le.mp (z_nlt c)
            have b6 := Int32.le_iff_toInt_le.mp (z_nlt c6)
            have c1 : (1 : Int32).toInt = 1 := rfl
            have c5 : (5 : Int32).toInt = 5 := rfl
            have c66 : (6 : Int32).toInt = 6 := rfl
            have n6 : ¬ p.toInt = 6 := fun q => s6 (Int32.toInt_inj.mp q)
            have n5 : ¬ 5 < p := fun q => by have := Int32.lt_iff_toInt_lt.mp q; omega
            refine zp2_ifl (fun q => absurd q s6) (fun _ => zp2_ifl (fun q => absurd q c) (fun _ => zp2_ifl (fun q => absurd q n5) (fun _ => ?_)))
            have kp := z_clamp hp.1
            obtain ⟨d, ed⟩ : ∃ d : Nat, p.toNatClampNeg = 1 + d := ⟨p.toNatClampNeg - 1, by omega⟩
            have hd : d < 5 := by omega
            have em : ((36 : Int32) + p).toNatClampNeg = 37 + d := by rw [z_off hp (k := 36) rfl (by decide), ed]; omega
            rw [ed, em]
            refine zp2_ckl (zp2_bvl (fun s1 f1 => zp2_ckr (zp2_bvr (fun t1 g1 => zp2_some ?_))))
            rw [f1, g1]
            exact (zPo.rf h).w1 (z_pn34_1 (d := d) hd) rfl (zGo.r (zg_34 ⟨1 + d, by omega⟩) hx) rfl rfl (zcv_m (a := 33) (b := 65) (by decide) (by omega) (by omega))
  · unfold fX4_write_151 fX12_portTo_267
    exact zp2_buu (t_noise h) (fun s t q => zp2_some q)
  · unfold fX4_write_151 fX12_portTo_267
    exact zp2_ifn e (fun _ _ => zp2_buu (t_ctl h hx) (fun s t q => zp2_some q)) (fun _ _ => zp2_buu (t_wdat h hx) (fun s t q => zp2_some q))
  · rcases two with ⟨_, k6, k2⟩ | ⟨_, k6, k2⟩
    · refine zp2_ifl (fun _ => zp2_ifr (fun q => absurd q k2) (fun _ => ?_)) (fun q => absurd k6 q)
      exact zp2_if (fun _ => zp2_some (zPo.rf h)) (fun _ => zp2_if (fun _ => zp2_some (zPo.rf h)) (fun _ => t_fm h hx))
    · exact zp2_ifl (fun q => absurd q k6) (fun _ => zp2_ifr (fun _ => zp2_some (zPo.rf h)) (fun q => absurd k2 q))
theorem t_out (h : zVe σ μ) {p x : Int32} (hp : zr 0 255 p) (hx : zr 0 255 x) : zp2 (fX4_write σ p x) (fX12_portTo μ p x) (zPo σ μ) := by
  obtain ⟨i, ei⟩ := z_byteF hp
  obtain ⟨d0, d1, d2, d3⟩ := v_p6 i
  rw [← ei] at d3
  unfold fX4_write fX12_portTo
  exact zp2_ckr (zp2_ifn d3 (fun _ _ => t_out11 h hp hx (by decide)) (fun _ _ => t_out11 h hp hx (by decide)))
end ZPW
