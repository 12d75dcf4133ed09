/-! THREE QUARTERS -/
theorem zp2_birp {α β : Type} {o : Option α} {p : Option (zSt × Int32)} {g : zSt → Int32 → Option β} {P : α → zSt × Int32 → Prop} {Q : α → β → Prop} (h : zp2 o p P) (k : ∀ a t w, P a (t, w) → zp2 (some a) (g t w) Q) : zp2 o (zbi p g) Q := by
  intro a b ea eb
  cases e : p with
  | none => rw [e] at eb; cases eb
  | some r =>
    rw [e] at eb
    exact k a r.1 r.2 (h a r ea e) a b rfl eb
theorem z_fin8 {x : Int32} (h : zr 0 7 x) : ∃ i : Fin 8, x = Int32.ofNat i.val := by
  obtain ⟨h0, h1⟩ := h
  obtain ⟨i, hi⟩ : ∃ i : Nat, x.toInt = i := ⟨x.toInt.toNat, by omega⟩
  exact ⟨⟨i, by omega⟩, z_ofN hi⟩
theorem v_par : ∀ i : Fin 8, ((Int32.ofNat i.val &&& 1 = 0 ∧ zrem (Int32.ofNat i.val) 2 = 0) ∨ (Int32.ofNat i.val &&& 1 = 1 ∧ zrem (Int32.ofNat i.val) 2 = 1)) ∧ (0 ≤ (Int32.ofNat i.val >>> ((1 : Int32) &&& 31)).toInt ∧ (Int32.ofNat i.val >>> ((1 : Int32) &&& 31)).toInt ≤ 3) := by decide +kernel
theorem z_par {y : Int32} (h : zr 0 7 y) : ((y &&& 1 = 0 ∧ zrem y 2 = 0) ∨ (y &&& 1 = 1 ∧ zrem y 2 = 1)) ∧ zr 0 3 (y >>> ((1 : Int32) &&& 31)) := by
  obtain ⟨i, e⟩ := z_fin8 h
  subst e
  exact v_par i
theorem z_r7 (x : Int32) : zr 0 7 (x &&& 7) := zr_andr (lo := 0) (hi := 7) (zr_c (lo := 7) (hi := 7) (by decide)) (by decide)
section ZQ3
variable {I : zSt → zSt → Prop} {σ μ : zSt}
theorem t_inc3 (hI : zIoK I) (h : zTT I σ μ) (hF : zF σ μ) (hW : zWzz σ μ) {p c v : Int32} : zp2 (fX5_firstQuarter_110 σ c v p) (fX12_zero_328 μ c v p) (zEnq I) := by
  unfold fX5_firstQuarter_110 fX12_zero_328
  refine zp2_buu (t_rpTo hI h rfl) (fun s2 t2 q2 => zp2_some ?_)
  obtain ⟨h2, qc2, qm2⟩ := q2
  exact ⟨h2, hF.of (qc2.1 36 1 rfl) (qm2.1 3 1 rfl), hW.of (qc2.1 36 20 rfl) (qm2.1 3 20 rfl), rfl⟩
theorem t_z1 (hI : zIoK I) (h : zTT I σ μ) (hF : zF σ μ) (hW : zWzz σ μ) {y : Int32} (hy : zr 0 7 y) : zp2 (if (y &&& 1) = 0 then zbi (fX5_loadPair σ (y >>> ((1 : Int32) &&& 31))) (fun σ7 v8 => fX5_firstQuarter_81 σ7 v8) else zbi (fX5_addPair σ (y >>> ((1 : Int32) &&& 31))) (fun σ5 v6 => fX5_firstQuarter_81 σ5 v6)) (fX12_zero μ y 1) (zEnq I) := by
  obtain ⟨par, hp⟩ := z_par hy
  unfold fX12_zero fX5_firstQuarter_81
  refine zp2_bvr (fun p ep => zp2_ifr (fun q => absurd q (by decide)) (fun _ => zp2_ifr (fun _ => zp2_ckr ?_) (fun q => absurd rfl q)))
  subst ep
  rcases par with ⟨e1, e2⟩ | ⟨e1, e2⟩
  · rw [e1, e2]
    exact zp2_ifl (fun _ => zp2_ifr (fun _ => zp2_bilp (t_ldrp hI h hF hW) (fun s v b q => zp2_some q)) (fun q => absurd rfl q)) (fun q => absurd rfl q)
  · rw [e1, e2]
    exact zp2_ifl (fun q => absurd q (by decide)) (fun _ => zp2_ifr (fun q => absurd q (by decide)) (fun _ => zp2_bilp (t_addhl hI h hF hp) (fun s v b q => zp2_some q)))
theorem t_z2 (hI : zIoK I) (h : zTT I σ μ) (hF : zF σ μ) {y : Int32} (hy : zr 0 7 y) : zp2 (fX5_far σ y) (fX12_zero μ y 2) (zEnq I) := by
  obtain ⟨par, hp⟩ := z_par hy
  have t := t_far hI h hF hy
  unfold fX12_zero fX12_zero_178 fX12_zero_306
  refine zp2_bvr (fun p ep => zp2_ifr (fun q => absurd q (by decide)) (fun _ => zp2_ifr (fun q => absurd q (by decide)) (fun _ => zp2_ifr (fun q => absurd q (by decide)) (fun _ => zp2_ifr (fun _ => zp2_ckr ?_) (fun q => absurd rfl q)))))
  subst ep
  rcases par with ⟨e1, e2⟩ | ⟨e1, e2⟩
  · rw [e2]
    rw [e1] at t
    exact zp2_ifr (fun q => absurd q (by decide)) (fun _ => zp2_birp t (fun a t w q => zp2_some q))
  · rw [e2]
    rw [e1] at t
    exact zp2_ifr (fun _ => zp2_birp t (fun a t w q => zp2_some q)) (fun q => absurd rfl q)
theorem t_z3 (hI : zIoK I) (h : zTT I σ μ) (hF : zF σ μ) (hW : zWzz σ μ) {y : Int32} (hy : zr 0 7 y) : zp2 (zbi (fX5_pair σ (y >>> ((1 : Int32) &&& 31))) (fun σ11 v12 => if (y &&& 1) = 0 then fX5_firstQuarter_110 σ11 1 v12 (y >>> ((1 : Int32) &&& 31)) else fX5_firstQuarter_110 σ11 (-1) v12 (y >>> ((1 : Int32) &&& 31)))) (fX12_zero μ y 3) (zEnq I) := by
  obtain ⟨par, hp⟩ := z_par hy
  unfold fX12_zero fX12_zero_178
  refine zp2_bvr (fun p ep => zp2_ifr (fun q => absurd q (by decide)) (fun _ => zp2_ifr (fun q => absurd q (by decide)) (fun _ => zp2_ifr (fun q => absurd q (by decide)) (fun _ => zp2_ifr (fun q => absurd q (by decide)) (fun _ => ?_)))))
  subst ep
  refine zp2_bii (t_rp h hp) (fun s1 b t1 b' q => ?_)
  obtain ⟨q1, q2, q3, rb⟩ := q
  have q1 : s1 = σ := q1
  have q2 : t1 = μ := q2
  have q3 : b' = b := q3
  subst q1
  subst q2
  subst q3
  refine zp2_ckr ?_
  rcases par with ⟨e1, e2⟩ | ⟨e1, e2⟩
  · rw [e1, e2]
    exact zp2_ifl (fun _ => zp2_ifr (fun _ => t_inc3 hI h hF hW) (fun q => absurd rfl q)) (fun q => absurd rfl q)
  · rw [e1, e2]
    exact zp2_ifl (fun q => absurd q (by decide)) (fun _ => zp2_ifr (fun q => absurd q (by decide)) (fun _ => t_inc3 hI h hF hW))
theorem t_z7 (hI : zIoK I) (h : zTT I σ μ) (hF : zF σ μ) (hW : zWzz σ μ) {y : Int32} (hy : zr 0 7 y) : zp2 (zbu (fX5_changeA σ y) (fun s => some (s, (4 : Int32)))) (fX12_singles μ y 7) (zEnq I) := by
  rcases zr_hd (c := 0) hy rfl with e | hy
  · subst e; exact t_acc0 hI h hF hW
  rcases zr_hd (c := 1) hy rfl with e | hy
  · subst e; exact t_acc1 hI h hF hW
  rcases zr_hd (c := 2) hy rfl with e | hy
  · subst e; exact t_acc2 hI h hF hW
  rcases zr_hd (c := 3) hy rfl with e | hy
  · subst e; exact t_acc3 hI h hF hW
  rcases zr_hd (c := 4) hy rfl with e | hy
  · subst e; exact t_acc4 hI h hF hW
  rcases zr_hd (c := 5) hy rfl with e | hy
  · subst e; exact t_acc5 hI h hF hW
  rcases zr_hd (c := 6) hy rfl with e | hy
  · subst e; exact t_acc6 hI h hF hW
  rcases zr_hd (c := 7) hy rfl with e | hy
  · subst e; exact t_acc7 hI h hF hW
  exact zr_no9 hy (by decide)
theorem t_first (hI : zIoK I) (h : zTT I σ μ) (hF : zF σ μ) (hW : zWzz σ μ) (hp : zPlc σ μ) {op : Int32} (hx : op >>> ((6 : Int32) &&& 31) = 0) : zp2 (fX5_firstQuarter σ op) (fX12_plain μ op) (zEnq I) := by
  have hy : zr 0 7 ((op >>> ((3 : Int32) &&& 31)) &&& 7) := z_r7 _
  have hz : zr 0 7 (op &&& 7) := z_r7 _
  unfold fX5_firstQuarter fX12_plain fX12_plain_64
  refine zp2_bvl (fun y ey => zp2_bvr (fun y' ey' => zp2_bvr (fun z ez => zp2_ifr (fun _ => ?_) (fun q => absurd hx q))))
  rw [← ey] at ey' hy
  subst ey'
  rw [← ez] at hz ⊢
  clear ez
  rcases zr_hd (c := 0) hz rfl with e | hz
  · subst e
    exact zp2_ifl (fun _ => zp2_ifr (fun q => absurd q (by decide)) (fun _ => zp2_bii (t_near hI h hF hW hy) (fun s v t w q => zp2_some q))) (fun q => absurd rfl q)
  rcases zr_hd (c := 1) hz rfl with e | hz
  · subst e
    exact zp2_ifl (fun q => absurd q (by decide)) (fun _ => zp2_ifl (fun _ => zp2_ifr (fun q => absurd q (by decide)) (fun _ => zp2_birp (t_z1 hI h hF hW hy) (fun a t w q => zp2_some q))) (fun q => absurd rfl q))
  rcases zr_hd (c := 2) hz rfl with e | hz
  · subst e
    exact zp2_ifl (fun q => absurd q (by decide)) (fun _ => zp2_ifl (fun q => absurd q (by decide)) (fun _ => zp2_ifl (fun _ => zp2_ifr (fun q => absurd q (by decide)) (fun _ => zp2_bii (t_z2 hI h hF hy) (fun s v t w q => zp2_some q))) (fun q => absurd rfl q)))
  rcases zr_hd (c := 3) hz rfl with e | hz
  · subst e
    exact zp2_ifl (fun q => absurd q (by decide)) (fun _ => zp2_ifl (fun q => absurd q (by decide)) (fun _ => zp2_ifl (fun q => absurd q (by decide)) (fun _ => zp2_ifl (fun _ => zp2_ifr (fun q => absurd q (by decide)) (fun _ => zp2_birp (t_z3 hI h hF hW hy) (fun a t w q => zp2_some q))) (fun q => absurd rfl q))))
  rcases zr_hd (c := 4) hz rfl with e | hz
  · subst e
    exact zp2_ifl (fun q => absurd q (by decide)) (fun _ => zp2_ifl (fun q => absurd q (by decide)) (fun _ => zp2_ifl (fun q => absurd q (by decide)) (fun _ => zp2_ifl (fun q => absurd q (by decide)) (fun _ => zp2_ifl (fun _ => zp2_ifr (fun _ => zp2_birp (t_inc hI h hF hW hp hy) (fun a t w q => zp2_some q)) (fun q => absurd (by decide) q)) (fun q => absurd rfl q)))))
  rcases zr_hd (c := 5) hz rfl with e | hz
  · subst e
    exact zp2_ifl (fun q => absurd q (by decide)) (fun _ => zp2_ifl (fun q => absurd q (by decide)) (fun _ => zp2_ifl (fun q => absurd q (by decide)) (fun _ => zp2_ifl (fun q => absurd q (by decide)) (fun _ => zp2_ifl (fun q => absurd q (by decide)) (fun _ => zp2_ifl (fun _ => zp2_ifr (fun _ => zp2_birp (t_dec hI h hF hW hp hy) (fun a t w q => zp2_some q)) (fun q => absurd (by decide) q)) (fun q => absurd rfl q))))))
  rcases zr_hd (c := 6) hz rfl with e | hz
  · subst e
    exact zp2_ifl (fun q => absurd q (by decide)) (fun _ => zp2_ifl (fun q => absurd q (by decide)) (fun _ => zp2_ifl (fun q => absurd q (by decide)) (fun _ => zp2_ifl (fun q => absurd q (by decide)) (fun _ => zp2_ifl (fun q => absurd q (by decide)) (fun _ => zp2_ifl (fun q => absurd q (by decide)) (fun _ => zp2_ifl (fun _ => zp2_ifr (fun _ => zp2_birp (t_ldn hI h hF hW hp hy) (fun a t w q => zp2_some q)) (fun q => absurd (by decide) q)) (fun q => absurd rfl q)))))))
  rcases zr_hd (c := 7) hz rfl with e | hz
  · subst e
    exact zp2_ifl (fun q => absurd q (by decide)) (fun _ => zp2_ifl (fun q => absurd q (by decide)) (fun _ => zp2_ifl (fun q => absurd q (by decide)) (fun _ => zp2_ifl (fun q => absurd q (by decide)) (fun _ => zp2_ifl (fun q => absurd q (by decide)) (fun _ => zp2_ifl (fun q => absurd q (by decide)) (fun _ => zp2_ifl (fun q => absurd q (by decide)) (fun _ => zp2_ifr (fun _ => zp2_birp (t_z7 hI h hF hW hy) (fun a t w q => zp2_some q)) (fun q => absurd (by decide) q))))))))
  exact zr_no9 hz (by decide)
theorem t_move (hI : zIoK I) (h : zTT I σ μ) (hF : zF σ μ) (hW : zWzz σ μ) (hp : zPlc σ μ) {op : Int32} (hx : op >>> ((6 : Int32) &&& 31) = 1) : zp2 (fX5_move σ op) (fX12_plain μ op) (zEnq I) := by
  have hy : zr 0 7 ((op >>> ((3 : Int32) &&& 31)) &&& 7) := z_r7 _
  have hz : zr 0 7 (op &&& 7) := z_r7 _
  unfold fX5_move fX12_plain fX12_plain_92 fX12_plain_115 fX12_plain_110 fX12_plain_116 fX5_move_50 fX5_move_56
  rw [hx]
  refine zp2_bvr (fun y' ey' => zp2_bvr (fun z ez => zp2_ifr (fun q => absurd q (by decide)) (fun _ => zp2_ifr (fun _ => ?_) (fun q => absurd rfl q))))
  by_cases q : op = 118
  · refine zp2_ifl (fun _ => zp2_ifr (fun _ => ?_) (fun r => absurd q r)) (fun r => absurd q r)
    refine zp2_ckl (zp2_bvl (fun s f => zp2_ckr (zp2_bvr (fun t g => zp2_ifr (fun _ => zp2_some ?_) (fun r => absurd q r)))))
    subst f
    subst g
    exact ⟨h.upd hI [26] (zQ.wi zQ.rf rfl) (zQ.wi zQ.rf rfl) rfl (zAl1 ⟨rfl, zrg_1 (by decide) (by decide) (show zr 0 1 (1 : Int32) from zr_c (by decide))⟩), hF, hW, rfl⟩
  · refine zp2_ifl (fun r => absurd r q) (fun _ => zp2_ifr (fun r => absurd r q) (fun _ => ?_))
    refine zp2_bvl (fun y ey => zp2_bvl (fun z2 ez2 => ?_))
    have e1 : y' = y := ey'.trans ey.symm
    have e2 : z2 = z := ez2.trans ez.symm
    subst e1
    subst e2
    rw [← ey] at hy
    rw [← ez] at hz
    refine zp2_bii (t_one h hp hz) (fun s v t v' q => ?_)
    obtain ⟨q1, q2, q3, rv⟩ := q
    have q1 : s = σ := q1
    have q2 : t = μ := q2
    have q3 : v' = v := q3
    subst q1
    subst q2
    subst q3
    refine zp2_buu (t_putOne hI h hp hy (z_m255 rv) rv) (fun s2 t2 q2 => ?_)
    obtain ⟨h2, qc, qm⟩ := q2
    have f2 : zF s2 t2 := hF.of (qc.1 36 1 rfl) (qm.1 3 1 rfl)
    have w2 : zWzz s2 t2 := hW.of (qc.1 36 20 rfl) (qm.1 3 20 rfl)
    exact zp2_ifr (fun r => absurd r q) (fun _ => zp2_if (fun _ => zp2_some ⟨h2, f2, w2, rfl⟩) (fun _ => zp2_if (fun _ => zp2_some ⟨h2, f2, w2, rfl⟩) (fun _ => zp2_some ⟨h2, f2, w2, rfl⟩)))
theorem t_dor (hI : zIoK I) (h : zTT I σ μ) (hF : zF σ μ) (hW : zWzz σ μ) (hp : zPlc σ μ) {op : Int32} (hx : op >>> ((6 : Int32) &&& 31) = 2) : zp2 (fX5_doWithRegister σ op) (fX12_plain μ op) (zEnq I) := by
  have hy : zr 0 7 ((op >>> ((3 : Int32) &&& 31)) &&& 7) := z_r7 _
  have hz : zr 0 7 (op &&& 7) := z_r7 _
  unfold fX5_doWithRegister fX12_plain fX12_plain_139 fX5_doWithRegister_33
  rw [hx]
  refine zp2_bvr (fun y ey => zp2_bvr (fun z ez => zp2_ifr (fun q => absurd q (by decide)) (fun _ => zp2_ifr (fun q => absurd q (by decide)) (fun _ => zp2_ifr (fun _ => ?_) (fun q => absurd rfl q)))))
  rw [← ey, ← ez]
  rw [← ey] at hy
  rw [← ez] at hz
  refine zp2_bii (t_one h hp hz) (fun s v t v' q => ?_)
  obtain ⟨q1, q2, q3, rv⟩ := q
  have q1 : s = σ := q1
  have q2 : t = μ := q2
  have q3 : v' = v := q3
  subst q1
  subst q2
  subst q3
  refine zp2_buu (t_do hI h hF hy rv) (fun s2 t2 q2 => ?_)
  obtain ⟨h2, f2, qc, qm⟩ := q2
  have w2 : zWzz s2 t2 := hW.of (qc.1 36 20 rfl) (qm.1 3 20 rfl)
  exact zp2_if (fun _ => zp2_some ⟨h2, f2, w2, rfl⟩) (fun _ => zp2_some ⟨h2, f2, w2, rfl⟩)
theorem t_first_r1 (hI : zIoK I) (h : zTT I σ μ) (hF : zF σ μ) (hW : zWzz σ μ) (hp : zPlc σ μ) {op : Int32} (hx : op >>> ((6 : Int32) &&& 31) = 0) : zp2 (fX5_firstQuarter σ op) (fX12_plain_r1 μ op) (zEnq I) := by
  have hy : zr 0 7 ((op >>> ((3 : Int32) &&& 31)) &&& 7) := z_r7 _
  have hz : zr 0 7 (op &&& 7) := z_r7 _
  unfold fX5_firstQuarter fX12_plain_r1 fX12_plain_r1_64
  refine zp2_bvl (fun y ey => zp2_bvr (fun y' ey' => zp2_bvr (fun z ez => zp2_ifr (fun _ => ?_) (fun q => absurd hx q))))
  rw [← ey] at ey' hy
  subst ey'
  rw [← ez] at hz ⊢
  clear ez
  rcases zr_hd (c := 0) hz rfl with e | hz
  · subst e
    exact zp2_ifl (fun _ => zp2_ifr (fun q => absurd q (by decide)) (fun _ => zp2_bii (t_near hI h hF hW hy) (fun s v t w q => zp2_some q))) (fun q => absurd rfl q)
  rcases zr_hd (c := 1) hz rfl with e | hz
  · subst e
    exact zp2_ifl (fun q => absurd q (by decide)) (fun _ => zp2_ifl (fun _ => zp2_ifr (fun q => absurd q (by decide)) (fun _ => zp2_birp (t_z1 hI h hF hW hy) (fun a t w q => zp2_some q))) (fun q => absurd rfl q))
  rcases zr_hd (c := 2) hz rfl with e | hz
  · subst e
    exact zp2_ifl (fun q => absurd q (by decide)) (fun _ => zp2_ifl (fun q => absurd q (by decide)) (fun _ => zp2_ifl (fun _ => zp2_ifr (fun q => absurd q (by decide)) (fun _ => zp2_bii (t_z2 hI h hF hy) (fun s v t w q => zp2_some q))) (fun q => absurd rfl q)))
  rcases zr_hd (c := 3) hz rfl with e | hz
  · subst e
    exact zp2_ifl (fun q => absurd q (by decide)) (fun _ => zp2_ifl (fun q => absurd q (by decide)) (fun _ => zp2_ifl (fun q => absurd q (by decide)) (fun _ => zp2_ifl (fun _ => zp2_ifr (fun q => absurd q (by decide)) (fun _ => zp2_birp (t_z3 hI h hF hW hy) (fun a t w q => zp2_some q))) (fun q => absurd rfl q))))
  rcases zr_hd (c := 4) hz rfl with e | hz
  · subst e
    exact zp2_ifl (fun q => absurd q (by decide)) (fun _ => zp2_ifl (fun q => absurd q (by decide)) (fun _ => zp2_ifl (fun q => absurd q (by decide)) (fun _ => zp2_ifl (fun q => absurd q (by decide)) (fun _ => zp2_ifl (fun _ => zp2_ifr (fun _ => zp2_birp (t_inc hI h hF hW hp hy) (fun a t w q => zp2_some q)) (fun q => absurd (by decide) q)) (fun q => absurd rfl q)))))
  rcases zr_hd (c := 5) hz rfl with e | hz
  · subst e
    exact zp2_ifl (fun q => absurd q (by decide)) (fun _ => zp2_ifl (fun q => absurd q (by decide)) (fun _ => zp2_ifl (fun q => absurd q (by decide)) (fun _ => zp2_ifl (fun q => absurd q (by decide)) (fun _ => zp2_ifl (fun q => absurd q (by decide)) (fun _ => zp2_ifl (fun _ => zp2_ifr (fun _ => zp2_birp (t_dec hI h hF hW hp hy) (fun a t w q => zp2_some q)) (fun q => absurd (by decide) q)) (fun q => absurd rfl q))))))
  rcases zr_hd (c := 6) hz rfl with e | hz
  · subst e
    exact zp2_ifl (fun q => absurd q (by decide)) (fun _ => zp2_ifl (fun q => absurd q (by decide)) (fun _ => zp2_ifl (fun q => absurd q (by decide)) (fun _ => zp2_ifl (fun q => absurd q (by decide)) (fun _ => zp2_ifl (fun q => absurd q (by decide)) (fun _ => zp2_ifl (fun q => absurd q (by decide)) (fun _ => zp2_ifl (fun _ => zp2_ifr (fun _ => zp2_birp (t_ldn hI h hF hW hp hy) (fun a t w q => zp2_some q)) (fun q => absurd (by decide) q)) (fun q => absurd rfl q)))))))
  rcases zr_hd (c := 7) hz rfl with e | hz
  · subst e
    exact zp2_ifl (fun q => absurd q (by decide)) (fun _ => zp2_ifl (fun q => absurd q (by decide)) (fun _ => zp2_ifl (fun q => absurd q (by decide)) (fun _ => zp2_ifl (fun q => absurd q (by decide)) (fun _ => zp2_ifl (fun q => absurd q (by decide)) (fun _ => zp2_ifl (fun q => absurd q (by decide)) (fun _ => zp2_ifl (fun q => absurd q (by decide)) (fun _ => zp2_ifr (fun _ => zp2_birp (t_z7 hI h hF hW hy) (fun a t w q => zp2_some q)) (fun q => absurd (by decide) q))))))))
  exact zr_no9 hz (by decide)
theorem t_move_r1 (hI : zIoK I) (h : zTT I σ μ) (hF : zF σ μ) (hW : zWzz σ μ) (hp : zPlc σ μ) {op : Int32} (hx : op >>> ((6 : Int32) &&& 31) = 1) : zp2 (fX5_move σ op) (fX12_plain_r1 μ op) (zEnq I) := by
  have hy : zr 0 7 ((op >>> ((3 : Int32) &&& 31)) &&& 7) := z_r7 _
  have hz : zr 0 7 (op &&& 7) := z_r7 _
  unfold fX5_move fX12_plain_r1 fX12_plain_r1_92 fX12_plain_r1_115 fX12_plain_r1_110 fX12_plain_r1_116 fX5_move_50 fX5_move_56
  rw [hx]
  refine zp2_bvr (fun y' ey' => zp2_bvr (fun z ez => zp2_ifr (fun q => absurd q (by decide)) (fun _ => zp2_ifr (fun _ => ?_) (fun q => absurd rfl q))))
  by_cases q : op = 118
  · refine zp2_ifl (fun _ => zp2_ifr (fun _ => ?_) (fun r => absurd q r)) (fun r => absurd q r)
    refine zp2_ckl (zp2_bvl (fun s f => zp2_ckr (zp2_bvr (fun t g => zp2_ifr (fun _ => zp2_some ?_) (fun r => absurd q r)))))
    subst f
    subst g
    exact ⟨h.upd hI [26] (zQ.wi zQ.rf rfl) (zQ.wi zQ.rf rfl) rfl (zAl1 ⟨rfl, zrg_1 (by decide) (by decide) (show zr 0 1 (1 : Int32) from zr_c (by decide))⟩), hF, hW, rfl⟩
  · refine zp2_ifl (fun r => absurd r q) (fun _ => zp2_ifr (fun r => absurd r q) (fun _ => ?_))
    refine zp2_bvl (fun y ey => zp2_bvl (fun z2 ez2 => ?_))
    have e1 : y' = y := ey'.trans ey.symm
    have e2 : z2 = z := ez2.trans ez.symm
    subst e1
    subst e2
    rw [← ey] at hy
    rw [← ez] at hz
    refine zp2_bii (t_one h hp hz) (fun s v t v' q => ?_)
    obtain ⟨q1, q2, q3, rv⟩ := q
    have q1 : s = σ := q1
    have q2 : t = μ := q2
    have q3 : v' = v := q3
    subst q1
    subst q2
    subst q3
    refine zp2_buu (t_putOne hI h hp hy (z_m255 rv) rv) (fun s2 t2 q2 => ?_)
    obtain ⟨h2, qc, qm⟩ := q2
    have f2 : zF s2 t2 := hF.of (qc.1 36 1 rfl) (qm.1 3 1 rfl)
    have w2 : zWzz s2 t2 := hW.of (qc.1 36 20 rfl) (qm.1 3 20 rfl)
    exact zp2_ifr (fun r => absurd r q) (fun _ => zp2_if (fun _ => zp2_some ⟨h2, f2, w2, rfl⟩) (fun _ => zp2_if (fun _ => zp2_some ⟨h2, f2, w2, rfl⟩) (fun _ => zp2_some ⟨h2, f2, w2, rfl⟩)))
theorem t_dor_r1 (hI : zIoK I) (h : zTT I σ μ) (hF : zF σ μ) (hW : zWzz σ μ) (hp : zPlc σ μ) {op : Int32} (hx : op >>> ((6 : Int32) &&& 31) = 2) : zp2 (fX5_doWithRegister σ op) (fX12_plain_r1 μ op) (zEnq I) := by
  have hy : zr 0 7 ((op >>> ((3 : Int32) &&& 31)) &&& 7) := z_r7 _
  have hz : zr 0 7 (op &&& 7) := z_r7 _
  unfold fX5_doWithRegister fX12_plain_r1 fX12_plain_r1_139 fX5_doWithRegister_33
  rw [hx]
  refine zp2_bvr (fun y ey => zp2_bvr (fun z ez => zp2_ifr (fun q => absurd q (by decide)) (fun _ => zp2_ifr (fun q => absurd q (by decide)) (fun _ => zp2_ifr (fun _ => ?_) (fun q => absurd rfl q)))))
  rw [← ey, ← ez]
  rw [← ey] at hy
  rw [← ez] at hz
  refine zp2_bii (t_one h hp hz) (fun s v t v' q => ?_)
  obtain ⟨q1, q2, q3, rv⟩ := q
  have q1 : s = σ := q1
  have q2 : t = μ := q2
  have q3 : v' = v := q3
  subst q1
  subst q2
  subst q3
  refine zp2_buu (t_do hI h hF hy rv) (fun s2 t2 q2 => ?_)
  obtain ⟨h2, f2, qc, qm⟩ := q2
  have w2 : zWzz s2 t2 := hW.of (qc.1 36 20 rfl) (qm.1 3 20 rfl)
  exact zp2_if (fun _ => zp2_some ⟨h2, f2, w2, rfl⟩) (fun _ => zp2_some ⟨h2, f2, w2, rfl⟩)
end ZQ3
