section ZJN0
/-! THREE QUARTERS -/
theorem zp2_birp {α β : Type} {o : Option α} {p : Option (zSt × Int32)} {g : zSt → Int32 → Option β} {P : α → zSt × Int32 → Prop} {Q : α → β → Prop} (h : zp2 o p P) (k : ∀ a t w, P a (t, w) → zp2 (some a) (g t w) Q) : zp2 o (zbi p g) Q := by
  intro a b ea eb
  cases e : p with
  | none => rw [e] at eb; cases eb
  | some r =>
    rw [e] at eb
    exact k a r.1 r.2 (h a r ea e) a b rfl eb
theorem z_fin8 {x : Int32} (h : zr 0 7 x) : ∃ i : Fin 8, x = Int32.ofNat i.val := by
  obtain ⟨h0, h1⟩ := h
  obtain ⟨i, hi⟩ : ∃ i : Nat, x.toInt = i := ⟨x.toInt.toNat, by omega⟩
  exact ⟨⟨i, by omega⟩, z_ofN hi⟩
theorem v_par : ∀ i : Fin 8, ((Int32.ofNat i.val &&& 1 = 0 ∧ zrem (Int32.ofNat i.val) 2 = 0) ∨ (Int32.ofNat i.val &&& 1 = 1 ∧ zrem (Int32.ofNat i.val) 2 = 1)) ∧ (0 ≤ (Int32.ofNat i.val >>> ((1 : Int32) &&& 31)).toInt ∧ (Int32.ofNat i.val >>> ((1 : Int32) &&& 31)).toInt ≤ 3) := by decide +kernel
theorem z_par {y : Int32} (h : zr 0 7 y) : ((y &&& 1 = 0 ∧ zrem y 2 = 0) ∨ (y &&& 1 = 1 ∧ zrem y 2 = 1)) ∧ zr 0 3 (y >>> ((1 : Int32) &&& 31)) := by
  obtain ⟨i, e⟩ := z_fin8 h
  subst e
  exact v_par i
theorem z_r7 (x : Int32) : zr 0 7 (x &&& 7) := zr_andr (lo := 0) (hi := 7) (zr_c (lo := 7) (hi := 7) (by decide)) (by decide)
section ZQ3
variable {I : zSt → zSt → Prop} {σ μ : zSt}
theorem t_inc3 (hI : zIoK I) (h : zTT I σ μ) (hF : zF σ μ) (hW : zWzz σ μ) {p c v : Int32} : zp2 (fX5_firstQuarter_110 σ c v p) (fX12_zero_328 μ c v p) (zEnq I) := by
  unfold fX5_firstQuarter_110 fX12_zero_328
  refine zp2_buu (t_rpTo hI h rfl) (fun s2 t2 q2 => zp2_some ?_)
  obtain ⟨h2, qc2, qm2⟩ := q2
  exact ⟨h2, hF.of (qc2.1 36 1 rfl) (qm2.1 3 1 rfl), hW.of (qc2.1 36 20 rfl) (qm2.1 3 20 rfl), rfl⟩
theorem t_z1 (hI : zIoK I) (h : zTT I σ μ) (hF : zF σ μ) (hW : zWzz σ μ) {y : Int32} (hy : zr 0 7 y) : zp2 (if (y &&& 1) = 0 then zbi (fX5_loadPair σ (y >>> ((1 : Int32) &&& 31))) (fun σ7 v8 => fX5_firstQuarter_81 σ7 v8) else zbi (fX5_addPair σ (y >>> ((1 : Int32) &&& 31))) (fun σ5 v6 => fX5_firstQuarter_81 σ5 v6)) (fX12_zero μ y 1) (zEnq I) := by
  obtain ⟨par, hp⟩ := z_par hy
  unfold fX12_zero fX5_firstQuarter_81
  refine zp2_bvr (fun p ep => zp2_ifr (fun q => absurd q (by decide)) (fun _ => zp2_ifr (fun _ => zp2_ckr ?_) (fun q => absurd rfl q)))
  subst ep
  rcases par with ⟨e1, e2⟩ | ⟨e1, e2⟩
  · rw [e1, e2]
    exact zp2_ifl (fun _ => zp2_ifr (fun _ => zp2_bilp (t_ldrp hI h hF hW) (fun s v b q => zp2_some q)) (fun q => absurd rfl q)) (fun q => absurd rfl q)
  · rw [e1, e2]
    exact zp2_ifl (fun q => absurd q (by decide)) (fun _ => zp2_ifr (fun q => absurd q (by decide)) (fun _ => zp2_bilp (t_addhl hI h hF hp) (fun s v b q => zp2_some q)))
theorem t_z2 (hI : zIoK I) (h : zTT I σ μ) (hF : zF σ μ) {y : Int32} (hy : zr 0 7 y) : zp2 (fX5_far σ y) (fX12_zero μ y 2) (zEnq I) := by
  obtain ⟨par, hp⟩ := z_par hy
  have t := t_far hI h hF hy
  unfold fX12_zero fX12_zero_178 fX12_zero_306
  refine zp2_bvr (fun p ep => zp2_ifr (fun q => absurd q (by decide)) (fun _ => zp2_ifr (fun q => absurd q (by decide)) (fun _ => zp2_ifr (fun q => absurd q (by decide)) (fun _ => zp2_ifr (fun _ => zp2_ckr ?_) (fun q => absurd rfl q)))))
  subst ep
  rcases par with ⟨e1, e2⟩ | ⟨e1, e2⟩
  · rw [e2]
    rw [e1] at t
    exact zp2_ifr (fun q => absurd q (by decide)) (fun _ => zp2_birp t (fun a t w q => zp2_some q))
  · rw [e2]
    rw [e1] at t
    exact zp2_ifr (fun _ => zp2_birp t (fun a t w q => zp2_some q)) (fun q => absurd rfl q)
theorem t_z3 (hI : zIoK I) (h : zTT I σ μ) (hF : zF σ μ) (hW : zWzz σ μ) {y : Int32} (hy : zr 0 7 y) : zp2 (zbi (fX5_pair σ (y >>> ((1 : Int32) &&& 31))) (fun σ11 v12 => if (y &&& 1) = 0 then fX5_firstQuarter_110 σ11 1 v12 (y >>> ((1 : Int32) &&& 31)) else fX5_firstQuarter_110 σ11 (-1) v12 (y >>> ((1 : Int32) &&& 31)))) (fX12_zero μ y 3) (zEnq I) := by
  obtain ⟨par, hp⟩ := z_par hy
  unfold fX12_zero fX12_zero_178
  refine zp2_bvr (fun p ep => zp2_ifr (fun q => absurd q (by decide)) (fun _ => zp2_ifr (fun q => absurd q (by decide)) (fun _ => zp2_ifr (fun q => absurd q (by decide)) (fun _ => zp2_ifr (fun q => absurd q (by decide)) (fun _ => ?_)))))
  subst ep
  refine zp2_bii (t_rp h hp) (fun s1 b t1 b' q => ?_)
  obtain ⟨q1, q2, q3, rb⟩ := q
  have q1 : s1 = σ := q1
  have q2 : t1 = μ := q2
  have q3 : b' = b := q3
  subst q1
  subst q2
  subst q3
  refine zp2_ckr ?_
  rcases par with ⟨e1, e2⟩ | ⟨e1, e2⟩
  · rw [e1, e2]
    exact zp2_ifl (fun _ => zp2_ifr (fun _ => t_inc3 hI h hF hW) (fun q => absurd rfl q)) (fun q => absurd rfl q)
  · rw [e1, e2]
    exact zp2_ifl (fun q => absurd q (by decide)) (fun _ => zp2_ifr (fun q => absurd q (by decide)) (fun _ => t_inc3 hI h hF hW))
theorem t_z7 (hI : zIoK I) (h : zTT I σ μ) (hF : zF σ μ) (hW : zWzz σ μ) {y : Int32} (hy : zr 0 7 y) : zp2 (zbu (fX5_changeA σ y) (fun s => some (s, (4 : Int32)))) (fX12_singles μ y 7) (zEnq I) := by
  rcases zr_hd (c := 0) hy rfl with e | hy
  · subst e; exact t_acc0 hI h hF hW
  rcases zr_hd (c := 1) hy rfl with e | hy
  · subst e; exact t_acc1 hI h hF hW
  rcases zr_hd (c := 2) hy rfl with e | hy
  · subst e; exact t_acc2 hI h hF hW
  rcases zr_hd (c := 3) hy rfl with e | hy
  · subst e; exact t_acc3 hI h hF hW
  rcases zr_hd (c := 4) hy rfl with e | hy
  · subst e; exact t_acc4 hI h hF hW
  rcases zr_hd (c := 5) hy rfl with e | hy
  · subst e; exact t_acc5 hI h hF hW
  rcases zr_hd (c := 6) hy rfl with e | hy
  · subst e; exact t_acc6 hI h hF hW
  rcases zr_hd (c := 7) hy rfl with e | hy
  · subst e; exact t_acc7 hI h hF hW
  exact zr_no9 hy (by decide)
theorem t_first (hI : zIoK I) (h : zTT I σ μ) (hF : zF σ μ) (hW : zWzz σ μ) (hp : zPlc σ μ) {op : Int32} (hx : op >>> ((6 : Int32) &&& 31) = 0) : zp2 (fX5_firstQuarter σ op) (fX12_plain μ op) (zEnq I) := by
  have hy : zr 0 7 ((op >>> ((3 : Int32) &&& 31)) &&& 7) := z_r7 _
  have hz : zr 0 7 (op &&& 7) := z_r7 _
  unfold fX5_firstQuarter fX12_plain fX12_plain_64
  refine zp2_bvl (fun y ey => zp2_bvr (fun y' ey' => zp2_bvr (fun z ez => zp2_ifr (fun _ => ?_) (fun q => absurd hx q))))
  rw [← ey] at ey' hy
  subst ey'
  rw [← ez] at hz ⊢
  clear ez
  rcases zr_hd (c := 0) hz rfl with e | hz
  · subst e
    exact zp2_ifl (fun _ => zp2_ifr (fun q => absurd q (by decide)) (fun _ => zp2_bii (t_near hI h hF hW hy) (fun s v t w q => zp2_some q))) (fun q => absurd rfl q)
  rcases zr_hd (c := 1) hz rfl with e | hz
  · subst e
    exact zp2_ifl (fun q => absurd q (by decide)) (fun _ => zp2_ifl (fun _ => zp2_ifr (fun q => absurd q (by decide)) (fun _ => zp2_birp (t_z1 hI h hF hW hy) (fun a t w q => zp2_some q))) (fun q => absurd rfl q))
  rcases zr_hd (c := 2) hz rfl with e | hz
  · subst e
    exact zp2_ifl (fun q => absurd q (by decide)) (fun _ => zp2_ifl (fun q => absurd q (by decide)) (fun _ => zp2_ifl (fun _ => zp2_ifr (fun q => absurd q (by decide)) (fun _ => zp2_bii (t_z2 hI h hF hy) (fun s v t w q => zp2_some q))) (fun q => absurd rfl q)))
  rcases zr_hd (c := 3) hz rfl with e | hz
  · subst e
    exact zp2_ifl (fun q => absurd q (by decide)) (fun _ => zp2_ifl (fun q => absurd q (by decide)) (fun _ => zp2_ifl (fun q => absurd q (by decide)) (fun _ => zp2_ifl (fun _ => zp2_ifr (fun q => absurd q (by decide)) (fun _ => zp2_birp (t_z3 hI h hF hW hy) (fun a t w q => zp2_some q))) (fun q => absurd rfl q))))
  rcases zr_hd (c := 4) hz rfl with e | hz
  · subst e
    exact zp2_ifl (fun q => absurd q (by decide)) (fun _ => zp2_ifl (fun q => absurd q (by decide)) (fun _ => zp2_ifl (fun q => absurd q (by decide)) (fun _ => zp2_ifl (fun q => absurd q (by decide)) (fun _ => zp2_ifl (fun _ => zp2_ifr (fun _ => zp2_birp (t_inc hI h hF hW hp hy) (fun a t w q => zp2_some q)) (fun q => absurd (by decide) q)) (fun q => absurd rfl q)))))
  rcases zr_hd (c := 5) hz rfl with e | hz
  · subst e
    exact zp2_ifl (fun q => absurd q (by decide)) (fun _ => zp2_ifl (fun q => absurd q (by decide)) (fun _ => zp2_ifl (fun q => absurd q (by decide)) (fun _ => zp2_ifl (fun q => absurd q (by decide)) (fun _ => zp2_ifl (fun q => absurd q (by decide)) (fun _ => zp2_ifl (fun _ => zp2_ifr (fun _ => zp2_birp (t_dec hI h hF hW hp hy) (fun a t w q => zp2_some q)) (fun q => absurd (by decide) q)) (fun q => absurd rfl q))))))
  rcases zr_hd (c := 6) hz rfl with e | hz
  · subst e
    exact zp2_ifl (fun q => absurd q (by decide)) (fun _ => zp2_ifl (fun q => absurd q (by decide)) (fun _ => zp2_ifl (fun q => absurd q (by decide)) (fun _ => zp2_ifl (fun q => absurd q (by decide)) (fun _ => zp2_ifl (fun q => absurd q (by decide)) (fun _ => zp2_ifl (fun q => absurd q (by decide)) (fun _ => zp2_ifl (fun _ => zp2_ifr (fun _ => zp2_birp (t_ldn hI h hF hW hp hy) (fun a t w q => zp2_some q)) (fun q => absurd (by decide) q)) (fun q => absurd rfl q)))))))
  rcases zr_hd (c := 7) hz rfl with e | hz
  · subst e
    exact zp2_ifl (fun q => absurd q (by decide)) (fun _ => zp2_ifl (fun q => absurd q (by decide)) (fun _ => zp2_ifl (fun q => absurd q (by decide)) (fun _ => zp2_ifl (fun q => absurd q (by decide)) (fun _ => zp2_ifl (fun q => absurd q (by decide)) (fun _ => zp2_ifl (fun q => absurd q (by decide)) (fun _ => zp2_ifl (fun q => absurd q (by decide)) (fun _ => zp2_ifr (fun _ => zp2_birp (t_z7 hI h hF hW hy) (fun a t w q => zp2_some q)) (fun q => absurd (by decide) q))))))))
  exact zr_no9 hz (by decide)
theorem t_move (hI : zIoK I) (h : zTT I σ μ) (hF : zF σ μ) (hW : zWzz σ μ) (hp : zPlc σ μ) {op : Int32} (hx : op >>> ((6 : Int32) &&& 31) = 1) : zp2 (fX5_move σ op) (fX12_plain μ op) (zEnq I) := by
  have hy : zr 0 7 ((op >>> ((3 : Int32) &&& 31)) &&& 7) := z_r7 _
  have hz : zr 0 7 (op &&& 7) := z_r7 _
  unfold fX5_move fX12_plain fX12_plain_92 fX12_plain_115 fX12_plain_110 fX12_plain_116 fX5_move_50 fX5_move_56
  rw [hx]
  refine zp2_bvr (fun y' ey' => zp2_bvr (fun z ez => zp2_ifr (fun q => absurd q (by decide)) (fun _ => zp2_ifr (fun _ => ?_) (fun q => absurd rfl q))))
  by_cases q : op = 118
  · refine zp2_ifl (fun _ => zp2_ifr (fun _ => ?_) (fun r => absurd q r)) (fun r => absurd q r)
    refine zp2_ckl (zp2_bvl (fun s f => zp2_ckr (zp2_bvr (fun t g => zp2_ifr (fun _ => zp2_some ?_) (fun r => absurd q r)))))
    subst f
    subst g
    exact ⟨h.upd hI [26] (zQ.wi zQ.rf rfl) (zQ.wi zQ.rf rfl) rfl (zAl1 ⟨rfl, zrg_1 (by decide) (by decide) (show zr 0 1 (1 : Int32) from zr_c (by decide))⟩), hF, hW, rfl⟩
  · refine zp2_ifl (fun r => absurd r q) (fun _ => zp2_ifr (fun r => absurd r q) (fun _ => ?_))
    refine zp2_bvl (fun y ey => zp2_bvl (fun z2 ez2 => ?_))
    have e1 : y' = y := ey'.trans ey.symm
    have e2 : z2 = z := ez2.trans ez.symm
    subst e1
    subst e2
    rw [← ey] at hy
    rw [← ez] at hz
    refine zp2_bii (t_one h hp hz) (fun s v t v' q => ?_)
    obtain ⟨q1, q2, q3, rv⟩ := q
    have q1 : s = σ := q1
    have q2 : t = μ := q2
    have q3 : v' = v := q3
    subst q1
    subst q2
    subst q3
    refine zp2_buu (t_putOne hI h hp hy (z_m255 rv) rv) (fun s2 t2 q2 => ?_)
    obtain ⟨h2, qc, qm⟩ := q2
    have f2 : zF s2 t2 := hF.of (qc.1 36 1 rfl) (qm.1 3 1 rfl)
    have w2 : zWzz s2 t2 := hW.of (qc.1 36 20 rfl) (qm.1 3 20 rfl)
    exact zp2_ifr (fun r => absurd r q) (fun _ => zp2_if (fun _ => zp2_some ⟨h2, f2, w2, rfl⟩) (fun _ => zp2_if (fun _ => zp2_some ⟨h2, f2, w2, rfl⟩) (fun _ => zp2_some ⟨h2, f2, w2, rfl⟩)))
theorem t_dor (hI : zIoK I) (h : zTT I σ μ) (hF : zF σ μ) (hW : zWzz σ μ) (hp : zPlc σ μ) {op : Int32} (hx : op >>> ((6 : Int32) &&& 31) = 2) : zp2 (fX5_doWithRegister σ op) (fX12_plain μ op) (zEnq I) := by
  have hy : zr 0 7 ((op >>> ((3 : Int32) &&& 31)) &&& 7) := z_r7 _
  have hz : zr 0 7 (op &&& 7) := z_r7 _
  unfold fX5_doWithRegister fX12_plain fX12_plain_139 fX5_doWithRegister_33
  rw [hx]
  refine zp2_bvr (fun y ey => zp2_bvr (fun z ez => zp2_ifr (fun q => absurd q (by decide)) (fun _ => zp2_ifr (fun q => absurd q (by decide)) (fun _ => zp2_ifr (fun _ => ?_) (fun q => absurd rfl q)))))
  rw [← ey, ← ez]
  rw [← ey] at hy
  rw [← ez] at hz
  refine zp2_bii (t_one h hp hz) (fun s v t v' q => ?_)
  obtain ⟨q1, q2, q3, rv⟩ := q
  have q1 : s = σ := q1
  have q2 : t = μ := q2
  have q3 : v' = v := q3
  subst q1
  subst q2
  subst q3
  refine zp2_buu (t_do hI h hF hy rv) (fun s2 t2 q2 => ?_)
  obtain ⟨h2, f2, qc, qm⟩ := q2
  have w2 : zWzz s2 t2 := hW.of (qc.1 36 20 rfl) (qm.1 3 20 rfl)
  exact zp2_if (fun _ => zp2_some ⟨h2, f2, w2, rfl⟩) (fun _ => zp2_some ⟨h2, f2, w2, rfl⟩)
theorem t_first_r1 (hI : zIoK I) (h : zTT I σ μ) (hF : zF σ μ) (hW : zWzz σ μ) (hp : zPlc σ μ) {op : Int32} (hx : op >>> ((6 : Int32) &&& 31) = 0) : zp2 (fX5_firstQuarter σ op) (fX12_plain_r1 μ op) (zEnq I) := by
  have hy : zr 0 7 ((op >>> ((3 : Int32) &&& 31)) &&& 7) := z_r7 _
  have hz : zr 0 7 (op &&& 7) := z_r7 _
  unfold fX5_firstQuarter fX12_plain_r1 fX12_plain_r1_64
  refine zp2_bvl (fun y ey => zp2_bvr (fun y' ey' => zp2_bvr (fun z ez => zp2_ifr (fun _ => ?_) (fun q => absurd hx q))))
  rw [← ey] at ey' hy
  subst ey'
  rw [← ez] at hz ⊢
  clear ez
  rcases zr_hd (c := 0) hz rfl with e | hz
  · subst e
    exact zp2_ifl (fun _ => zp2_ifr (fun q => absurd q (by decide)) (fun _ => zp2_bii (t_near hI h hF hW hy) (fun s v t w q => zp2_some q))) (fun q => absurd rfl q)
  rcases zr_hd (c := 1) hz rfl with e | hz
  · subst e
    exact zp2_ifl (fun q => absurd q (by decide)) (fun _ => zp2_ifl (fun _ => zp2_ifr (fun q => absurd q (by decide)) (fun _ => zp2_birp (t_z1 hI h hF hW hy) (fun a t w q => zp2_some q))) (fun q => absurd rfl q))
  rcases zr_hd (c := 2) hz rfl with e | hz
  · subst e
    exact zp2_ifl (fun q => absurd q (by decide)) (fun _ => zp2_ifl (fun q => absurd q (by decide)) (fun _ => zp2_ifl (fun _ => zp2_ifr (fun q => absurd q (by decide)) (fun _ => zp2_bii (t_z2 hI h hF hy) (fun s v t w q => zp2_some q))) (fun q => absurd rfl q)))
  rcases zr_hd (c := 3) hz rfl with e | hz
  · subst e
    exact zp2_ifl (fun q => absurd q (by decide)) (fun _ => zp2_ifl (fun q => absurd q (by decide)) (fun _ => zp2_ifl (fun q => absurd q (by decide)) (fun _ => zp2_ifl (fun _ => zp2_ifr (fun q => absurd q (by decide)) (fun _ => zp2_birp (t_z3 hI h hF hW hy) (fun a t w q => zp2_some q))) (fun q => absurd rfl q))))
  rcases zr_hd (c := 4) hz rfl with e | hz
  · subst e
    exact zp2_ifl (fun q => absurd q (by decide)) (fun _ => zp2_ifl (fun q => absurd q (by decide)) (fun _ => zp2_ifl (fun q => absurd q (by decide)) (fun _ => zp2_ifl (fun q => absurd q (by decide)) (fun _ => zp2_ifl (fun _ => zp2_ifr (fun _ => zp2_birp (t_inc hI h hF hW hp hy) (fun a t w q => zp2_some q)) (fun q => absurd (by decide) q)) (fun q => absurd rfl q)))))
  rcases zr_hd (c := 5) hz rfl with e | hz
  · subst e
    exact zp2_ifl (fun q => absurd q (by decide)) (fun _ => zp2_ifl (fun q => absurd q (by decide)) (fun _ => zp2_ifl (fun q => absurd q (by decide)) (fun _ => zp2_ifl (fun q => absurd q (by decide)) (fun _ => zp2_ifl (fun q => absurd q (by decide)) (fun _ => zp2_ifl (fun _ => zp2_ifr (fun _ => zp2_birp (t_dec hI h hF hW hp hy) (fun a t w q => zp2_some q)) (fun q => absurd (by decide) q)) (fun q => absurd rfl q))))))
  rcases zr_hd (c := 6) hz rfl with e | hz
  · subst e
    exact zp2_ifl (fun q => absurd q (by decide)) (fun _ => zp2_ifl (fun q => absurd q (by decide)) (fun _ => zp2_ifl (fun q => absurd q (by decide)) (fun _ => zp2_ifl (fun q => absurd q (by decide)) (fun _ => zp2_ifl (fun q => absurd q (by decide)) (fun _ => zp2_ifl (fun q => absurd q (by decide)) (fun _ => zp2_ifl (fun _ => zp2_ifr (fun _ => zp2_birp (t_ldn hI h hF hW hp hy) (fun a t w q => zp2_some q)) (fun q => absurd (by decide) q)) (fun q => absurd rfl q)))))))
  rcases zr_hd (c := 7) hz rfl with e | hz
  · subst e
    exact zp2_ifl (fun q => absurd q (by decide)) (fun _ => zp2_ifl (fun q => absurd q (by decide)) (fun _ => zp2_ifl (fun q => absurd q (by decide)) (fun _ => zp2_ifl (fun q => absurd q (by decide)) (fun _ => zp2_ifl (fun q => absurd q (by decide)) (fun _ => zp2_ifl (fun q => absurd q (by decide)) (fun _ => zp2_ifl (fun q => absurd q (by decide)) (fun _ => zp2_ifr (fun _ => zp2_birp (t_z7 hI h hF hW hy) (fun a t w q => zp2_some q)) (fun q => absurd (by decide) q))))))))
  exact zr_no9 hz (by decide)
theorem t_move_r1 (hI : zIoK I) (h : zTT I σ μ) (hF : zF σ μ) (hW : zWzz σ μ) (hp : zPlc σ μ) {op : Int32} (hx : op >>> ((6 : Int32) &&& 31) = 1) : zp2 (fX5_move σ op) (fX12_plain_r1 μ op) (zEnq I) := by
  have hy : zr 0 7 ((op >>> ((3 : Int32) &&& 31)) &&& 7) := z_r7 _
  have hz : zr 0 7 (op &&& 7) := z_r7 _
  unfold fX5_move fX12_plain_r1 fX12_plain_r1_92 fX12_plain_r1_115 fX12_plain_r1_110 fX12_plain_r1_116 fX5_move_50 fX5_move_56
  rw [hx]
  refine zp2_bvr (fun y' ey' => zp2_bvr (fun z ez => zp2_ifr (fun q => absurd q (by decide)) (fun _ => zp2_ifr (fun _ => ?_) (fun q => absurd rfl q))))
  by_cases q : op = 118
  · refine zp2_ifl (fun _ => zp2_ifr (fun _ => ?_) (fun r => absurd q r)) (fun r => absurd q r)
    refine zp2_ckl (zp2_bvl (fun s f => zp2_ckr (zp2_bvr (fun t g => zp2_ifr (fun _ => zp2_some ?_) (fun r => absurd q r)))))
    subst f
    subst g
    exact ⟨h.upd hI [26] (zQ.wi zQ.rf rfl) (zQ.wi zQ.rf rfl) rfl (zAl1 ⟨rfl, zrg_1 (by decide) (by decide) (show zr 0 1 (1 : Int32) from zr_c (by decide))⟩), hF, hW, rfl⟩
  · refine zp2_ifl (fun r => absurd r q) (fun _ => zp2_ifr (fun r => absurd r q) (fun _ => ?_))
    refine zp2_bvl (fun y ey => zp2_bvl (fun z2 ez2 => ?_))
    have e1 : y' = y := ey'.trans ey.symm
    have e2 : z2 = z := ez2.trans ez.symm
    subst e1
    subst e2
    rw [← ey] at hy
    rw [← ez] at hz
    refine zp2_bii (t_one h hp hz) (fun s v t v' q => ?_)
    obtain ⟨q1, q2, q3, rv⟩ := q
    have q1 : s = σ := q1
    have q2 : t = μ := q2
    have q3 : v' = v := q3
    subst q1
    subst q2
    subst q3
    refine zp2_buu (t_putOne hI h hp hy (z_m255 rv) rv) (fun s2 t2 q2 => ?_)
    obtain ⟨h2, qc, qm⟩ := q2
    have f2 : zF s2 t2 := hF.of (qc.1 36 1 rfl) (qm.1 3 1 rfl)
    have w2 : zWzz s2 t2 := hW.of (qc.1 36 20 rfl) (qm.1 3 20 rfl)
    exact zp2_ifr (fun r => absurd r q) (fun _ => zp2_if (fun _ => zp2_some ⟨h2, f2, w2, rfl⟩) (fun _ => zp2_if (fun _ => zp2_some ⟨h2, f2, w2, rfl⟩) (fun _ => zp2_some ⟨h2, f2, w2, rfl⟩)))
theorem t_dor_r1 (hI : zIoK I) (h : zTT I σ μ) (hF : zF σ μ) (hW : zWzz σ μ) (hp : zPlc σ μ) {op : Int32} (hx : op >>> ((6 : Int32) &&& 31) = 2) : zp2 (fX5_doWithRegister σ op) (fX12_plain_r1 μ op) (zEnq I) := by
  have hy : zr 0 7 ((op >>> ((3 : Int32) &&& 31)) &&& 7) := z_r7 _
  have hz : zr 0 7 (op &&& 7) := z_r7 _
  unfold fX5_doWithRegister fX12_plain_r1 fX12_plain_r1_139 fX5_doWithRegister_33
  rw [hx]
  refine zp2_bvr (fun y ey => zp2_bvr (fun z ez => zp2_ifr (fun q => absurd q (by decide)) (fun _ => zp2_ifr (fun q => absurd q (by decide)) (fun _ => zp2_ifr (fun _ => ?_) (fun q => absurd rfl q)))))
  rw [← ey, ← ez]
  rw [← ey] at hy
  rw [← ez] at hz
  refine zp2_bii (t_one h hp hz) (fun s v t v' q => ?_)
  obtain ⟨q1, q2, q3, rv⟩ := q
  have q1 : s = σ := q1
  have q2 : t = μ := q2
  have q3 : v' = v := q3
  subst q1
  subst q2
  subst q3
  refine zp2_buu (t_do hI h hF hy rv) (fun s2 t2 q2 => ?_)
  obtain ⟨h2, f2, qc, qm⟩ := q2
  have w2 : zWzz s2 t2 := hW.of (qc.1 36 20 rfl) (qm.1 3 20 rfl)
  exact zp2_if (fun _ => zp2_some ⟨h2, f2, w2, rfl⟩) (fun _ => zp2_some ⟨h2, f2, w2, rfl⟩)
end ZQ3
end ZJN0
section ZJN1
/-! THE LAST QUARTER -/
/-- the ports leave the processor alone -/
noncomputable def zPkk (σ s μ t : zSt) : Prop := (∀ j, s.1 36 j = σ.1 36 j) ∧ (∀ j : Nat, j ≤ 28 → t.1 3 j = μ.1 3 j) ∧ s.1 7 5 = σ.1 7 5 ∧ t.1 0 32 = μ.1 0 32
noncomputable def zPorts (I : zSt → zSt → Prop) : Prop := (∀ σ μ p v, zTT I σ μ → zr 0 255 p → zr 0 255 v → zp2 (fX4_write σ p v) (fX12_portTo μ p v) (fun r r' => zTT I r r' ∧ zPkk σ r μ r')) ∧ (∀ σ μ p, zTT I σ μ → zr 0 255 p → zp2 (fX4_read σ p) (fX12_port μ p) (fun r r' => zTT I r.1 r'.1 ∧ r'.2 = r.2 ∧ zr 0 255 r.2 ∧ zPkk σ r.1 μ r'.1))
theorem v_255 : ∀ i, i < 32 → ((255 : Int32).toBitVec.getLsbD i = decide (i < 8)) := by decide
theorem z_lo8 {h l : Int32} (hl : zr 0 255 l) : ((h <<< ((8 : Int32) &&& 31)) ||| l) &&& 255 = l := by
  have e : l = l &&& 255 := (z_m255 hl).symm
  refine Int32.toBitVec_inj.1 (BitVec.eq_of_getLsbD_eq (fun i hi => ?_))
  rw [Int32.toBitVec_and, BitVec.getLsbD_and, Int32.toBitVec_or, BitVec.getLsbD_or, v_255 i hi]
  have e2 : (h <<< ((8 : Int32) &&& 31)).toBitVec = h.toBitVec <<< (((8 : Int32) &&& 31).toBitVec.smod 32).toNat := rfl
  rw [e2, show (((8 : Int32) &&& 31).toBitVec.smod 32).toNat = 8 from rfl, BitVec.getLsbD_shiftLeft]
  by_cases q : i < 8
  · rw [decide_eq_true q, Bool.and_true, Bool.not_true, Bool.and_false, Bool.false_and, Bool.false_or]
  · rw [decide_eq_false q, Bool.and_false]
    conv => rhs; rw [e, Int32.toBitVec_and, BitVec.getLsbD_and, v_255 i hi, decide_eq_false q, Bool.and_false]
theorem z_hi8b {h l : Int32} (hh : zr 0 255 h) (hl : zr 0 255 l) : (((h <<< ((8 : Int32) &&& 31)) ||| l) >>> ((8 : Int32) &&& 31)) &&& 255 = h := by
  have e : h = h &&& 255 := (z_m255 hh).symm
  have e3 : l = l &&& 255 := (z_m255 hl).symm
  refine Int32.toBitVec_inj.1 (BitVec.eq_of_getLsbD_eq (fun i hi => ?_))
  rw [Int32.toBitVec_and, BitVec.getLsbD_and, v_255 i hi]
  by_cases q : i < 8
  · rw [decide_eq_true q, Bool.and_true]
    have z : zbt i (((h <<< ((8 : Int32) &&& 31)) ||| l) >>> ((8 : Int32) &&& 31)) = zbt (8 + i) ((h <<< ((8 : Int32) &&& 31)) ||| l) := zbt_sar (n := 8) rfl (by omega)
    unfold zbt at z
    rw [z, Int32.toBitVec_or, BitVec.getLsbD_or]
    have e2 : (h <<< ((8 : Int32) &&& 31)).toBitVec = h.toBitVec <<< (((8 : Int32) &&& 31).toBitVec.smod 32).toNat := rfl
    rw [e2, show (((8 : Int32) &&& 31).toBitVec.smod 32).toNat = 8 from rfl, BitVec.getLsbD_shiftLeft, e3, Int32.toBitVec_and, BitVec.getLsbD_and, v_255 (8 + i) (by omega), decide_eq_false (show ¬ 8 + i < 8 by omega), Bool.and_false, Bool.or_false, decide_eq_true (show 8 + i < 32 by omega), Bool.true_and, Bool.not_false, Bool.true_and, show 8 + i - 8 = i by omega]
  · rw [decide_eq_false q, Bool.and_false]
    conv => rhs; rw [e, Int32.toBitVec_and, BitVec.getLsbD_and, v_255 i hi, decide_eq_false q, Bool.and_false]
section ZQ4
variable {I : zSt → zSt → Prop} {σ μ : zSt}
theorem zTT.pz (hI : zIoK I) (h : zTT I σ μ) {v : Int32} (hv : zr 0 1 v) : zTT I (zsi σ 36 28 v) (zsi μ 3 27 v) := by
  refine ⟨h.1.keep (zQ.wi zQ.rf rfl) (zQ.wi zQ.rf rfl), ⟨fun j hj hn hw => ?_, ?_, ?_, fun j hj => ?_⟩, h.2.2.1.imp (fun x => x) (fun x => x), hI _ _ _ _ h.2.2.2 (zQ.wi zQ.rf rfl) (zQ.wi zQ.rf rfl)⟩
  · rw [zsi_nj (by omega), zsi_nj (by omega)]; exact h.2.1.1 j hj hn hw
  · rw [zsi_nj (by decide), zsi_nj (by decide)]; exact h.2.1.2.1
  · rw [zsi_ej, zsi_ej]
  · by_cases q : j = 28
    · rw [q, zsi_ej]; exact zrg_1 (by decide) (by decide) hv
    · rw [zsi_nj q]; exact h.2.1.2.2.2 j hj
theorem zPkk.f {s t : zSt} (h : zPkk σ s μ t) (hF : zF σ μ) : zF s t := hF.of (h.1 1) (h.2.1 1 (by decide))
theorem zPkk.w {s t : zSt} (h : zPkk σ s μ t) (hW : zWzz σ μ) : zWzz s t := hW.of (h.1 20) (h.2.1 20 (by decide))
theorem p_goC {x : Int32} : zpc (fX5_goTo σ x) (fun r => r = zsi (zsi σ 36 19 x) 36 20 x) := by
  unfold fX5_goTo
  exact zpc_ck (zpc_bv (fun s es => zpc_ck (zpc_bv (fun s2 e2 => zpc_some (by rw [e2, es]; rfl)))))
theorem zEnq.go (hI : zIoK I) (h : zTT I σ μ) (hF : zF σ μ) {v b : Int32} (hv : zr 0 65535 v) : zEnq I (zsi (zsi σ 36 19 v) 36 20 v, b) (zsi (zsi μ 3 19 v) 3 20 v, b) := ⟨h.upd hI [19, 20] (zQ.wi (zQ.wi zQ.rf rfl) rfl) (zQ.wi (zQ.wi zQ.rf rfl) rfl) rfl (zAl2 ⟨rfl, zrg_w (by decide) (by decide) hv⟩ ⟨rfl, zrg_w (by decide) (by decide) hv⟩), hF, rfl, rfl⟩
theorem t_ret (hI : zIoK I) (h : zTT I σ μ) (hF : zF σ μ) {b : Int32} : zp2 (zbi (fX5_pop σ ) (fun σ7 v8 => zbu (fX5_goTo σ7 v8) (fun σ9 => some (σ9, b)))) (zbi (fX12_pop μ ) (fun σ54 v55 => zck (zin 19 1048) (zbv (zsi σ54 3 ((19 : Int32).toNatClampNeg) v55) (fun σ56 => zck (zin 19 1048) (zck (zin 20 1048) (zbv (zsi σ56 3 ((20 : Int32).toNatClampNeg) (zgi σ56 3 (19 : Int32).toNatClampNeg)) (fun σ57 => some (σ57, b)))))))) (zEnq I) := by
  refine zp2_bii (t_pop hI h) (fun s v t v' q => ?_)
  obtain ⟨h1, e1, rv, qc, qm⟩ := q
  have e1 : v' = v := e1
  subst e1
  refine zp2_bul p_goC (fun s2 e2 => zp2_ckr (zp2_bvr (fun t1 g1 => zp2_ckr (zp2_ckr (zp2_bvr (fun t2 g2 => zp2_some ?_))))))
  have g2 : t2 = zsi (zsi t 3 19 v') 3 20 v' := by rw [g2, g1]; rfl
  rw [e2, g2]
  exact zEnq.go hI h1 (hF.of (qc.1 36 1 rfl) (qm.1 3 1 rfl)) rv
theorem t_call (hI : zIoK I) (h : zTT I σ μ) (hF : zF σ μ) {x : Int32} (hx : zr 0 65535 x) : zp2 (zbu (fX5_push σ (zgi σ 36 (19 : Int32).toNatClampNeg)) (fun σ3 => zbu (fX5_goTo σ3 x) (fun σ4 => some σ4))) (fX12_call μ x) (fun r r' => zTT I r r' ∧ zF r r' ∧ zWzz r r' ∧ zQ [15, 17, 19] [(36, 18, 20)] [] [] σ r ∧ zQ [5, 6] [(3, 18, 20), (3, 29, 32)] [] [] μ r') := by
  unfold fX12_call
  refine zp2_ckr (zp2_buu (t_push hI h (h.eq (j := 19) (by decide)) (h.w (j := 19) (by decide) (by decide))) (fun s t q => ?_))
  obtain ⟨h1, qc, qm⟩ := q
  refine zp2_bul p_goC (fun s2 e2 => zp2_ckr (zp2_bvr (fun t1 g1 => zp2_ckr (zp2_bvr (fun t2 g2 => zp2_some ?_)))))
  have g2 : t2 = zsi (zsi t 3 19 x) 3 20 x := by rw [g2, g1]; rfl
  have z := zEnq.go hI h1 (hF.of (qc.1 36 1 rfl) (qm.1 3 1 rfl)) hx (b := 0)
  rw [e2, g2]
  exact ⟨z.1, z.2.1, z.2.2.1, (qc.mono rfl rfl).tr (zQ.wi (zQ.wi zQ.rf rfl) rfl), (qm.mono rfl rfl).tr (zQ.wi (zQ.wi zQ.rf rfl) rfl)⟩
theorem v_8y : ∀ i : Fin 8, 0 ≤ (8 * Int32.ofNat i.val).toInt ∧ (8 * Int32.ofNat i.val).toInt ≤ 65535 := by decide
theorem z_8y {y : Int32} (h : zr 0 7 y) : zr 0 65535 (8 * y) := by
  obtain ⟨i, e⟩ := z_fin8 h
  subst e
  exact v_8y i
/-! exx -/
theorem e_exC (n : Nat) : fX5_leave_41 (n + 7) σ 2 = zbu (fX5_changeWithOther σ 2) (fun a => zbu (fX5_changeWithOther a 3) (fun b => zbu (fX5_changeWithOther b 4) (fun c => zbu (fX5_changeWithOther c 5) (fun d => zbu (fX5_changeWithOther d 6) (fun e => zbu (fX5_changeWithOther e 7) (fun f => some (f, 4))))))) := rfl
theorem e_exM (n : Nat) : fX12_three_128 (n + 7) μ 1 2 = zbu (fX12_change μ 2 10) (fun a => zbu (fX12_change a 3 11) (fun b => zbu (fX12_change b 4 12) (fun c => zbu (fX12_change c 5 13) (fun d => zbu (fX12_change d 6 14) (fun e => zbu (fX12_change e 7 15) (fun f => some (f, 4))))))) := rfl
theorem t_exx (hI : zIoK I) (h : zTT I σ μ) (hF : zF σ μ) (hW : zWzz σ μ) : zp2 (fX5_leave_41 zfuel σ 2) (fX12_three_128 zfuel μ 1 2) (zEnq I) := by
  have eC : fX5_leave_41 zfuel σ 2 = _ := e_exC (σ := σ) 1999993
  have eM : fX12_three_128 zfuel μ 1 2 = _ := e_exM (μ := μ) 1999993
  rw [eC, eM]
  refine zp2_buu (t_cw2 hI h) (fun s t q => ?_)
  obtain ⟨h1, qc, qm⟩ := q
  have hF := hF.of (qc.1 36 1 rfl) (qm.1 3 1 rfl)
  have hW := hW.of (qc.1 36 20 rfl) (qm.1 3 20 rfl)
  have h := h1
  clear h1 qc qm
  refine zp2_buu (t_cw3 hI h) (fun s t q => ?_)
  obtain ⟨h1, qc, qm⟩ := q
  have hF := hF.of (qc.1 36 1 rfl) (qm.1 3 1 rfl)
  have hW := hW.of (qc.1 36 20 rfl) (qm.1 3 20 rfl)
  have h := h1
  clear h1 qc qm
  refine zp2_buu (t_cw4 hI h) (fun s t q => ?_)
  obtain ⟨h1, qc, qm⟩ := q
  have hF := hF.of (qc.1 36 1 rfl) (qm.1 3 1 rfl)
  have hW := hW.of (qc.1 36 20 rfl) (qm.1 3 20 rfl)
  have h := h1
  clear h1 qc qm
  refine zp2_buu (t_cw5 hI h) (fun s t q => ?_)
  obtain ⟨h1, qc, qm⟩ := q
  have hF := hF.of (qc.1 36 1 rfl) (qm.1 3 1 rfl)
  have hW := hW.of (qc.1 36 20 rfl) (qm.1 3 20 rfl)
  have h := h1
  clear h1 qc qm
  refine zp2_buu (t_cw6 hI h) (fun s t q => ?_)
  obtain ⟨h1, qc, qm⟩ := q
  have hF := hF.of (qc.1 36 1 rfl) (qm.1 3 1 rfl)
  have hW := hW.of (qc.1 36 20 rfl) (qm.1 3 20 rfl)
  have h := h1
  clear h1 qc qm
  refine zp2_buu (t_cw7 hI h) (fun s t q => ?_)
  obtain ⟨h1, qc, qm⟩ := q
  have hF := hF.of (qc.1 36 1 rfl) (qm.1 3 1 rfl)
  have hW := hW.of (qc.1 36 20 rfl) (qm.1 3 20 rfl)
  have h := h1
  clear h1 qc qm
  exact zp2_some ⟨h, hF, hW, rfl⟩
theorem t_leave (hI : zIoK I) (h : zTT I σ μ) (hF : zF σ μ) (hW : zWzz σ μ) {y p : Int32} (hp : zr 0 3 p) : zp2 (fX5_leave σ p) (fX12_three_88 μ y 1 p) (zEnq I) := by
  unfold fX5_leave fX12_three_88
  refine zp2_ifr (fun _ => ?_) (fun q => absurd rfl q)
  rcases zr_hd (c := 0) hp rfl with e | hp
  · subst e
    exact zp2_ifl (fun _ => zp2_ifr (fun _ => t_ret hI h hF) (fun q => absurd rfl q)) (fun q => absurd rfl q)
  rcases zr_hd (c := 1) hp rfl with e | hp
  · subst e
    exact zp2_ifl (fun q => absurd q (by decide)) (fun _ => zp2_ifl (fun _ => zp2_ifr (fun q => absurd q (by decide)) (fun _ => t_exx hI h hF hW)) (fun q => absurd rfl q))
  rcases zr_hd (c := 2) hp rfl with e | hp
  · subst e
    refine zp2_ifl (fun q => absurd q (by decide)) (fun _ => zp2_ifl (fun q => absurd q (by decide)) (fun _ => zp2_ifl (fun _ => zp2_ifr (fun q => absurd q (by decide)) (fun _ => ?_)) (fun q => absurd rfl q)))
    have eM : fX12_three_128 zfuel μ 2 2 = zbi (fX12_hl μ ) (fun σ4 v5 => zck (zin 19 1048) (zbv (zsi σ4 3 ((19 : Int32).toNatClampNeg) v5) (fun σ6 => some (σ6, 4)))) := rfl
    rw [eM]
    refine zp2_sm (t_hl h) (fun v rv => zp2_ckl (zp2_bvl (fun s f => zp2_ckr (zp2_bvr (fun t g => zp2_some ?_)))))
    subst f
    subst g
    exact ⟨h.upd hI [19] (zQ.wi zQ.rf rfl) (zQ.wi zQ.rf rfl) rfl (zAl1 ⟨rfl, zrg_w (by decide) (by decide) rv⟩), hF, hW, rfl⟩
  rcases zr_hd (c := 3) hp rfl with e | hp
  · subst e
    refine zp2_ifl (fun q => absurd q (by decide)) (fun _ => zp2_ifl (fun q => absurd q (by decide)) (fun _ => zp2_ifl (fun q => absurd q (by decide)) (fun _ => zp2_ifr (fun q => absurd q (by decide)) (fun _ => ?_))))
    have eM : fX12_three_128 zfuel μ 3 2 = zbi (fX12_hl μ ) (fun σ4 v5 => zck (zin 18 1048) (zbv (zsi σ4 3 ((18 : Int32).toNatClampNeg) v5) (fun σ6 => some (σ6, 6)))) := rfl
    rw [eM]
    refine zp2_sm (t_hl h) (fun v rv => zp2_ckl (zp2_bvl (fun s f => zp2_ckr (zp2_bvr (fun t g => zp2_some ?_)))))
    subst f
    subst g
    exact ⟨h.upd hI [18] (zQ.wi zQ.rf rfl) (zQ.wi zQ.rf rfl) rfl (zAl1 ⟨rfl, zrg_w (by decide) (by decide) rv⟩), hF, hW, rfl⟩
  exact zr_no9 hp (by decide)
theorem t_popp (hI : zIoK I) (h : zTT I σ μ) (hF : zF σ μ) (hW : zWzz σ μ) {p : Int32} : zp2 (fX5_popPair σ p) (zbi (fX12_pop μ ) (fun σ48 v49 => if p = 3 then zbu (fX12_pairTo σ48 0 v49) (fun σ51 => fX12_three_85 σ51) else zbu (fX12_rpTo σ48 p v49) (fun σ50 => fX12_three_85 σ50))) (zEnq I) := by
  unfold fX5_popPair fX5_popPair_25 fX12_three_85
  refine zp2_bii (t_pop hI h) (fun s v t v' q => ?_)
  obtain ⟨h1, e1, rv, qc, qm⟩ := q
  refine zp2_if (fun _ => zp2_buu (t_pairTo0 hI h1 e1) (fun s2 t2 q => zp2_some ?_)) (fun _ => zp2_buu (t_rpTo hI h1 e1) (fun s2 t2 q => zp2_some ?_))
  · obtain ⟨h2, f2, qc2, qm2⟩ := q
    exact ⟨h2, f2, hW.of ((qc2.1 36 20 rfl).trans (qc.1 36 20 rfl)) ((qm2.1 3 20 rfl).trans (qm.1 3 20 rfl)), rfl⟩
  · obtain ⟨h2, qc2, qm2⟩ := q
    exact ⟨h2, hF.of ((qc2.1 36 1 rfl).trans (qc.1 36 1 rfl)) ((qm2.1 3 1 rfl).trans (qm.1 3 1 rfl)), hW.of ((qc2.1 36 20 rfl).trans (qc.1 36 20 rfl)) ((qm2.1 3 20 rfl).trans (qm.1 3 20 rfl)), rfl⟩
/-- a word is fetched into WZ -/
theorem t_wzw (hI : zIoK I) (h : zTT I σ μ) (hF : zF σ μ) {α β : Type} {Q : α → β → Prop} {f : Int32 → zSt → Option α} {g : Int32 → zSt → Option β} (k : ∀ v s t, zr 0 65535 v → zTT I s t → zF s t → s.1 36 20 = v → t.1 3 20 = v → s.1 36 1 = σ.1 36 1 → zp2 (f v s) (g v t) Q) : zp2 (zbi (fX5_fetchWord σ ) (fun σ1 v2 => zck (zin 20 29) (zbv (zsi σ1 36 ((20 : Int32).toNatClampNeg) v2) (f v2)))) (zbi (fX12_nextWord μ ) (fun σ1 v2 => zck (zin 20 1048) (zbv (zsi σ1 3 ((20 : Int32).toNatClampNeg) v2) (g v2)))) Q := by
  refine zp2_bii (t_word hI h) (fun s v t v' q => ?_)
  obtain ⟨h1, e1, rv, qc, qm⟩ := q
  have e1 : v' = v := e1
  subst e1
  refine zp2_ckl (zp2_bvl (fun s2 f2 => zp2_ckr (zp2_bvr (fun t2 g2 => ?_))))
  have z := zEnq.wz hI h1 (hF.of (qc.1 36 1 rfl) (qm.1 3 1 rfl)) (v := v') (w := v') rfl rv (b := 0)
  subst f2
  subst g2
  exact k v' _ _ rv z.1 z.2.1 rfl rfl (qc.1 36 1 rfl)
theorem t_callnn (hI : zIoK I) {v : Int32} (h : zTT I σ μ) (hF : zF σ μ) (rv : zr 0 65535 v) (w1 : σ.1 36 20 = v) (w2 : μ.1 3 20 = v) : zp2 (zck (zin 19 29) (zbu (fX5_push σ (zgi σ 36 (19 : Int32).toNatClampNeg)) (fun σ4 => zck (zin 19 29) (zbv (zsi σ4 36 ((19 : Int32).toNatClampNeg) v) (fun σ5 => some (σ5, (17 : Int32))))))) (zck (zin 19 1048) (zbu (fX12_push μ (zgi μ 3 (19 : Int32).toNatClampNeg)) (fun σ12 => zck (zin 20 1048) (zck (zin 19 1048) (zbv (zsi σ12 3 ((19 : Int32).toNatClampNeg) (zgi σ12 3 (20 : Int32).toNatClampNeg)) (fun σ13 => some (σ13, (17 : Int32)))))))) (zEnq I) := by
  refine zp2_ckl (zp2_ckr (zp2_buu (t_push hI h (h.eq (j := 19) (by decide)) (h.w (j := 19) (by decide) (by decide))) (fun s t q => ?_)))
  obtain ⟨h1, qc, qm⟩ := q
  refine zp2_ckl (zp2_bvl (fun s2 f2 => zp2_ckr (zp2_ckr (zp2_bvr (fun t2 g2 => zp2_some ?_)))))
  have e : zgi t 3 (20 : Int32).toNatClampNeg = v := (qm.1 3 20 rfl).trans w2
  rw [e] at g2
  subst f2
  subst g2
  refine ⟨h1.upd hI [19] (zQ.wi zQ.rf rfl) (zQ.wi zQ.rf rfl) rfl (zAl1 ⟨rfl, zrg_w (by decide) (by decide) rv⟩), hF.of (qc.1 36 1 rfl) (qm.1 3 1 rfl), ?_, rfl⟩
  show t.1 3 20 = s.1 36 20
  rw [qm.1 3 20 rfl, qc.1 36 20 rfl, w1, w2]
theorem t_jpcc (hI : zIoK I) (h : zTT I σ μ) (hF : zF σ μ) {y : Int32} (hy : zr 0 7 y) : zp2 (zbi (fX5_fetchWord σ ) (fun σ14 v15 => zck (zin 20 29) (zbv (zsi σ14 36 ((20 : Int32).toNatClampNeg) v15) (fun σ16 => zbi (fX5_holds σ16 y) (fun σ17 v18 => if v18 = 0 then fX5_lastQuarter_130 σ17 else zck (zin 20 29) (zck (zin 19 29) (zbv (zsi σ17 36 ((19 : Int32).toNatClampNeg) (zgi σ17 36 (20 : Int32).toNatClampNeg)) (fun σ19 => fX5_lastQuarter_130 σ19)))))))) (fX12_three_88 μ y 2 (y >>> ((1 : Int32) &&& 31))) (zEnq I) := by
  unfold fX12_three_88 fX5_lastQuarter_130 fX12_three_239
  refine zp2_ifr (fun q => absurd q (by decide)) (fun _ => zp2_ifr (fun _ => ?_) (fun q => absurd rfl q))
  refine t_wzw hI h hF (fun v s t rv h1 f1 w1 w2 _ => ?_)
  have wz : zWzz s t := w2.trans w1.symm
  refine zp2_sm (t_cc f1 (h1.b (j := 1) (by decide)) hy) (fun b rb => zp2_if (fun _ => zp2_some ⟨h1, f1, wz, rfl⟩) (fun _ => ?_))
  refine zp2_ckl (zp2_ckl (zp2_bvl (fun s2 f2 => zp2_ckr (zp2_ckr (zp2_bvr (fun t2 g2 => zp2_some ?_))))))
  rw [show zgi s 36 (20 : Int32).toNatClampNeg = v from w1] at f2
  rw [show zgi t 3 (20 : Int32).toNatClampNeg = v from w2] at g2
  subst f2
  subst g2
  exact ⟨h1.upd hI [19] (zQ.wi zQ.rf rfl) (zQ.wi zQ.rf rfl) rfl (zAl1 ⟨rfl, zrg_w (by decide) (by decide) rv⟩), f1, wz, rfl⟩
theorem p_hold (hf : zr 0 255 (σ.1 36 1)) {y : Int32} (hy : zr 0 7 y) : zpc (fX5_holds σ y) (fun r => r.1 = σ ∧ (r.2 = 0 ∨ r.2 = 1)) := by
  unfold fX5_holds fX5_holds_24 fX5_holds_36 fX5_holds_44
  have k : ∀ v : Int32, (v = 0 ∨ v = 1) → zpc (zck (zbo v) (some (σ, v))) (fun r => r.1 = σ ∧ (r.2 = 0 ∨ r.2 = 1)) := fun v hv => zpc_ck (zpc_some ⟨rfl, hv⟩)
  exact zpc_ck (zpc_ck (zpc_if (fun _ => zpc_if (fun _ => zpc_if (fun _ => k 1 (Or.inr rfl)) (fun _ => k 0 (Or.inl rfl))) (fun _ => zpc_if (fun _ => k 1 (Or.inr rfl)) (fun _ => k 0 (Or.inl rfl)))) (fun _ => zpc_if (fun _ => zpc_if (fun _ => k 1 (Or.inr rfl)) (fun _ => k 0 (Or.inl rfl))) (fun _ => zpc_if (fun _ => k 1 (Or.inr rfl)) (fun _ => k 0 (Or.inl rfl))))))
theorem t_callcc (hI : zIoK I) (h : zTT I σ μ) (hF : zF σ μ) {y : Int32} (hy : zr 0 7 y) : zp2 (zbi (fX5_holds σ y) (fun σ20 v21 => zbi (fX5_callIf σ20 v21) (fun σ22 v23 => some (σ22, v23)))) (zbi (fX12_nextWord μ ) (fun σ22 v23 => zck (zin 20 1048) (zbv (zsi σ22 3 ((20 : Int32).toNatClampNeg) v23) (fun σ24 => zbi (fX12_cc σ24 y) (fun σ25 v26 => if v26 = 0 then some (σ25, (10 : Int32)) else zck (zin 19 1048) (zbu (fX12_push σ25 (zgi σ25 3 (19 : Int32).toNatClampNeg)) (fun σ27 => zck (zin 20 1048) (zck (zin 19 1048) (zbv (zsi σ27 3 ((19 : Int32).toNatClampNeg) (zgi σ27 3 (20 : Int32).toNatClampNeg)) (fun σ28 => some (σ28, (17 : Int32)))))))))))) (zEnq I) := by
  refine zp2_bil (P := fun r => fX5_holds σ y = some r) (fun r e => e) (fun s0 c eC => ?_)
  have es : s0 = σ := by
    have d := t_cc hF (h.b (j := 1) (by decide)) hy
    cases m : fX12_cc μ y with
    | none => exact (p_hold (h.b (j := 1) (by decide)) hy _ eC).1
    | some r => exact (d _ _ eC m).1
  subst es
  unfold fX5_callIf
  refine zp2_bilp (P := zEnq I) ?_ (fun s v b q => zp2_some q)
  refine t_wzw hI h hF (fun v s t rv h1 f1 w1 w2 ef => ?_)
  have wz : zWzz s t := w2.trans w1.symm
  refine zp2_bir (P := fun r => fX12_cc t y = some r) (fun r e => e) (fun t0 c' eM => ?_)
  have fx : zF s0 t := by
    unfold zF
    rw [← ef]
    exact f1
  obtain ⟨_, k2, k3, _⟩ := t_cc fx (h.b (j := 1) (by decide)) hy _ _ eC eM
  have k2 : t0 = t := k2
  have k3 : c' = c := k3
  subst k2
  subst k3
  exact zp2_if (fun _ => zp2_some ⟨h1, f1, wz, rfl⟩) (fun _ => t_callnn hI h1 f1 rv w1 w2)
/-- DI and EI -/
theorem t_ei (hI : zIoK I) (h : zTT I σ μ) (hF : zF σ μ) (hW : zWzz σ μ) (h28 : σ.1 36 28 = 0) {y : Int32} (hy : zr 6 7 y) : zp2 (fX5_exchange_211 σ y) (zck (zin 23 1048) (zbv (zsi μ 3 ((23 : Int32).toNatClampNeg) (y - 6)) (fun σ34 => zck (zin 24 1048) (zbv (zsi σ34 3 ((24 : Int32).toNatClampNeg) (y - 6)) (fun σ35 => if y = 7 then zck (zin 27 1048) (zbv (zsi σ35 3 ((27 : Int32).toNatClampNeg) 1) (fun σ36 => fX12_three_502 σ36)) else fX12_three_502 σ35))))) (zEnq I) := by
  unfold fX5_exchange_211 fX12_three_502
  refine zp2_ckl (zp2_bvl (fun s1 f1 => zp2_ckl (zp2_bvl (fun s2 f2 => zp2_ckl (zp2_bvl (fun s3 f3 => zp2_ckr (zp2_bvr (fun t1 g1 => zp2_ckr (zp2_bvr (fun t2 g2 => ?_))))))))))
  have z : ∀ v : Int32, zr 0 1 v → zTT I (zsi (zsi σ 36 23 v) 36 24 v) (zsi (zsi μ 3 23 v) 3 24 v) := fun v hv => h.upd hI [23, 24] (zQ.wi (zQ.wi zQ.rf rfl) rfl) (zQ.wi (zQ.wi zQ.rf rfl) rfl) rfl (zAl2 ⟨rfl, zrg_1 (by decide) (by decide) hv⟩ ⟨rfl, zrg_1 (by decide) (by decide) hv⟩)
  rcases zr_hd (c := 6) hy rfl with e | hy
  · subst e
    refine zp2_ifr (fun q => absurd q (by decide)) (fun _ => zp2_some ?_)
    have e3 : s3 = s2 := by
      rw [f3]
      have e : s2.1 36 28 = 0 := by rw [f2, f1]; exact h28
      have e4 : zsi s2 36 28 (s2.1 36 28) = s2 := zsi_own
      rw [e] at e4
      exact e4
    subst e3
    rw [f2, f1, g2, g1]
    exact ⟨z 0 (zr_c (by decide)), hF, hW, rfl⟩
  rcases zr_hd (c := 7) hy rfl with e | hy
  · subst e
    refine zp2_ifr (fun _ => zp2_ckr (zp2_bvr (fun t3 g3 => zp2_some ?_))) (fun q => absurd rfl q)
    rw [f3, f2, f1, g3, g2, g1]
    exact ⟨(z 1 (zr_c (by decide))).pz hI (zr_c (by decide)), hF, hW, rfl⟩
  exact zr_no9 hy (by decide)
theorem t_exch (hI : zIoK I) (hPo : zPorts I) (h : zTT I σ μ) (hF : zF σ μ) (hW : zWzz σ μ) (h28 : σ.1 36 28 = 0) {y : Int32} (hy : zr 0 7 y) (h1 : ¬ y = 1) : zp2 (fX5_exchange σ y) (fX12_three_88 μ y 3 (y >>> ((1 : Int32) &&& 31))) (zEnq I) := by
  unfold fX5_exchange fX12_three_88
  refine zp2_ifr (fun q => absurd q (by decide)) (fun _ => zp2_ifr (fun q => absurd q (by decide)) (fun _ => ?_))
  rcases zr_hd (c := 0) hy rfl with e | hy
  · subst e
    refine zp2_ifl (fun _ => zp2_ifr (fun _ => zp2_bii (t_word hI h) (fun s v t v' q => ?_)) (fun q => absurd rfl q)) (fun q => absurd rfl q)
    obtain ⟨h1, e1, rv, qc, qm⟩ := q
    have e1 : v' = v := e1
    subst e1
    refine zp2_bul p_goC (fun s2 e2 => zp2_ckr (zp2_bvr (fun t1 g1 => zp2_ckr (zp2_ckr (zp2_bvr (fun t2 g2 => zp2_some ?_))))))
    have g2 : t2 = zsi (zsi t 3 19 v') 3 20 v' := by rw [g2, g1, zsi_comm (by decide)]; rfl
    rw [e2, g2]
    exact zEnq.go hI h1 (hF.of (qc.1 36 1 rfl) (qm.1 3 1 rfl)) rv
  rcases zr_hd (c := 1) hy rfl with e | hy
  · exact absurd e h1
  rcases zr_hd (c := 2) hy rfl with e | hy
  · subst e
    refine zp2_ifl (fun q => absurd q (by decide)) (fun _ => zp2_ifl (fun q => absurd q (by decide)) (fun _ => zp2_ifl (fun _ => zp2_ifr (fun q => absurd q (by decide)) (fun _ => zp2_ifr (fun q => absurd q (by decide)) (fun _ => zp2_ifr (fun _ => ?_) (fun q => absurd rfl q)))) (fun q => absurd rfl q)))
    refine zp2_bii (t_next hI h) (fun s v t v' q => ?_)
    obtain ⟨h1, e1, rv, qc, qm⟩ := q
    have e1 : v' = v := e1
    subst e1
    refine zp2_ckl (zp2_ckr ?_)
    rw [show zgi t 3 (0 : Int32).toNatClampNeg = zgi s 36 (0 : Int32).toNatClampNeg from h1.eq (j := 0) (by decide)]
    refine zp2_buu (hPo.1 _ _ _ _ h1 rv (h1.b (j := 0) (by decide))) (fun s2 t2 q => ?_)
    obtain ⟨h2, k2⟩ := q
    refine zp2_ckl (zp2_ckl (zp2_bvl (fun s3 f3 => zp2_ckr (zp2_ckr (zp2_bvr (fun t3 g3 => zp2_some ?_))))))
    rw [f3, g3]
    exact zEnq.wz hI h2 (k2.f (hF.of (qc.1 36 1 rfl) (qm.1 3 1 rfl))) (by rw [show zgi t2 3 (0 : Int32).toNatClampNeg = zgi s2 36 (0 : Int32).toNatClampNeg from h2.eq (j := 0) (by decide)]) (z_awz (h2.b (j := 0) (by decide)))
  rcases zr_hd (c := 3) hy rfl with e | hy
  · subst e
    refine zp2_ifl (fun q => absurd q (by decide)) (fun _ => zp2_ifl (fun q => absurd q (by decide)) (fun _ => zp2_ifl (fun q => absurd q (by decide)) (fun _ => zp2_ifl (fun _ => zp2_ifr (fun q => absurd q (by decide)) (fun _ => zp2_ifr (fun q => absurd q (by decide)) (fun _ => zp2_ifr (fun q => absurd q (by decide)) (fun _ => zp2_ifr (fun _ => ?_) (fun q => absurd rfl q))))) (fun q => absurd rfl q))))
    refine zp2_bii (t_next hI h) (fun s v t v' q => ?_)
    obtain ⟨h1, e1, rv, qc, qm⟩ := q
    have e1 : v' = v := e1
    subst e1
    refine zp2_ckl (zp2_ckr ?_)
    rw [show zgi t 3 (0 : Int32).toNatClampNeg = zgi s 36 (0 : Int32).toNatClampNeg from h1.eq (j := 0) (by decide)]
    refine zp2_ckl (zp2_bvl (fun s2 f2 => zp2_ckr (zp2_bvr (fun t2 g2 => ?_))))
    have z := zEnq.wz hI h1 (hF.of (qc.1 36 1 rfl) (qm.1 3 1 rfl)) (v := ((((zgi s 36 (0 : Int32).toNatClampNeg) <<< ((8 : Int32) &&& 31)) ||| v') + 1) &&& 65535) rfl (z_r16 _) (b := 0)
    have f2 : s2 = zsi s 36 20 (((((zgi s 36 (0 : Int32).toNatClampNeg) <<< ((8 : Int32) &&& 31)) ||| v') + 1) &&& 65535) := f2
    have g2 : t2 = zsi t 3 20 (((((zgi s 36 (0 : Int32).toNatClampNeg) <<< ((8 : Int32) &&& 31)) ||| v') + 1) &&& 65535) := g2
    have z1 : zTT I s2 t2 := by rw [f2, g2]; exact z.1
    have z2 : zF s2 t2 := by rw [f2, g2]; exact z.2.1
    have z3 : zWzz s2 t2 := by rw [f2, g2]; exact z.2.2.1
    refine zp2_bii (hPo.2 _ _ _ z1 rv) (fun s3 w t3 w' q => ?_)
    obtain ⟨h3, e3, rw3, k3⟩ := q
    have e3 : w' = w := e3
    subst e3
    refine zp2_ckl (zp2_bvl (fun s4 f4 => zp2_ckr (zp2_bvr (fun t4 g4 => zp2_some ?_))))
    subst f4
    subst g4
    exact ⟨h3.upd hI [0] (zQ.wi zQ.rf rfl) (zQ.wi zQ.rf rfl) rfl (zAl1 ⟨rfl, zrg_b (Or.inl (by decide)) rw3⟩), k3.f z2, k3.w z3, rfl⟩
  rcases zr_hd (c := 4) hy rfl with e | hy
  · subst e
    refine zp2_ifl (fun q => absurd q (by decide)) (fun _ => zp2_ifl (fun q => absurd q (by decide)) (fun _ => zp2_ifl (fun q => absurd q (by decide)) (fun _ => zp2_ifl (fun q => absurd q (by decide)) (fun _ => zp2_ifl (fun _ => zp2_ifr (fun q => absurd q (by decide)) (fun _ => zp2_ifr (fun q => absurd q (by decide)) (fun _ => zp2_ifr (fun q => absurd q (by decide)) (fun _ => zp2_ifr (fun q => absurd q (by decide)) (fun _ => zp2_ifr (fun _ => ?_) (fun q => absurd rfl q)))))) (fun q => absurd rfl q)))))
    have e18 : zgi μ 3 (18 : Int32).toNatClampNeg = zgi σ 36 (18 : Int32).toNatClampNeg := h.eq (j := 18) (by decide)
    refine zp2_ckl (zp2_ckr ?_)
    rw [e18]
    refine zp2_sm (t_rword h.1 rfl) (fun v rv => zp2_ckl (zp2_ckr (zp2_sm (t_hl h) (fun w rw1 => ?_))))
    refine zp2_buu (t_wword h.1 e18 rfl rw1) (fun s3 t3 q => ?_)
    obtain ⟨hm, qc3, qm3⟩ := q
    have h3 := h.mem hI hm qc3 qm3
    refine zp2_buu (t_hlTo hI h3 rfl) (fun s4 t4 q => ?_)
    obtain ⟨h4, qc4, qm4⟩ := q
    refine zp2_ckl (zp2_bvl (fun s5 f5 => zp2_ckr (zp2_bvr (fun t5 g5 => zp2_some ?_))))
    rw [f5, g5]
    exact zEnq.wz hI h4 (hF.of ((qc4.1 36 1 rfl).trans (qc3.1 36 1 rfl)) ((qm4.1 3 1 rfl).trans (qm3.1 3 1 rfl))) rfl rv
  rcases zr_hd (c := 5) hy rfl with e | hy
  · subst e
    refine zp2_ifl (fun q => absurd q (by decide)) (fun _ => zp2_ifl (fun q => absurd q (by decide)) (fun _ => zp2_ifl (fun q => absurd q (by decide)) (fun _ => zp2_ifl (fun q => absurd q (by decide)) (fun _ => zp2_ifl (fun q => absurd q (by decide)) (fun _ => zp2_ifl (fun _ => zp2_ifr (fun q => absurd q (by decide)) (fun _ => zp2_ifr (fun q => absurd q (by decide)) (fun _ => zp2_ifr (fun q => absurd q (by decide)) (fun _ => zp2_ifr (fun q => absurd q (by decide)) (fun _ => zp2_ifr (fun q => absurd q (by decide)) (fun _ => zp2_ifr (fun _ => ?_) (fun q => absurd rfl q))))))) (fun q => absurd rfl q))))))
    have b4 : zr 0 255 (σ.1 36 4) := h.b (by decide)
    have b5 : zr 0 255 (σ.1 36 5) := h.b (by decide)
    have b6 : zr 0 255 (σ.1 36 6) := h.b (by decide)
    have b7 : zr 0 255 (σ.1 36 7) := h.b (by decide)
    have cC : zpc (zbi (fX5_pairAt σ 4) (fun σ24 v25 => zbi (fX5_pairAt σ24 6) (fun σ26 v27 => zbu (fX5_putPairAt σ26 4 v27) (fun σ28 => zbu (fX5_putPairAt σ28 6 v25) (fun σ29 => some (σ29, (4 : Int32))))))) (fun r => r = (zsi (zsi (zsi (zsi σ 36 4 (σ.1 36 6)) 36 5 (σ.1 36 7)) 36 6 (σ.1 36 4)) 36 7 (σ.1 36 5), 4)) := by
      unfold fX5_pairAt fX5_putPairAt
      refine zpc_bi (P := fun r => r = (σ, (σ.1 36 4 <<< ((8 : Int32) &&& 31)) ||| σ.1 36 5)) (zpc_ck (zpc_ck (zpc_some rfl))) (fun s v e => ?_)
      cases e
      refine zpc_bi (P := fun r => r = (σ, (σ.1 36 6 <<< ((8 : Int32) &&& 31)) ||| σ.1 36 7)) (zpc_ck (zpc_ck (zpc_some rfl))) (fun s v e => ?_)
      cases e
      refine zpc_bu (P := fun r => r = zsi (zsi σ 36 4 (σ.1 36 6)) 36 5 (σ.1 36 7)) (zpc_ck (zpc_bv (fun s es => zpc_ck (zpc_bv (fun s2 e2 => zpc_some ?_))))) (fun s3 e3 => zpc_bu (P := fun r => r = zsi (zsi s3 36 6 (σ.1 36 4)) 36 7 (σ.1 36 5)) (zpc_ck (zpc_bv (fun s es => zpc_ck (zpc_bv (fun s2 e2 => zpc_some ?_))))) (fun s4 e4 => zpc_some ?_))
      · rw [e2, es, z_hi8b b6 b7, z_lo8 b7]; rfl
      · rw [e2, es, z_hi8b b4 b5, z_lo8 b5]; rfl
      · rw [e4, e3]
    have cM : zpc (zbu (fX12_change μ 4 6) (fun σ32 => zbu (fX12_change σ32 5 7) (fun σ33 => some (σ33, (4 : Int32))))) (fun r => r = (zsi (zsi (zsi (zsi μ 3 4 (μ.1 3 6)) 3 6 (μ.1 3 4)) 3 5 (μ.1 3 7)) 3 7 (μ.1 3 5), 4)) := by
      unfold fX12_change
      refine zpc_bu (P := fun r => r = zsi (zsi μ 3 4 (μ.1 3 6)) 3 6 (μ.1 3 4)) (zpc_ck (zpc_bv (fun v ev => zpc_ck (zpc_ck (zpc_bv (fun s es => zpc_ck (zpc_bv (fun s2 e2 => zpc_some ?_)))))))) (fun s3 e3 => zpc_bu (P := fun r => r = zsi (zsi s3 3 5 (s3.1 3 7)) 3 7 (s3.1 3 5)) (zpc_ck (zpc_bv (fun v ev => zpc_ck (zpc_ck (zpc_bv (fun s es => zpc_ck (zpc_bv (fun s2 e2 => zpc_some ?_)))))))) (fun s4 e4 => zpc_some ?_))
      · rw [e2, es, ev]; rfl
      · rw [e2, es, ev]; rfl
      · rw [e4, e3]; rfl
    intro r r' er er'
    rw [cC r er, cM r' er']
    refine ⟨h.upd hI [4, 5, 6, 7] (zQ.wi (zQ.wi (zQ.wi (zQ.wi zQ.rf rfl) rfl) rfl) rfl) (zQ.wi (zQ.wi (zQ.wi (zQ.wi zQ.rf rfl) rfl) rfl) rfl) rfl (zAl4 ⟨h.eq (j := 6) (by decide), zrg_b (Or.inl (by decide)) b6⟩ ⟨h.eq (j := 7) (by decide), zrg_b (Or.inl (by decide)) b7⟩ ⟨h.eq (j := 4) (by decide), zrg_b (Or.inl (by decide)) b4⟩ ⟨h.eq (j := 5) (by decide), zrg_b (Or.inl (by decide)) b5⟩), hF, hW, rfl⟩
  have n : ∀ k : Int32, k.toInt < 6 → ¬ y = k := fun k hk e => by rw [e] at hy; have := hy.1; omega
  refine zp2_ifl (fun q => absurd q (n 0 (by decide))) (fun _ => zp2_ifl (fun q => absurd q (n 1 (by decide))) (fun _ => zp2_ifl (fun q => absurd q (n 2 (by decide))) (fun _ => zp2_ifl (fun q => absurd q (n 3 (by decide))) (fun _ => zp2_ifl (fun q => absurd q (n 4 (by decide))) (fun _ => zp2_ifl (fun q => absurd q (n 5 (by decide))) (fun _ => ?_))))))
  refine zp2_ifr (fun q => absurd q (n 0 (by decide))) (fun _ => zp2_ifr (fun q => absurd q (n 1 (by decide))) (fun _ => zp2_ifr (fun q => absurd q (n 2 (by decide))) (fun _ => zp2_ifr (fun q => absurd q (n 3 (by decide))) (fun _ => zp2_ifr (fun q => absurd q (n 4 (by decide))) (fun _ => zp2_ifr (fun q => absurd q (n 5 (by decide))) (fun _ => ?_))))))
  exact t_ei hI h hF hW h28 hy
end ZQ4
end ZJN1
section ZJN2
/-! THE LAST QUARTER, WHOLE -/
section ZQ5
variable {I : zSt → zSt → Prop} {σ μ : zSt}
theorem t_callk (hI : zIoK I) (h : zTT I σ μ) (hF : zF σ μ) {x : Int32} (hx : zr 0 65535 x) {α β : Type} {Q : α → β → Prop} {f : zSt → Option α} {g : zSt → Option β} (k : ∀ s t, zTT I s t → zF s t → zWzz s t → zQ [15, 17, 19] [(36, 18, 20)] [] [] σ s → zQ [5, 6] [(3, 18, 20), (3, 29, 32)] [] [] μ t → zp2 (f s) (g t) Q) : zp2 (zbu (fX5_push σ (zgi σ 36 (19 : Int32).toNatClampNeg)) (fun σ3 => zbu (fX5_goTo σ3 x) f)) (zbu (fX12_call μ x) g) Q := by
  have e : zbu (fX5_push σ (zgi σ 36 (19 : Int32).toNatClampNeg)) (fun σ3 => zbu (fX5_goTo σ3 x) f) = zbu (zbu (fX5_push σ (zgi σ 36 (19 : Int32).toNatClampNeg)) (fun σ3 => zbu (fX5_goTo σ3 x) (fun σ4 => some σ4))) f := by
    cases fX5_push σ (zgi σ 36 (19 : Int32).toNatClampNeg) with
    | none => rfl
    | some s =>
      show zbu (fX5_goTo s x) f = zbu (zbu (fX5_goTo s x) (fun σ4 => some σ4)) f
      cases fX5_goTo s x with
      | none => rfl
      | some t => rfl
  rw [e]
  exact zp2_buu (t_call hI h hF hx) (fun s t q => k s t q.1 q.2.1 q.2.2.1 q.2.2.2.1 q.2.2.2.2)
theorem t_l0 (hI : zIoK I) (h : zTT I σ μ) (hF : zF σ μ) (hW : zWzz σ μ) {y : Int32} (hy : zr 0 7 y) : zp2 (zbi (fX5_holds σ y) (fun σ5 v6 => if v6 = 0 then some (σ5, (5 : Int32)) else zbi (fX5_pop σ5 ) (fun σ7 v8 => zbu (fX5_goTo σ7 v8) (fun σ9 => some (σ9, 11))))) (fX12_three μ y 0) (zEnq I) := by
  unfold fX12_three
  refine zp2_bvr (fun p _ => zp2_ifr (fun _ => zp2_sm (t_cc hF (h.b (j := 1) (by decide)) hy) (fun b rb => zp2_if (fun _ => zp2_some ⟨h, hF, hW, rfl⟩) (fun _ => t_ret hI h hF))) (fun q => absurd rfl q))
theorem t_l1 (hI : zIoK I) (h : zTT I σ μ) (hF : zF σ μ) (hW : zWzz σ μ) {y : Int32} (hy : zr 0 7 y) : zp2 (if (y &&& 1) = 0 then zbi (fX5_popPair σ (y >>> ((1 : Int32) &&& 31))) (fun σ12 v13 => fX5_lastQuarter_96 σ12 v13) else zbi (fX5_leave σ (y >>> ((1 : Int32) &&& 31))) (fun σ10 v11 => fX5_lastQuarter_96 σ10 v11)) (fX12_three μ y 1) (zEnq I) := by
  obtain ⟨par, hp⟩ := z_par hy
  unfold fX12_three fX5_lastQuarter_96
  refine zp2_bvr (fun p ep => zp2_ifr (fun q => absurd q (by decide)) (fun _ => zp2_ifr (fun _ => zp2_ckr ?_) (fun q => absurd rfl q)))
  subst ep
  rcases par with ⟨e1, e2⟩ | ⟨e1, e2⟩
  · rw [e1, e2]
    exact zp2_ifl (fun _ => zp2_ifr (fun _ => zp2_bilp (t_popp hI h hF hW) (fun s v b q => zp2_some q)) (fun q => absurd rfl q)) (fun q => absurd rfl q)
  · rw [e1, e2]
    exact zp2_ifl (fun q => absurd q (by decide)) (fun _ => zp2_ifr (fun q => absurd q (by decide)) (fun _ => zp2_bilp (t_leave hI h hF hW hp) (fun s v b q => zp2_some q)))
theorem e_th2 {y z : Int32} (h0 : ¬ z = 0) (h1 : ¬ z = 1) : fX12_three μ y z = fX12_three_88 μ y z (y >>> ((1 : Int32) &&& 31)) := by
  unfold fX12_three
  show (if z = 0 then _ else (if z = 1 then _ else fX12_three_88 μ y z (y >>> ((1 : Int32) &&& 31)))) = _
  rw [if_neg h0, if_neg h1]
theorem t_l4 (hI : zIoK I) (h : zTT I σ μ) (hF : zF σ μ) {y : Int32} (hy : zr 0 7 y) : zp2 (zbi (fX5_holds σ y) (fun σ20 v21 => zbi (fX5_callIf σ20 v21) (fun σ22 v23 => some (σ22, v23)))) (fX12_more3 μ y 4) (zEnq I) := by
  unfold fX12_more3
  exact zp2_bvr (fun p _ => zp2_ifr (fun _ => t_callcc hI h hF hy) (fun q => absurd rfl q))
theorem t_l5 (hI : zIoK I) (h : zTT I σ μ) (hF : zF σ μ) (hW : zWzz σ μ) {y : Int32} (hn : y = 0 ∨ y = 1 ∨ y = 2 ∨ y = 4 ∨ y = 6) : zp2 (if (y &&& 1) = 1 then zbi (fX5_callIf σ 1) (fun σ28 v29 => some (σ28, v29)) else if y = 6 then zbi (fX5_pairAt σ 0) (fun σ26 v27 => fX5_lastQuarter_178 σ26 v27) else zbi (fX5_pair σ (y >>> ((1 : Int32) &&& 31))) (fun σ24 v25 => fX5_lastQuarter_178 σ24 v25)) (fX12_more3 μ y 5) (zEnq I) := by
  have pu : ∀ v : Int32, zr 0 65535 v → zp2 (fX5_lastQuarter_178 σ v) (fX12_more3_119 μ v) (zEnq I) := fun v rv => by
    unfold fX5_lastQuarter_178 fX12_more3_119
    refine zp2_buu (t_push hI h rfl rv) (fun s t q => zp2_some ?_)
    obtain ⟨h1, qc, qm⟩ := q
    exact ⟨h1, hF.of (qc.1 36 1 rfl) (qm.1 3 1 rfl), hW.of (qc.1 36 20 rfl) (qm.1 3 20 rfl), rfl⟩
  unfold fX12_more3
  refine zp2_bvr (fun p ep => zp2_ifr (fun q => absurd q (by decide)) (fun _ => zp2_ifr (fun q => absurd q (by decide)) (fun _ => zp2_ifr (fun q => absurd q (by decide)) (fun _ => zp2_ckr ?_))))
  subst ep
  rcases hn with e | e | e | e | e
  · subst e
    refine zp2_ifl (fun q => absurd q (by decide)) (fun _ => zp2_ifl (fun q => absurd q (by decide)) (fun _ => zp2_ifr (fun _ => zp2_ifr (fun q => absurd q (by decide)) (fun _ => ?_)) (fun q => absurd (by decide) q)))
    exact zp2_sm (t_rp h (zr_c (by decide))) (fun v rv => pu v rv)
  · subst e
    refine zp2_ifl (fun _ => zp2_ifr (fun q => absurd q (by decide)) (fun _ => zp2_ifr (fun _ => ?_) (fun q => absurd (by decide) q))) (fun q => absurd (by decide) q)
    unfold fX5_callIf
    refine zp2_bilp (P := zEnq I) ?_ (fun s v b q => zp2_some q)
    refine t_wzw hI h hF (fun v s t rv h1 f1 w1 w2 ef => ?_)
    exact zp2_ifl (fun q => absurd q (by decide)) (fun _ => t_callnn hI h1 f1 rv w1 w2)
  · subst e
    refine zp2_ifl (fun q => absurd q (by decide)) (fun _ => zp2_ifl (fun q => absurd q (by decide)) (fun _ => zp2_ifr (fun _ => zp2_ifr (fun q => absurd q (by decide)) (fun _ => ?_)) (fun q => absurd (by decide) q)))
    exact zp2_sm (t_rp h (zr_c (by decide))) (fun v rv => pu v rv)
  · subst e
    refine zp2_ifl (fun q => absurd q (by decide)) (fun _ => zp2_ifl (fun q => absurd q (by decide)) (fun _ => zp2_ifr (fun _ => zp2_ifr (fun q => absurd q (by decide)) (fun _ => ?_)) (fun q => absurd (by decide) q)))
    exact zp2_sm (t_rp h (zr_c (by decide))) (fun v rv => pu v rv)
  · subst e
    refine zp2_ifl (fun q => absurd q (by decide)) (fun _ => zp2_ifl (fun _ => zp2_ifr (fun _ => zp2_ifr (fun _ => ?_) (fun q => absurd (by decide) q)) (fun q => absurd (by decide) q)) (fun q => absurd rfl q))
    exact zp2_sm (t_pair0 h hF) (fun v rv => pu v rv)
theorem t_l6 (hI : zIoK I) (h : zTT I σ μ) (hF : zF σ μ) (hW : zWzz σ μ) {y : Int32} (hy : zr 0 7 y) : zp2 (zbi (fX5_fetch σ ) (fun σ30 v31 => zbu (fX5_doWith σ30 y v31) (fun σ32 => some (σ32, (7 : Int32))))) (fX12_more3 μ y 6) (zEnq I) := by
  unfold fX12_more3
  refine zp2_bvr (fun p _ => zp2_ifr (fun q => absurd q (by decide)) (fun _ => zp2_ifr (fun _ => zp2_bii (t_next hI h) (fun s v t v' q => ?_)) (fun q => absurd rfl q)))
  obtain ⟨h1, e1, rv, qc, qm⟩ := q
  have e1 : v' = v := e1
  subst e1
  refine zp2_buu (t_do hI h1 (hF.of (qc.1 36 1 rfl) (qm.1 3 1 rfl)) hy rv) (fun s2 t2 q2 => zp2_some ?_)
  obtain ⟨h2, f2, qc2, qm2⟩ := q2
  exact ⟨h2, f2, hW.of ((qc2.1 36 20 rfl).trans (qc.1 36 20 rfl)) ((qm2.1 3 20 rfl).trans (qm.1 3 20 rfl)), rfl⟩
theorem t_l7 (hI : zIoK I) (h : zTT I σ μ) (hF : zF σ μ) {y : Int32} (hy : zr 0 7 y) : zp2 (fX5_lastQuarter_196 σ y) (fX12_more3 μ y 7) (zEnq I) := by
  unfold fX5_lastQuarter_196 fX12_more3
  refine zp2_bvr (fun p _ => zp2_ifr (fun q => absurd q (by decide)) (fun _ => zp2_ifr (fun q => absurd q (by decide)) (fun _ => zp2_ifr (fun _ => zp2_ckl ?_) (fun q => absurd rfl q))))
  exact t_callk hI h hF (z_8y hy) (fun s t h1 f1 w1 _ _ => zp2_some ⟨h1, f1, w1, rfl⟩)
theorem t_last (hI : zIoK I) (h : zTT I σ μ) (hF : zF σ μ) (hW : zWzz σ μ) {op : Int32} (hx : op >>> ((6 : Int32) &&& 31) = 3) (h3 : ¬ op &&& 7 = 3) (hn : op &&& 7 = 5 → ((op >>> ((3 : Int32) &&& 31)) &&& 7 = 0 ∨ (op >>> ((3 : Int32) &&& 31)) &&& 7 = 1 ∨ (op >>> ((3 : Int32) &&& 31)) &&& 7 = 2 ∨ (op >>> ((3 : Int32) &&& 31)) &&& 7 = 4 ∨ (op >>> ((3 : Int32) &&& 31)) &&& 7 = 6)) : zp2 (fX5_lastQuarter σ op) (fX12_plain μ op) (zEnq I) := by
  have hy : zr 0 7 ((op >>> ((3 : Int32) &&& 31)) &&& 7) := z_r7 _
  have hz : zr 0 7 (op &&& 7) := z_r7 _
  unfold fX5_lastQuarter fX12_plain fX12_plain_160
  rw [hx]
  refine zp2_bvl (fun y ey => zp2_bvr (fun y' ey' => zp2_bvr (fun z ez => zp2_ifr (fun q => absurd q (by decide)) (fun _ => zp2_ifr (fun q => absurd q (by decide)) (fun _ => zp2_ifr (fun q => absurd q (by decide)) (fun _ => ?_))))))
  rw [← ey] at ey' hy hn
  subst ey'
  rw [← ez] at hz hn h3 ⊢
  clear ez
  rcases zr_hd (c := 0) hz rfl with e | hz
  · subst e
    exact zp2_ifl (fun _ => zp2_ifr (fun q => absurd q (by decide)) (fun _ => zp2_birp (t_l0 hI h hF hW hy) (fun a t w q => zp2_some q))) (fun q => absurd rfl q)
  rcases zr_hd (c := 1) hz rfl with e | hz
  · subst e
    exact zp2_ifl (fun q => absurd q (by decide)) (fun _ => zp2_ifl (fun _ => zp2_ifr (fun q => absurd q (by decide)) (fun _ => zp2_birp (t_l1 hI h hF hW hy) (fun a t w q => zp2_some q))) (fun q => absurd rfl q))
  rcases zr_hd (c := 2) hz rfl with e | hz
  · subst e
    rw [e_th2 (by decide) (by decide)]
    exact zp2_ifl (fun q => absurd q (by decide)) (fun _ => zp2_ifl (fun q => absurd q (by decide)) (fun _ => zp2_ifl (fun _ => zp2_ifr (fun q => absurd q (by decide)) (fun _ => zp2_birp (t_jpcc hI h hF hy) (fun a t w q => zp2_some q))) (fun q => absurd rfl q)))
  rcases zr_hd (c := 3) hz rfl with e | hz
  · exact absurd e h3
  rcases zr_hd (c := 4) hz rfl with e | hz
  · subst e
    exact zp2_ifl (fun q => absurd q (by decide)) (fun _ => zp2_ifl (fun q => absurd q (by decide)) (fun _ => zp2_ifl (fun q => absurd q (by decide)) (fun _ => zp2_ifl (fun q => absurd q (by decide)) (fun _ => zp2_ifl (fun _ => zp2_ifr (fun _ => zp2_birp (t_l4 hI h hF hy) (fun a t w q => zp2_some q)) (fun q => absurd (by decide) q)) (fun q => absurd rfl q)))))
  rcases zr_hd (c := 5) hz rfl with e | hz
  · subst e
    exact zp2_ifl (fun q => absurd q (by decide)) (fun _ => zp2_ifl (fun q => absurd q (by decide)) (fun _ => zp2_ifl (fun q => absurd q (by decide)) (fun _ => zp2_ifl (fun q => absurd q (by decide)) (fun _ => zp2_ifl (fun q => absurd q (by decide)) (fun _ => zp2_ifl (fun _ => zp2_ifr (fun _ => zp2_birp (t_l5 hI h hF hW (hn rfl)) (fun a t w q => zp2_some q)) (fun q => absurd (by decide) q)) (fun q => absurd rfl q))))))
  rcases zr_hd (c := 6) hz rfl with e | hz
  · subst e
    exact zp2_ifl (fun q => absurd q (by decide)) (fun _ => zp2_ifl (fun q => absurd q (by decide)) (fun _ => zp2_ifl (fun q => absurd q (by decide)) (fun _ => zp2_ifl (fun q => absurd q (by decide)) (fun _ => zp2_ifl (fun q => absurd q (by decide)) (fun _ => zp2_ifl (fun q => absurd q (by decide)) (fun _ => zp2_ifl (fun _ => zp2_ifr (fun _ => zp2_birp (t_l6 hI h hF hW hy) (fun a t w q => zp2_some q)) (fun q => absurd (by decide) q)) (fun q => absurd rfl q)))))))
  rcases zr_hd (c := 7) hz rfl with e | hz
  · subst e
    exact zp2_ifl (fun q => absurd q (by decide)) (fun _ => zp2_ifl (fun q => absurd q (by decide)) (fun _ => zp2_ifl (fun q => absurd q (by decide)) (fun _ => zp2_ifl (fun q => absurd q (by decide)) (fun _ => zp2_ifl (fun q => absurd q (by decide)) (fun _ => zp2_ifl (fun q => absurd q (by decide)) (fun _ => zp2_ifl (fun q => absurd q (by decide)) (fun _ => zp2_ifr (fun _ => zp2_birp (t_l7 hI h hF hy) (fun a t w q => zp2_some q)) (fun q => absurd (by decide) q))))))))
  exact zr_no9 hz (by decide)
theorem t_lx (hI : zIoK I) (hPo : zPorts I) (h : zTT I σ μ) (hF : zF σ μ) (hW : zWzz σ μ) (h28 : σ.1 36 28 = 0) {op : Int32} (hx : op >>> ((6 : Int32) &&& 31) = 3) (h3 : op &&& 7 = 3) (hn : ¬ (op >>> ((3 : Int32) &&& 31)) &&& 7 = 1) : zp2 (fX5_exchange σ ((op >>> ((3 : Int32) &&& 31)) &&& 7)) (fX12_plain μ op) (zEnq I) := by
  unfold fX12_plain fX12_plain_160
  rw [hx, h3]
  refine zp2_bvr (fun y' ey' => zp2_bvr (fun z ez => zp2_ifr (fun q => absurd q (by decide)) (fun _ => zp2_ifr (fun q => absurd q (by decide)) (fun _ => zp2_ifr (fun q => absurd q (by decide)) (fun _ => ?_)))))
  subst ey'
  subst ez
  refine zp2_ifr (fun q => absurd q (by decide)) (fun _ => ?_)
  rw [e_th2 (by decide) (by decide)]
  exact zp2_birp (t_exch hI hPo h hF hW h28 (z_r7 _) hn) (fun a t w q => zp2_some q)
theorem t_l4_r1 (hI : zIoK I) (h : zTT I σ μ) (hF : zF σ μ) {y : Int32} (hy : zr 0 7 y) : zp2 (zbi (fX5_holds σ y) (fun σ20 v21 => zbi (fX5_callIf σ20 v21) (fun σ22 v23 => some (σ22, v23)))) (fX12_more3_r1 μ y 4) (zEnq I) := by
  unfold fX12_more3_r1
  exact zp2_bvr (fun p _ => zp2_ifr (fun _ => t_callcc hI h hF hy) (fun q => absurd rfl q))
theorem t_l5_r1 (hI : zIoK I) (h : zTT I σ μ) (hF : zF σ μ) (hW : zWzz σ μ) {y : Int32} (hn : y = 0 ∨ y = 1 ∨ y = 2 ∨ y = 4 ∨ y = 6) : zp2 (if (y &&& 1) = 1 then zbi (fX5_callIf σ 1) (fun σ28 v29 => some (σ28, v29)) else if y = 6 then zbi (fX5_pairAt σ 0) (fun σ26 v27 => fX5_lastQuarter_178 σ26 v27) else zbi (fX5_pair σ (y >>> ((1 : Int32) &&& 31))) (fun σ24 v25 => fX5_lastQuarter_178 σ24 v25)) (fX12_more3_r1 μ y 5) (zEnq I) := by
  have pu : ∀ v : Int32, zr 0 65535 v → zp2 (fX5_lastQuarter_178 σ v) (fX12_more3_r1_119 μ v) (zEnq I) := fun v rv => by
    unfold fX5_lastQuarter_178 fX12_more3_r1_119
    refine zp2_buu (t_push hI h rfl rv) (fun s t q => zp2_some ?_)
    obtain ⟨h1, qc, qm⟩ := q
    exact ⟨h1, hF.of (qc.1 36 1 rfl) (qm.1 3 1 rfl), hW.of (qc.1 36 20 rfl) (qm.1 3 20 rfl), rfl⟩
  unfold fX12_more3_r1
  refine zp2_bvr (fun p ep => zp2_ifr (fun q => absurd q (by decide)) (fun _ => zp2_ifr (fun q => absurd q (by decide)) (fun _ => zp2_ifr (fun q => absurd q (by decide)) (fun _ => zp2_ckr ?_))))
  subst ep
  rcases hn with e | e | e | e | e
  · subst e
    refine zp2_ifl (fun q => absurd q (by decide)) (fun _ => zp2_ifl (fun q => absurd q (by decide)) (fun _ => zp2_ifr (fun _ => zp2_ifr (fun q => absurd q (by decide)) (fun _ => ?_)) (fun q => absurd (by decide) q)))
    exact zp2_sm (t_rp h (zr_c (by decide))) (fun v rv => pu v rv)
  · subst e
    refine zp2_ifl (fun _ => zp2_ifr (fun q => absurd q (by decide)) (fun _ => zp2_ifr (fun _ => ?_) (fun q => absurd (by decide) q))) (fun q => absurd (by decide) q)
    unfold fX5_callIf
    refine zp2_bilp (P := zEnq I) ?_ (fun s v b q => zp2_some q)
    refine t_wzw hI h hF (fun v s t rv h1 f1 w1 w2 ef => ?_)
    exact zp2_ifl (fun q => absurd q (by decide)) (fun _ => t_callnn hI h1 f1 rv w1 w2)
  · subst e
    refine zp2_ifl (fun q => absurd q (by decide)) (fun _ => zp2_ifl (fun q => absurd q (by decide)) (fun _ => zp2_ifr (fun _ => zp2_ifr (fun q => absurd q (by decide)) (fun _ => ?_)) (fun q => absurd (by decide) q)))
    exact zp2_sm (t_rp h (zr_c (by decide))) (fun v rv => pu v rv)
  · subst e
    refine zp2_ifl (fun q => absurd q (by decide)) (fun _ => zp2_ifl (fun q => absurd q (by decide)) (fun _ => zp2_ifr (fun _ => zp2_ifr (fun q => absurd q (by decide)) (fun _ => ?_)) (fun q => absurd (by decide) q)))
    exact zp2_sm (t_rp h (zr_c (by decide))) (fun v rv => pu v rv)
  · subst e
    refine zp2_ifl (fun q => absurd q (by decide)) (fun _ => zp2_ifl (fun _ => zp2_ifr (fun _ => zp2_ifr (fun _ => ?_) (fun q => absurd (by decide) q)) (fun q => absurd (by decide) q)) (fun q => absurd rfl q))
    exact zp2_sm (t_pair0 h hF) (fun v rv => pu v rv)
theorem t_l6_r1 (hI : zIoK I) (h : zTT I σ μ) (hF : zF σ μ) (hW : zWzz σ μ) {y : Int32} (hy : zr 0 7 y) : zp2 (zbi (fX5_fetch σ ) (fun σ30 v31 => zbu (fX5_doWith σ30 y v31) (fun σ32 => some (σ32, (7 : Int32))))) (fX12_more3_r1 μ y 6) (zEnq I) := by
  unfold fX12_more3_r1
  refine zp2_bvr (fun p _ => zp2_ifr (fun q => absurd q (by decide)) (fun _ => zp2_ifr (fun _ => zp2_bii (t_next hI h) (fun s v t v' q => ?_)) (fun q => absurd rfl q)))
  obtain ⟨h1, e1, rv, qc, qm⟩ := q
  have e1 : v' = v := e1
  subst e1
  refine zp2_buu (t_do hI h1 (hF.of (qc.1 36 1 rfl) (qm.1 3 1 rfl)) hy rv) (fun s2 t2 q2 => zp2_some ?_)
  obtain ⟨h2, f2, qc2, qm2⟩ := q2
  exact ⟨h2, f2, hW.of ((qc2.1 36 20 rfl).trans (qc.1 36 20 rfl)) ((qm2.1 3 20 rfl).trans (qm.1 3 20 rfl)), rfl⟩
theorem t_l7_r1 (hI : zIoK I) (h : zTT I σ μ) (hF : zF σ μ) {y : Int32} (hy : zr 0 7 y) : zp2 (fX5_lastQuarter_196 σ y) (fX12_more3_r1 μ y 7) (zEnq I) := by
  unfold fX5_lastQuarter_196 fX12_more3_r1
  refine zp2_bvr (fun p _ => zp2_ifr (fun q => absurd q (by decide)) (fun _ => zp2_ifr (fun q => absurd q (by decide)) (fun _ => zp2_ifr (fun _ => zp2_ckl ?_) (fun q => absurd rfl q))))
  exact t_callk hI h hF (z_8y hy) (fun s t h1 f1 w1 _ _ => zp2_some ⟨h1, f1, w1, rfl⟩)
theorem t_last_r1 (hI : zIoK I) (h : zTT I σ μ) (hF : zF σ μ) (hW : zWzz σ μ) {op : Int32} (hx : op >>> ((6 : Int32) &&& 31) = 3) (h3 : ¬ op &&& 7 = 3) (hn : op &&& 7 = 5 → ((op >>> ((3 : Int32) &&& 31)) &&& 7 = 0 ∨ (op >>> ((3 : Int32) &&& 31)) &&& 7 = 1 ∨ (op >>> ((3 : Int32) &&& 31)) &&& 7 = 2 ∨ (op >>> ((3 : Int32) &&& 31)) &&& 7 = 4 ∨ (op >>> ((3 : Int32) &&& 31)) &&& 7 = 6)) : zp2 (fX5_lastQuarter σ op) (fX12_plain_r1 μ op) (zEnq I) := by
  have hy : zr 0 7 ((op >>> ((3 : Int32) &&& 31)) &&& 7) := z_r7 _
  have hz : zr 0 7 (op &&& 7) := z_r7 _
  unfold fX5_lastQuarter fX12_plain_r1 fX12_plain_r1_160
  rw [hx]
  refine zp2_bvl (fun y ey => zp2_bvr (fun y' ey' => zp2_bvr (fun z ez => zp2_ifr (fun q => absurd q (by decide)) (fun _ => zp2_ifr (fun q => absurd q (by decide)) (fun _ => zp2_ifr (fun q => absurd q (by decide)) (fun _ => ?_))))))
  rw [← ey] at ey' hy hn
  subst ey'
  rw [← ez] at hz hn h3 ⊢
  clear ez
  rcases zr_hd (c := 0) hz rfl with e | hz
  · subst e
    exact zp2_ifl (fun _ => zp2_ifr (fun q => absurd q (by decide)) (fun _ => zp2_birp (t_l0 hI h hF hW hy) (fun a t w q => zp2_some q))) (fun q => absurd rfl q)
  rcases zr_hd (c := 1) hz rfl with e | hz
  · subst e
    exact zp2_ifl (fun q => absurd q (by decide)) (fun _ => zp2_ifl (fun _ => zp2_ifr (fun q => absurd q (by decide)) (fun _ => zp2_birp (t_l1 hI h hF hW hy) (fun a t w q => zp2_some q))) (fun q => absurd rfl q))
  rcases zr_hd (c := 2) hz rfl with e | hz
  · subst e
    rw [e_th2 (by decide) (by decide)]
    exact zp2_ifl (fun q => absurd q (by decide)) (fun _ => zp2_ifl (fun q => absurd q (by decide)) (fun _ => zp2_ifl (fun _ => zp2_ifr (fun q => absurd q (by decide)) (fun _ => zp2_birp (t_jpcc hI h hF hy) (fun a t w q => zp2_some q))) (fun q => absurd rfl q)))
  rcases zr_hd (c := 3) hz rfl with e | hz
  · exact absurd e h3
  rcases zr_hd (c := 4) hz rfl with e | hz
  · subst e
    exact zp2_ifl (fun q => absurd q (by decide)) (fun _ => zp2_ifl (fun q => absurd q (by decide)) (fun _ => zp2_ifl (fun q => absurd q (by decide)) (fun _ => zp2_ifl (fun q => absurd q (by decide)) (fun _ => zp2_ifl (fun _ => zp2_ifr (fun _ => zp2_birp (t_l4_r1 hI h hF hy) (fun a t w q => zp2_some q)) (fun q => absurd (by decide) q)) (fun q => absurd rfl q)))))
  rcases zr_hd (c := 5) hz rfl with e | hz
  · subst e
    exact zp2_ifl (fun q => absurd q (by decide)) (fun _ => zp2_ifl (fun q => absurd q (by decide)) (fun _ => zp2_ifl (fun q => absurd q (by decide)) (fun _ => zp2_ifl (fun q => absurd q (by decide)) (fun _ => zp2_ifl (fun q => absurd q (by decide)) (fun _ => zp2_ifl (fun _ => zp2_ifr (fun _ => zp2_birp (t_l5_r1 hI h hF hW (hn rfl)) (fun a t w q => zp2_some q)) (fun q => absurd (by decide) q)) (fun q => absurd rfl q))))))
  rcases zr_hd (c := 6) hz rfl with e | hz
  · subst e
    exact zp2_ifl (fun q => absurd q (by decide)) (fun _ => zp2_ifl (fun q => absurd q (by decide)) (fun _ => zp2_ifl (fun q => absurd q (by decide)) (fun _ => zp2_ifl (fun q => absurd q (by decide)) (fun _ => zp2_ifl (fun q => absurd q (by decide)) (fun _ => zp2_ifl (fun q => absurd q (by decide)) (fun _ => zp2_ifl (fun _ => zp2_ifr (fun _ => zp2_birp (t_l6_r1 hI h hF hW hy) (fun a t w q => zp2_some q)) (fun q => absurd (by decide) q)) (fun q => absurd rfl q)))))))
  rcases zr_hd (c := 7) hz rfl with e | hz
  · subst e
    exact zp2_ifl (fun q => absurd q (by decide)) (fun _ => zp2_ifl (fun q => absurd q (by decide)) (fun _ => zp2_ifl (fun q => absurd q (by decide)) (fun _ => zp2_ifl (fun q => absurd q (by decide)) (fun _ => zp2_ifl (fun q => absurd q (by decide)) (fun _ => zp2_ifl (fun q => absurd q (by decide)) (fun _ => zp2_ifl (fun q => absurd q (by decide)) (fun _ => zp2_ifr (fun _ => zp2_birp (t_l7_r1 hI h hF hy) (fun a t w q => zp2_some q)) (fun q => absurd (by decide) q))))))))
  exact zr_no9 hz (by decide)
theorem t_lx_r1 (hI : zIoK I) (hPo : zPorts I) (h : zTT I σ μ) (hF : zF σ μ) (hW : zWzz σ μ) (h28 : σ.1 36 28 = 0) {op : Int32} (hx : op >>> ((6 : Int32) &&& 31) = 3) (h3 : op &&& 7 = 3) (hn : ¬ (op >>> ((3 : Int32) &&& 31)) &&& 7 = 1) : zp2 (fX5_exchange σ ((op >>> ((3 : Int32) &&& 31)) &&& 7)) (fX12_plain_r1 μ op) (zEnq I) := by
  unfold fX12_plain_r1 fX12_plain_r1_160
  rw [hx, h3]
  refine zp2_bvr (fun y' ey' => zp2_bvr (fun z ez => zp2_ifr (fun q => absurd q (by decide)) (fun _ => zp2_ifr (fun q => absurd q (by decide)) (fun _ => zp2_ifr (fun q => absurd q (by decide)) (fun _ => ?_)))))
  subst ey'
  subst ez
  refine zp2_ifr (fun q => absurd q (by decide)) (fun _ => ?_)
  rw [e_th2 (by decide) (by decide)]
  exact zp2_birp (t_exch hI hPo h hF hW h28 (z_r7 _) hn) (fun a t w q => zp2_some q)
end ZQ5
end ZJN2
section ZJN3
/-! CB -/
theorem v_1y : ∀ i : Fin 8, 0 ≤ ((1 : Int32) <<< (Int32.ofNat i.val &&& 31)).toInt ∧ ((1 : Int32) <<< (Int32.ofNat i.val &&& 31)).toInt ≤ 255 := by decide
theorem z_1y {y : Int32} (h : zr 0 7 y) : zr 0 255 (1 <<< (y &&& 31)) := by
  obtain ⟨i, e⟩ := z_fin8 h
  subst e
  exact v_1y i
noncomputable def cbit (f w s : Int32) : Int32 := ((((f &&& 1) ||| (w &&& 128)) ||| (if w = 0 then 68 else 0)) ||| 16) ||| (s &&& 40)
theorem v_bitf : ∀ i : Fin 256, ∀ c x y : Bool, zfl (d7 (Int32.ofNat i.val)) (d6 (Int32.ofNat i.val)) x true y (bc (if Int32.ofNat i.val = 0 then 1 else 0)) false c = ((((bif c then 1 else 0) ||| (Int32.ofNat i.val &&& 128)) ||| (if Int32.ofNat i.val = 0 then 68 else 0)) ||| 16) ||| ((bif x then 32 else 0) ||| (bif y then 8 else 0)) := by decide +kernel
theorem v_bit {f w s : Int32} (hf : zr 0 255 f) (hw : zr 0 255 w) (hs : zr 0 255 s) : gxy (pt (pt (pt (gby f w) 2 (if w = 0 then 1 else 0)) 4 1) 1 0) s = cbit f w s := by
  unfold cbit
  rw [z_40 hs, z_f1 hf]
  obtain ⟨i, e⟩ := z_byteF hw
  subst e
  rw [← v_bitf i]
  conv => lhs; rw [fl_of hf, fl_by, pt_2, pt_4, pt_1, fl_xy]
  rfl
theorem r_bit {f w s : Int32} (hf : zr 0 255 f) (hw : zr 0 255 w) (hs : zr 0 255 s) : zr 0 255 (cbit f w s) := by
  rw [← v_bit hf hw hs, fl_of hf, fl_by, pt_2, pt_4, pt_1, fl_xy]
  exact zfl_r _ _ _ _ _ _ _ _
section ZCB
variable {I : zSt → zSt → Prop} {σ μ : zSt}
theorem zTT.m33 (hI : zIoK I) (h : zTT I σ μ) {w : Int32} : zTT I σ (zsi μ 0 33 w) := ⟨h.1.keep zQ.rf (zQ.wi zQ.rf rfl), ⟨fun j a b c => h.2.1.1 j a b c, h.2.1.2.1, h.2.1.2.2.1, h.2.1.2.2.2⟩, h.2.2.1.of rfl rfl, hI _ _ _ _ h.2.2.2 zQ.rf (zQ.wi zQ.rf rfl)⟩
theorem p_bitC {y v s : Int32} : zpc (fX5_askBit σ y v s) (fun r => r = zsi σ 36 1 (cbit (σ.1 36 1) (v &&& (1 <<< (y &&& 31))) s)) := by
  unfold fX5_askBit cbit
  refine zpc_bv (fun w ew => zpc_ck ?_)
  subst ew
  refine zpc_jx (K := fun x => fX5_askBit_38 σ s x (((zgi σ 36 (1 : Int32).toNatClampNeg) &&& 1) ||| ((v &&& ((1 : Int32) <<< (y &&& 31))) &&& 128)) 1) (a := 68) (b := 0) rfl rfl (fun x ex => ?_)
  unfold fX5_askBit_38
  refine zpc_ck (zpc_bv (fun t et => zpc_some ?_))
  rw [et, ex]
  rfl
theorem p_bitM {f z v w : Int32} : zpc (if w = 0 then fX12_turn_69 (zsi μ 3 1 f) z v 1 2 else fX12_turn_69 (zsi μ 3 1 f) z v 0 2) (fun r => r = (zsi μ 3 1 (gxy (pt (pt (pt f 2 (if w = 0 then 1 else 0)) 4 1) 1 0) (if z = 6 then μ.1 3 20 >>> ((8 : Int32) &&& 31) else v)), if z = 6 then 12 else 8)) := by
  refine zpc_jx (K := fun x => fX12_turn_69 (zsi μ 3 1 f) z v x 2) (a := 1) (b := 0) rfl rfl (fun x ex => ?_)
  unfold fX12_turn_69 fX12_turn_106 fX12_turn_122
  refine zpc_bu p_put (fun s e => ?_)
  subst e
  refine zpc_bu p_put (fun s e => ?_)
  subst e
  refine zpc_bu p_put (fun s e => ?_)
  subst e
  refine zpc_if (fun q => zpc_ck (zpc_bu p_xy (fun s e => zpc_if (fun _ => zpc_some ?_) (fun r => absurd q r)))) (fun q => zpc_bu p_xy (fun s e => zpc_if (fun r => absurd r q) (fun _ => zpc_some ?_)))
  · rw [e, ex, if_pos q, if_pos q]; rfl
  · rw [e, ex, if_neg q, if_neg q]
theorem t_rot0 (hI : zIoK I) (h : zTT I σ μ) (hF : zF σ μ) {v : Int32} (rv : zr 0 255 v) {α β : Type} {Q : α → β → Prop} {f : zSt → Int32 → Option α} {g : zSt → Int32 → Option β} (k : ∀ s t w, zTT I s t → zF s t → zQ [] [(36, 1, 1)] [] [] σ s → zQ [] [(3, 1, 1)] [] [] μ t → zr 0 255 w → zp2 (f s w) (g t w) Q) : zp2 (zbi (fX5_turn σ 0 v) f) (zbi (fX12_turned μ 0 v) (fun σ10 v11 => zbu (fX12_by σ10 v11) (fun σ12 => zbi (fX12_isEven σ12 v11) (fun σ13 v14 => zbu (fX12_put σ13 2 v14) (fun σ15 => zbu (fX12_put σ15 4 0) (fun σ16 => zbu (fX12_put σ16 1 0) (fun σ17 => g σ17 v11))))))) Q := by
  have ef : μ.1 3 1 = σ.1 36 1 := hF
  have hf : zr 0 255 (σ.1 36 1) := h.b (by decide)
  have hwo : zr 0 255 (((v <<< ((1 : Int32) &&& 31)) &&& 255) ||| (v >>> ((7 : Int32) &&& 31))) ∧ zr 0 1 (v >>> ((7 : Int32) &&& 31)) := by
    obtain ⟨i, ei⟩ := z_byteF rv
    obtain ⟨m, em⟩ := z_bit1 (z_r1 (σ.1 36 1))
    rw [ei]
    exact ⟨(v_rotf0 i m).1, (v_rotf0 i m).2⟩
  have cM := p_rotM0 (μ := μ) (v := v)
  rw [ef] at cM
  refine zp2_bil p_rotC0 (fun s w1 e => zp2_bir cM (fun t w2 e' => ?_))
  cases e
  cases e'
  obtain ⟨rw1, ro⟩ := hwo
  generalize ((v <<< ((1 : Int32) &&& 31)) &&& 255) ||| (v >>> ((7 : Int32) &&& 31)) = w at rw1
  refine zp2_bur p_by (fun t2 e2 => ?_)
  subst e2
  refine zp2_bir p_even (fun t3 v3 e3 => ?_)
  cases e3
  refine zp2_bur p_put (fun t2 e2 => ?_)
  subst e2
  refine zp2_bur p_put (fun t2 e2 => ?_)
  subst e2
  refine zp2_bur p_put (fun t2 e2 => ?_)
  have eF : pt (pt (pt (gby (pt (σ.1 36 1) 0 (if v >>> ((7 : Int32) &&& 31) = 1 then 1 else 0)) w) 2 (gev w)) 4 0) 1 0 = crot w (v >>> ((7 : Int32) &&& 31)) := by
    rw [← v_rt rw1 ro, fl_of hf, pt_0, fl_by, pt_2, pt_4, pt_1]
    rfl
  rw [eF] at e2
  subst e2
  have rF : zr 0 255 (crot w (v >>> ((7 : Int32) &&& 31))) := by rw [← v_rt rw1 ro]; exact zfl_r _ _ _ _ _ _ _ _
  exact k _ _ w ((h.onC hI (Or.inl rfl) (zrg_b (Or.inl (by decide)) rF)).onM hI (Or.inl rfl)) rfl (zQ.wi zQ.rf rfl) (zQ.wi zQ.rf rfl) rw1
theorem t_rot1 (hI : zIoK I) (h : zTT I σ μ) (hF : zF σ μ) {v : Int32} (rv : zr 0 255 v) {α β : Type} {Q : α → β → Prop} {f : zSt → Int32 → Option α} {g : zSt → Int32 → Option β} (k : ∀ s t w, zTT I s t → zF s t → zQ [] [(36, 1, 1)] [] [] σ s → zQ [] [(3, 1, 1)] [] [] μ t → zr 0 255 w → zp2 (f s w) (g t w) Q) : zp2 (zbi (fX5_turn σ 1 v) f) (zbi (fX12_turned μ 1 v) (fun σ10 v11 => zbu (fX12_by σ10 v11) (fun σ12 => zbi (fX12_isEven σ12 v11) (fun σ13 v14 => zbu (fX12_put σ13 2 v14) (fun σ15 => zbu (fX12_put σ15 4 0) (fun σ16 => zbu (fX12_put σ16 1 0) (fun σ17 => g σ17 v11))))))) Q := by
  have ef : μ.1 3 1 = σ.1 36 1 := hF
  have hf : zr 0 255 (σ.1 36 1) := h.b (by decide)
  have hwo : zr 0 255 ((v >>> ((1 : Int32) &&& 31)) ||| ((v &&& 1) <<< ((7 : Int32) &&& 31))) ∧ zr 0 1 (v &&& 1) := by
    obtain ⟨i, ei⟩ := z_byteF rv
    obtain ⟨m, em⟩ := z_bit1 (z_r1 (σ.1 36 1))
    rw [ei]
    exact ⟨(v_rotf1 i m).1, (v_rotf1 i m).2⟩
  have cM := p_rotM1 (μ := μ) (v := v)
  rw [ef] at cM
  refine zp2_bil p_rotC1 (fun s w1 e => zp2_bir cM (fun t w2 e' => ?_))
  cases e
  cases e'
  obtain ⟨rw1, ro⟩ := hwo
  generalize (v >>> ((1 : Int32) &&& 31)) ||| ((v &&& 1) <<< ((7 : Int32) &&& 31)) = w at rw1
  refine zp2_bur p_by (fun t2 e2 => ?_)
  subst e2
  refine zp2_bir p_even (fun t3 v3 e3 => ?_)
  cases e3
  refine zp2_bur p_put (fun t2 e2 => ?_)
  subst e2
  refine zp2_bur p_put (fun t2 e2 => ?_)
  subst e2
  refine zp2_bur p_put (fun t2 e2 => ?_)
  have eF : pt (pt (pt (gby (pt (σ.1 36 1) 0 (if v &&& 1 = 1 then 1 else 0)) w) 2 (gev w)) 4 0) 1 0 = crot w (v &&& 1) := by
    rw [← v_rt rw1 ro, fl_of hf, pt_0, fl_by, pt_2, pt_4, pt_1]
    rfl
  rw [eF] at e2
  subst e2
  have rF : zr 0 255 (crot w (v &&& 1)) := by rw [← v_rt rw1 ro]; exact zfl_r _ _ _ _ _ _ _ _
  exact k _ _ w ((h.onC hI (Or.inl rfl) (zrg_b (Or.inl (by decide)) rF)).onM hI (Or.inl rfl)) rfl (zQ.wi zQ.rf rfl) (zQ.wi zQ.rf rfl) rw1
theorem t_rot2 (hI : zIoK I) (h : zTT I σ μ) (hF : zF σ μ) {v : Int32} (rv : zr 0 255 v) {α β : Type} {Q : α → β → Prop} {f : zSt → Int32 → Option α} {g : zSt → Int32 → Option β} (k : ∀ s t w, zTT I s t → zF s t → zQ [] [(36, 1, 1)] [] [] σ s → zQ [] [(3, 1, 1)] [] [] μ t → zr 0 255 w → zp2 (f s w) (g t w) Q) : zp2 (zbi (fX5_turn σ 2 v) f) (zbi (fX12_turned μ 2 v) (fun σ10 v11 => zbu (fX12_by σ10 v11) (fun σ12 => zbi (fX12_isEven σ12 v11) (fun σ13 v14 => zbu (fX12_put σ13 2 v14) (fun σ15 => zbu (fX12_put σ15 4 0) (fun σ16 => zbu (fX12_put σ16 1 0) (fun σ17 => g σ17 v11))))))) Q := by
  have ef : μ.1 3 1 = σ.1 36 1 := hF
  have hf : zr 0 255 (σ.1 36 1) := h.b (by decide)
  have hwo : zr 0 255 (((v <<< ((1 : Int32) &&& 31)) &&& 255) ||| (σ.1 36 1 &&& 1)) ∧ zr 0 1 (v >>> ((7 : Int32) &&& 31)) := by
    obtain ⟨i, ei⟩ := z_byteF rv
    obtain ⟨m, em⟩ := z_bit1 (z_r1 (σ.1 36 1))
    rw [em, ei]
    exact ⟨(v_rotf2 i m).1, (v_rotf2 i m).2⟩
  have cM := p_rotM2 (μ := μ) (v := v)
  rw [ef, z_c0 hf] at cM
  refine zp2_bil p_rotC2 (fun s w1 e => zp2_bir cM (fun t w2 e' => ?_))
  cases e
  cases e'
  obtain ⟨rw1, ro⟩ := hwo
  generalize ((v <<< ((1 : Int32) &&& 31)) &&& 255) ||| (σ.1 36 1 &&& 1) = w at rw1
  refine zp2_bur p_by (fun t2 e2 => ?_)
  subst e2
  refine zp2_bir p_even (fun t3 v3 e3 => ?_)
  cases e3
  refine zp2_bur p_put (fun t2 e2 => ?_)
  subst e2
  refine zp2_bur p_put (fun t2 e2 => ?_)
  subst e2
  refine zp2_bur p_put (fun t2 e2 => ?_)
  have eF : pt (pt (pt (gby (pt (σ.1 36 1) 0 (if v >>> ((7 : Int32) &&& 31) = 1 then 1 else 0)) w) 2 (gev w)) 4 0) 1 0 = crot w (v >>> ((7 : Int32) &&& 31)) := by
    rw [← v_rt rw1 ro, fl_of hf, pt_0, fl_by, pt_2, pt_4, pt_1]
    rfl
  rw [eF] at e2
  subst e2
  have rF : zr 0 255 (crot w (v >>> ((7 : Int32) &&& 31))) := by rw [← v_rt rw1 ro]; exact zfl_r _ _ _ _ _ _ _ _
  exact k _ _ w ((h.onC hI (Or.inl rfl) (zrg_b (Or.inl (by decide)) rF)).onM hI (Or.inl rfl)) rfl (zQ.wi zQ.rf rfl) (zQ.wi zQ.rf rfl) rw1
theorem t_rot3 (hI : zIoK I) (h : zTT I σ μ) (hF : zF σ μ) {v : Int32} (rv : zr 0 255 v) {α β : Type} {Q : α → β → Prop} {f : zSt → Int32 → Option α} {g : zSt → Int32 → Option β} (k : ∀ s t w, zTT I s t → zF s t → zQ [] [(36, 1, 1)] [] [] σ s → zQ [] [(3, 1, 1)] [] [] μ t → zr 0 255 w → zp2 (f s w) (g t w) Q) : zp2 (zbi (fX5_turn σ 3 v) f) (zbi (fX12_turned μ 3 v) (fun σ10 v11 => zbu (fX12_by σ10 v11) (fun σ12 => zbi (fX12_isEven σ12 v11) (fun σ13 v14 => zbu (fX12_put σ13 2 v14) (fun σ15 => zbu (fX12_put σ15 4 0) (fun σ16 => zbu (fX12_put σ16 1 0) (fun σ17 => g σ17 v11))))))) Q := by
  have ef : μ.1 3 1 = σ.1 36 1 := hF
  have hf : zr 0 255 (σ.1 36 1) := h.b (by decide)
  have hwo : zr 0 255 ((v >>> ((1 : Int32) &&& 31)) ||| ((σ.1 36 1 &&& 1) <<< ((7 : Int32) &&& 31))) ∧ zr 0 1 (v &&& 1) := by
    obtain ⟨i, ei⟩ := z_byteF rv
    obtain ⟨m, em⟩ := z_bit1 (z_r1 (σ.1 36 1))
    rw [em, ei]
    exact ⟨(v_rotf3 i m).1, (v_rotf3 i m).2⟩
  have cM := p_rotM3 (μ := μ) (v := v)
  rw [ef, z_c0 hf] at cM
  refine zp2_bil p_rotC3 (fun s w1 e => zp2_bir cM (fun t w2 e' => ?_))
  cases e
  cases e'
  obtain ⟨rw1, ro⟩ := hwo
  generalize (v >>> ((1 : Int32) &&& 31)) ||| ((σ.1 36 1 &&& 1) <<< ((7 : Int32) &&& 31)) = w at rw1
  refine zp2_bur p_by (fun t2 e2 => ?_)
  subst e2
  refine zp2_bir p_even (fun t3 v3 e3 => ?_)
  cases e3
  refine zp2_bur p_put (fun t2 e2 => ?_)
  subst e2
  refine zp2_bur p_put (fun t2 e2 => ?_)
  subst e2
  refine zp2_bur p_put (fun t2 e2 => ?_)
  have eF : pt (pt (pt (gby (pt (σ.1 36 1) 0 (if v &&& 1 = 1 then 1 else 0)) w) 2 (gev w)) 4 0) 1 0 = crot w (v &&& 1) := by
    rw [← v_rt rw1 ro, fl_of hf, pt_0, fl_by, pt_2, pt_4, pt_1]
    rfl
  rw [eF] at e2
  subst e2
  have rF : zr 0 255 (crot w (v &&& 1)) := by rw [← v_rt rw1 ro]; exact zfl_r _ _ _ _ _ _ _ _
  exact k _ _ w ((h.onC hI (Or.inl rfl) (zrg_b (Or.inl (by decide)) rF)).onM hI (Or.inl rfl)) rfl (zQ.wi zQ.rf rfl) (zQ.wi zQ.rf rfl) rw1
theorem t_rot4 (hI : zIoK I) (h : zTT I σ μ) (hF : zF σ μ) {v : Int32} (rv : zr 0 255 v) {α β : Type} {Q : α → β → Prop} {f : zSt → Int32 → Option α} {g : zSt → Int32 → Option β} (k : ∀ s t w, zTT I s t → zF s t → zQ [] [(36, 1, 1)] [] [] σ s → zQ [] [(3, 1, 1)] [] [] μ t → zr 0 255 w → zp2 (f s w) (g t w) Q) : zp2 (zbi (fX5_turn σ 4 v) f) (zbi (fX12_turned μ 4 v) (fun σ10 v11 => zbu (fX12_by σ10 v11) (fun σ12 => zbi (fX12_isEven σ12 v11) (fun σ13 v14 => zbu (fX12_put σ13 2 v14) (fun σ15 => zbu (fX12_put σ15 4 0) (fun σ16 => zbu (fX12_put σ16 1 0) (fun σ17 => g σ17 v11))))))) Q := by
  have ef : μ.1 3 1 = σ.1 36 1 := hF
  have hf : zr 0 255 (σ.1 36 1) := h.b (by decide)
  have hwo : zr 0 255 (((v <<< ((1 : Int32) &&& 31)) &&& 255) ||| 0) ∧ zr 0 1 (v >>> ((7 : Int32) &&& 31)) := by
    obtain ⟨i, ei⟩ := z_byteF rv
    obtain ⟨m, em⟩ := z_bit1 (z_r1 (σ.1 36 1))
    rw [ei]
    exact ⟨(v_rotf4 i m).1, (v_rotf4 i m).2⟩
  have cM := p_rotM4 (μ := μ) (v := v)
  rw [ef] at cM
  refine zp2_bil p_rotC4 (fun s w1 e => zp2_bir cM (fun t w2 e' => ?_))
  cases e
  cases e'
  obtain ⟨rw1, ro⟩ := hwo
  generalize ((v <<< ((1 : Int32) &&& 31)) &&& 255) ||| 0 = w at rw1
  refine zp2_bur p_by (fun t2 e2 => ?_)
  subst e2
  refine zp2_bir p_even (fun t3 v3 e3 => ?_)
  cases e3
  refine zp2_bur p_put (fun t2 e2 => ?_)
  subst e2
  refine zp2_bur p_put (fun t2 e2 => ?_)
  subst e2
  refine zp2_bur p_put (fun t2 e2 => ?_)
  have eF : pt (pt (pt (gby (pt (σ.1 36 1) 0 (if v >>> ((7 : Int32) &&& 31) = 1 then 1 else 0)) w) 2 (gev w)) 4 0) 1 0 = crot w (v >>> ((7 : Int32) &&& 31)) := by
    rw [← v_rt rw1 ro, fl_of hf, pt_0, fl_by, pt_2, pt_4, pt_1]
    rfl
  rw [eF] at e2
  subst e2
  have rF : zr 0 255 (crot w (v >>> ((7 : Int32) &&& 31))) := by rw [← v_rt rw1 ro]; exact zfl_r _ _ _ _ _ _ _ _
  exact k _ _ w ((h.onC hI (Or.inl rfl) (zrg_b (Or.inl (by decide)) rF)).onM hI (Or.inl rfl)) rfl (zQ.wi zQ.rf rfl) (zQ.wi zQ.rf rfl) rw1
theorem t_rot5 (hI : zIoK I) (h : zTT I σ μ) (hF : zF σ μ) {v : Int32} (rv : zr 0 255 v) {α β : Type} {Q : α → β → Prop} {f : zSt → Int32 → Option α} {g : zSt → Int32 → Option β} (k : ∀ s t w, zTT I s t → zF s t → zQ [] [(36, 1, 1)] [] [] σ s → zQ [] [(3, 1, 1)] [] [] μ t → zr 0 255 w → zp2 (f s w) (g t w) Q) : zp2 (zbi (fX5_turn σ 5 v) f) (zbi (fX12_turned μ 5 v) (fun σ10 v11 => zbu (fX12_by σ10 v11) (fun σ12 => zbi (fX12_isEven σ12 v11) (fun σ13 v14 => zbu (fX12_put σ13 2 v14) (fun σ15 => zbu (fX12_put σ15 4 0) (fun σ16 => zbu (fX12_put σ16 1 0) (fun σ17 => g σ17 v11))))))) Q := by
  have ef : μ.1 3 1 = σ.1 36 1 := hF
  have hf : zr 0 255 (σ.1 36 1) := h.b (by decide)
  have hwo : zr 0 255 ((v >>> ((1 : Int32) &&& 31)) ||| ((v >>> ((7 : Int32) &&& 31)) <<< ((7 : Int32) &&& 31))) ∧ zr 0 1 (v &&& 1) := by
    obtain ⟨i, ei⟩ := z_byteF rv
    obtain ⟨m, em⟩ := z_bit1 (z_r1 (σ.1 36 1))
    rw [ei]
    exact ⟨(v_rotf5 i m).1, (v_rotf5 i m).2⟩
  have cM := p_rotM5 (μ := μ) (v := v)
  rw [ef] at cM
  refine zp2_bil p_rotC5 (fun s w1 e => zp2_bir cM (fun t w2 e' => ?_))
  cases e
  cases e'
  obtain ⟨rw1, ro⟩ := hwo
  generalize (v >>> ((1 : Int32) &&& 31)) ||| ((v >>> ((7 : Int32) &&& 31)) <<< ((7 : Int32) &&& 31)) = w at rw1
  refine zp2_bur p_by (fun t2 e2 => ?_)
  subst e2
  refine zp2_bir p_even (fun t3 v3 e3 => ?_)
  cases e3
  refine zp2_bur p_put (fun t2 e2 => ?_)
  subst e2
  refine zp2_bur p_put (fun t2 e2 => ?_)
  subst e2
  refine zp2_bur p_put (fun t2 e2 => ?_)
  have eF : pt (pt (pt (gby (pt (σ.1 36 1) 0 (if v &&& 1 = 1 then 1 else 0)) w) 2 (gev w)) 4 0) 1 0 = crot w (v &&& 1) := by
    rw [← v_rt rw1 ro, fl_of hf, pt_0, fl_by, pt_2, pt_4, pt_1]
    rfl
  rw [eF] at e2
  subst e2
  have rF : zr 0 255 (crot w (v &&& 1)) := by rw [← v_rt rw1 ro]; exact zfl_r _ _ _ _ _ _ _ _
  exact k _ _ w ((h.onC hI (Or.inl rfl) (zrg_b (Or.inl (by decide)) rF)).onM hI (Or.inl rfl)) rfl (zQ.wi zQ.rf rfl) (zQ.wi zQ.rf rfl) rw1
theorem t_rot6 (hI : zIoK I) (h : zTT I σ μ) (hF : zF σ μ) {v : Int32} (rv : zr 0 255 v) {α β : Type} {Q : α → β → Prop} {f : zSt → Int32 → Option α} {g : zSt → Int32 → Option β} (k : ∀ s t w, zTT I s t → zF s t → zQ [] [(36, 1, 1)] [] [] σ s → zQ [] [(3, 1, 1)] [] [] μ t → zr 0 255 w → zp2 (f s w) (g t w) Q) : zp2 (zbi (fX5_turn σ 6 v) f) (zbi (fX12_turned μ 6 v) (fun σ10 v11 => zbu (fX12_by σ10 v11) (fun σ12 => zbi (fX12_isEven σ12 v11) (fun σ13 v14 => zbu (fX12_put σ13 2 v14) (fun σ15 => zbu (fX12_put σ15 4 0) (fun σ16 => zbu (fX12_put σ16 1 0) (fun σ17 => g σ17 v11))))))) Q := by
  have ef : μ.1 3 1 = σ.1 36 1 := hF
  have hf : zr 0 255 (σ.1 36 1) := h.b (by decide)
  have hwo : zr 0 255 (((v <<< ((1 : Int32) &&& 31)) &&& 255) ||| 1) ∧ zr 0 1 (v >>> ((7 : Int32) &&& 31)) := by
    obtain ⟨i, ei⟩ := z_byteF rv
    obtain ⟨m, em⟩ := z_bit1 (z_r1 (σ.1 36 1))
    rw [ei]
    exact ⟨(v_rotf6 i m).1, (v_rotf6 i m).2⟩
  have cM := p_rotM6 (μ := μ) (v := v)
  rw [ef] at cM
  refine zp2_bil p_rotC6 (fun s w1 e => zp2_bir cM (fun t w2 e' => ?_))
  cases e
  cases e'
  obtain ⟨rw1, ro⟩ := hwo
  generalize ((v <<< ((1 : Int32) &&& 31)) &&& 255) ||| 1 = w at rw1
  refine zp2_bur p_by (fun t2 e2 => ?_)
  subst e2
  refine zp2_bir p_even (fun t3 v3 e3 => ?_)
  cases e3
  refine zp2_bur p_put (fun t2 e2 => ?_)
  subst e2
  refine zp2_bur p_put (fun t2 e2 => ?_)
  subst e2
  refine zp2_bur p_put (fun t2 e2 => ?_)
  have eF : pt (pt (pt (gby (pt (σ.1 36 1) 0 (if v >>> ((7 : Int32) &&& 31) = 1 then 1 else 0)) w) 2 (gev w)) 4 0) 1 0 = crot w (v >>> ((7 : Int32) &&& 31)) := by
    rw [← v_rt rw1 ro, fl_of hf, pt_0, fl_by, pt_2, pt_4, pt_1]
    rfl
  rw [eF] at e2
  subst e2
  have rF : zr 0 255 (crot w (v >>> ((7 : Int32) &&& 31))) := by rw [← v_rt rw1 ro]; exact zfl_r _ _ _ _ _ _ _ _
  exact k _ _ w ((h.onC hI (Or.inl rfl) (zrg_b (Or.inl (by decide)) rF)).onM hI (Or.inl rfl)) rfl (zQ.wi zQ.rf rfl) (zQ.wi zQ.rf rfl) rw1
theorem t_rot7 (hI : zIoK I) (h : zTT I σ μ) (hF : zF σ μ) {v : Int32} (rv : zr 0 255 v) {α β : Type} {Q : α → β → Prop} {f : zSt → Int32 → Option α} {g : zSt → Int32 → Option β} (k : ∀ s t w, zTT I s t → zF s t → zQ [] [(36, 1, 1)] [] [] σ s → zQ [] [(3, 1, 1)] [] [] μ t → zr 0 255 w → zp2 (f s w) (g t w) Q) : zp2 (zbi (fX5_turn σ 7 v) f) (zbi (fX12_turned μ 7 v) (fun σ10 v11 => zbu (fX12_by σ10 v11) (fun σ12 => zbi (fX12_isEven σ12 v11) (fun σ13 v14 => zbu (fX12_put σ13 2 v14) (fun σ15 => zbu (fX12_put σ15 4 0) (fun σ16 => zbu (fX12_put σ16 1 0) (fun σ17 => g σ17 v11))))))) Q := by
  have ef : μ.1 3 1 = σ.1 36 1 := hF
  have hf : zr 0 255 (σ.1 36 1) := h.b (by decide)
  have hwo : zr 0 255 ((v >>> ((1 : Int32) &&& 31)) ||| (0 <<< ((7 : Int32) &&& 31))) ∧ zr 0 1 (v &&& 1) := by
    obtain ⟨i, ei⟩ := z_byteF rv
    obtain ⟨m, em⟩ := z_bit1 (z_r1 (σ.1 36 1))
    rw [ei]
    exact ⟨(v_rotf7 i m).1, (v_rotf7 i m).2⟩
  have cM := p_rotM7 (μ := μ) (v := v)
  rw [ef] at cM
  refine zp2_bil p_rotC7 (fun s w1 e => zp2_bir cM (fun t w2 e' => ?_))
  cases e
  cases e'
  obtain ⟨rw1, ro⟩ := hwo
  generalize (v >>> ((1 : Int32) &&& 31)) ||| (0 <<< ((7 : Int32) &&& 31)) = w at rw1
  refine zp2_bur p_by (fun t2 e2 => ?_)
  subst e2
  refine zp2_bir p_even (fun t3 v3 e3 => ?_)
  cases e3
  refine zp2_bur p_put (fun t2 e2 => ?_)
  subst e2
  refine zp2_bur p_put (fun t2 e2 => ?_)
  subst e2
  refine zp2_bur p_put (fun t2 e2 => ?_)
  have eF : pt (pt (pt (gby (pt (σ.1 36 1) 0 (if v &&& 1 = 1 then 1 else 0)) w) 2 (gev w)) 4 0) 1 0 = crot w (v &&& 1) := by
    rw [← v_rt rw1 ro, fl_of hf, pt_0, fl_by, pt_2, pt_4, pt_1]
    rfl
  rw [eF] at e2
  subst e2
  have rF : zr 0 255 (crot w (v &&& 1)) := by rw [← v_rt rw1 ro]; exact zfl_r _ _ _ _ _ _ _ _
  exact k _ _ w ((h.onC hI (Or.inl rfl) (zrg_b (Or.inl (by decide)) rF)).onM hI (Or.inl rfl)) rfl (zQ.wi zQ.rf rfl) (zQ.wi zQ.rf rfl) rw1
theorem e_tC {op v : Int32} (hx : op >>> ((6 : Int32) &&& 31) = 0) : fX5_turned σ op v = fX5_turn σ ((op >>> ((3 : Int32) &&& 31)) &&& 7) v := by
  unfold fX5_turned
  rw [hx]
  have e : ∀ y, (if (0 : Int32) = 0 then zbi (fX5_turn σ y v) (fun σ2 v3 => some (σ2, v3)) else if (0 : Int32) = 2 then some (σ, v &&& (((1 : Int32) <<< (y &&& 31)) ^^^ (-1))) else some (σ, v ||| ((1 : Int32) <<< (y &&& 31)))) = fX5_turn σ y v := fun y => by
    rw [if_pos rfl]
    cases fX5_turn σ y v with
    | none => rfl
    | some r => rfl
  exact e _
/-- rotations, RES and SET -/
theorem t_tk (hI : zIoK I) (h : zTT I σ μ) (hF : zF σ μ) {op v : Int32} (hx : zr 0 3 (op >>> ((6 : Int32) &&& 31))) (hx1 : ¬ op >>> ((6 : Int32) &&& 31) = 1) (rv : zr 0 255 v) {α β : Type} {Q : α → β → Prop} {f : zSt → Int32 → Option α} {g : zSt → Int32 → Option β} (k : ∀ s t w, zTT I s t → zF s t → zQ [] [(36, 1, 1)] [] [] σ s → zQ [] [(3, 1, 1)] [] [] μ t → zr 0 255 w → zp2 (f s w) (g t w) Q) : zp2 (zbi (fX5_turned σ op v) f) (if op >>> ((6 : Int32) &&& 31) = 0 then zbi (fX12_turned μ ((op >>> ((3 : Int32) &&& 31)) &&& 7) v) (fun σ10 v11 => zbu (fX12_by σ10 v11) (fun σ12 => zbi (fX12_isEven σ12 v11) (fun σ13 v14 => zbu (fX12_put σ13 2 v14) (fun σ15 => zbu (fX12_put σ15 4 0) (fun σ16 => zbu (fX12_put σ16 1 0) (fun σ17 => g σ17 v11)))))) else if op >>> ((6 : Int32) &&& 31) = 2 then g μ (v &&& ((1 <<< (((op >>> ((3 : Int32) &&& 31)) &&& 7) &&& 31)) ^^^ (-1))) else g μ (v ||| (1 <<< (((op >>> ((3 : Int32) &&& 31)) &&& 7) &&& 31)))) Q := by
  have hy : zr 0 7 ((op >>> ((3 : Int32) &&& 31)) &&& 7) := z_r7 _
  by_cases x0 : op >>> ((6 : Int32) &&& 31) = 0
  · rw [e_tC x0, if_pos x0]
    generalize (op >>> ((3 : Int32) &&& 31)) &&& 7 = y at hy
    rcases zr_hd (c := 0) hy rfl with e | hy
    · subst e; exact t_rot0 hI h hF rv k
    rcases zr_hd (c := 1) hy rfl with e | hy
    · subst e; exact t_rot1 hI h hF rv k
    rcases zr_hd (c := 2) hy rfl with e | hy
    · subst e; exact t_rot2 hI h hF rv k
    rcases zr_hd (c := 3) hy rfl with e | hy
    · subst e; exact t_rot3 hI h hF rv k
    rcases zr_hd (c := 4) hy rfl with e | hy
    · subst e; exact t_rot4 hI h hF rv k
    rcases zr_hd (c := 5) hy rfl with e | hy
    · subst e; exact t_rot5 hI h hF rv k
    rcases zr_hd (c := 6) hy rfl with e | hy
    · subst e; exact t_rot6 hI h hF rv k
    rcases zr_hd (c := 7) hy rfl with e | hy
    · subst e; exact t_rot7 hI h hF rv k
    exact zr_no9 hy (by decide)
  · rw [if_neg x0]
    unfold fX5_turned
    by_cases x2 : op >>> ((6 : Int32) &&& 31) = 2
    · rw [if_pos x2]
      refine zp2_bil (P := fun r => r = (σ, v &&& ((1 <<< (((op >>> ((3 : Int32) &&& 31)) &&& 7) &&& 31)) ^^^ (-1)))) (zpc_bv (fun y ey => zpc_if (fun q => absurd q x0) (fun _ => zpc_if (fun _ => zpc_some (by rw [ey])) (fun q => absurd x2 q)))) (fun s w e => ?_)
      cases e
      exact k _ _ _ h hF zQ.rf zQ.rf (zr_andl (lo := 0) (hi := 255) rv (by decide))
    · rw [if_neg x2]
      refine zp2_bil (P := fun r => r = (σ, v ||| (1 <<< (((op >>> ((3 : Int32) &&& 31)) &&& 7) &&& 31)))) (zpc_bv (fun y ey => zpc_if (fun q => absurd q x0) (fun _ => zpc_if (fun q => absurd q x2) (fun _ => zpc_some (by rw [ey]))))) (fun s w e => ?_)
      cases e
      exact k _ _ _ h hF zQ.rf zQ.rf (z_ob rv (z_1y hy))
theorem t_turns (hI : zIoK I) (h : zTT I σ μ) (hF : zF σ μ) (hW : zWzz σ μ) (hp : zPlc σ μ) (h32 : μ.1 0 32 = 0) {op : Int32} (hx : zr 0 3 (op >>> ((6 : Int32) &&& 31))) : zp2 (fX5_turns σ op) (fX12_turn μ op) (zEnq I) := by
  have hz : zr 0 7 (op &&& 7) := z_r7 _
  have hy : zr 0 7 ((op >>> ((3 : Int32) &&& 31)) &&& 7) := z_r7 _
  unfold fX5_turns fX12_turn
  refine zp2_bvl (fun z ez => zp2_bvr (fun y ey => zp2_ifr (fun _ => ?_) (fun q => absurd h32 q)))
  rw [← ez] at hz ⊢
  rw [← ey] at hy
  unfold fX12_turn_23
  refine zp2_sm (t_one h hp hz) (fun v rv => zp2_bvr (fun x ex => ?_))
  by_cases x1 : op >>> ((6 : Int32) &&& 31) = 1
  · have x1' : x = 1 := ex.trans x1
    refine zp2_ifl (fun _ => zp2_ifr (fun _ => ?_) (fun q => absurd x1' q)) (fun q => absurd x1 q)
    refine zp2_bvr (fun w ew => zp2_bur p_by' (fun t2 e2 => ?_))
    subst e2
    have rw1 : zr 0 255 w := by rw [ew]; exact zr_andl (lo := 0) (hi := 255) rv (by decide)
    unfold fX5_turns_47 fX5_turns_63
    intro r r' er er'
    have em := p_bitM (μ := μ) (f := gby (μ.1 3 1) w) (z := z) (v := v) (w := w) r' er'
    have hf : zr 0 255 (σ.1 36 1) := h.b (by decide)
    have r20 : zr 0 255 (σ.1 36 20 >>> ((8 : Int32) &&& 31)) := z_hi (h.w (j := 20) (by decide) (by decide))
    have ef : μ.1 3 1 = σ.1 36 1 := hF
    have ew20 : μ.1 3 20 = σ.1 36 20 := hW
    have hs : zr 0 255 (if z = 6 then σ.1 36 20 >>> ((8 : Int32) &&& 31) else v) := by
      by_cases q : z = 6
      · rw [if_pos q]; exact r20
      · rw [if_neg q]; exact rv
    rw [ef, ew20, v_bit hf rw1 hs] at em
    have cC : zpc (if z = 6 then zck (zin 20 29) (zbu (fX5_askBit σ ((op >>> ((3 : Int32) &&& 31)) &&& 7) v ((zgi σ 36 (20 : Int32).toNatClampNeg) >>> ((8 : Int32) &&& 31))) (fun σ1 => if z = 6 then some (σ1, (12 : Int32)) else some (σ1, 8))) else zbu (fX5_askBit σ ((op >>> ((3 : Int32) &&& 31)) &&& 7) v v) (fun σ1 => if z = 6 then some (σ1, (12 : Int32)) else some (σ1, 8))) (fun r => r = (zsi σ 36 1 (cbit (σ.1 36 1) w (if z = 6 then σ.1 36 20 >>> ((8 : Int32) &&& 31) else v)), if z = 6 then 12 else 8)) := by
      refine zpc_if (fun q => zpc_ck (zpc_bu p_bitC (fun s e => zpc_if (fun _ => zpc_some ?_) (fun n => absurd q n)))) (fun q => zpc_bu p_bitC (fun s e => zpc_if (fun n => absurd n q) (fun _ => zpc_some ?_)))
      · rw [e, if_pos q, if_pos q, ew, ey]; rfl
      · rw [e, if_neg q, if_neg q, ew, ey]
    rw [cC r er, em]
    exact ⟨(h.onC hI (Or.inl rfl) (zrg_b (Or.inl (by decide)) (r_bit hf rw1 hs))).onM hI (Or.inl rfl), rfl, hW, rfl⟩
  · have x1' : ¬ x = 1 := fun q => x1 (ex.symm.trans q)
    refine zp2_ifl (fun q => absurd q x1) (fun _ => zp2_ifr (fun q => absurd q x1') (fun _ => ?_))
    rw [ex, ey]
    unfold fX12_turn_191
    refine t_tk hI h hF hx x1 rv (g := fun t w => fX12_turn_193 t z w) (fun s t w h1 f1 qc qm rw1 => ?_)
    unfold fX12_turn_193 fX12_turn_219 fX5_turns_88
    refine zp2_buu (t_putOne hI h1 (hp.of (qc.1 7 5 rfl) (qc.1 36 6 rfl) (qc.1 36 7 rfl) (qm.1 3 20 rfl) (qm.1 0 32 rfl)) hz (z_m255 rw1) rw1) (fun s2 t2 q => zp2_bvr (fun t3 g3 => ?_))
    obtain ⟨h2, qc2, qm2⟩ := q
    subst g3
    have h3 : zTT I s2 (zsi t2 0 33 w) := h2.m33 hI
    have f3 : zF s2 (zsi t2 0 33 w) := f1.of (qc2.1 36 1 rfl) (qm2.1 3 1 rfl)
    have w3 : zWzz s2 (zsi t2 0 33 w) := hW.of ((qc2.1 36 20 rfl).trans (qc.1 36 20 rfl)) ((qm2.1 3 20 rfl).trans (qm.1 3 20 rfl))
    exact zp2_if (fun _ => zp2_some ⟨h3, f3, w3, rfl⟩) (fun _ => zp2_some ⟨h3, f3, w3, rfl⟩)
end ZCB
end ZJN3
