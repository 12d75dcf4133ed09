/-! AN INSTRUCTION -/
theorem zsi_cr {ν : zSt} {k l i j : Nat} {v w : Int32} (h : ¬ k = l) : zsi (zsi ν k i v) l j w = zsi (zsi ν l j w) k i v := by
  refine Prod.ext (funext fun a => funext fun b => ?_) rfl
  rw [zsi_at, zsi_at, zsi_at, zsi_at]
  by_cases p : a = l ∧ b = j
  · rw [if_pos p, if_neg (fun q => h (q.1.symm.trans p.1)), if_pos p]
  · rw [if_neg p]
    by_cases q : a = k ∧ b = i
    · rw [if_pos q, if_pos q]
    · rw [if_neg q, if_neg q, if_neg p]
theorem v_opdec : ∀ i : Fin 256, (0 ≤ (Int32.ofNat i.val >>> ((6 : Int32) &&& 31)).toInt ∧ (Int32.ofNat i.val >>> ((6 : Int32) &&& 31)).toInt ≤ 3) ∧ (Int32.ofNat i.val >>> ((6 : Int32) &&& 31) = 3 → ((¬ Int32.ofNat i.val = 203 → Int32.ofNat i.val &&& 7 = 3 → ¬ (Int32.ofNat i.val >>> ((3 : Int32) &&& 31)) &&& 7 = 1) ∧ (¬ Int32.ofNat i.val = 221 → ¬ Int32.ofNat i.val = 237 → ¬ Int32.ofNat i.val = 253 → Int32.ofNat i.val &&& 7 = 5 → ((Int32.ofNat i.val >>> ((3 : Int32) &&& 31)) &&& 7 = 0 ∨ (Int32.ofNat i.val >>> ((3 : Int32) &&& 31)) &&& 7 = 1 ∨ (Int32.ofNat i.val >>> ((3 : Int32) &&& 31)) &&& 7 = 2 ∨ (Int32.ofNat i.val >>> ((3 : Int32) &&& 31)) &&& 7 = 4 ∨ (Int32.ofNat i.val >>> ((3 : Int32) &&& 31)) &&& 7 = 6)))) := by decide +kernel
theorem z_dec {op : Int32} (h : zr 0 255 op) : zr 0 3 (op >>> ((6 : Int32) &&& 31)) ∧ (op >>> ((6 : Int32) &&& 31) = 3 → ((¬ op = 203 → op &&& 7 = 3 → ¬ (op >>> ((3 : Int32) &&& 31)) &&& 7 = 1) ∧ (¬ op = 221 → ¬ op = 237 → ¬ op = 253 → op &&& 7 = 5 → ((op >>> ((3 : Int32) &&& 31)) &&& 7 = 0 ∨ (op >>> ((3 : Int32) &&& 31)) &&& 7 = 1 ∨ (op >>> ((3 : Int32) &&& 31)) &&& 7 = 2 ∨ (op >>> ((3 : Int32) &&& 31)) &&& 7 = 4 ∨ (op >>> ((3 : Int32) &&& 31)) &&& 7 = 6)))) := by
  obtain ⟨i, e⟩ := z_byteF h
  subst e
  exact v_opdec i
/-- both ends, with beats added on both sides -/
def zEn2 (I : zSt → zSt → Prop) (c : Int32) (r : zSt × Int32) (b : zSt × Int32) : Prop := zEnq I r (b.1, b.2 + c)
section ZIN
variable {I : zSt → zSt → Prop} {σ μ : zSt}
/-- the four quarters -/
theorem t_quart (hI : zIoK I) (hPo : zPorts I) (h : zTT I σ μ) (hF : zF σ μ) (hW : zWzz σ μ) (hp : zPlc σ μ) (h28 : σ.1 36 28 = 0) {op x2 : Int32} (ho : zr 0 255 op) (n1 : ¬ op = 203) (n2 : ¬ op = 237) (n3 : ¬ op = 221) (n4 : ¬ op = 253) : zp2 (fX5_carryOn_141 σ op x2) (fX12_plain μ op) (zEn2 I x2) := by
  obtain ⟨rx, d⟩ := z_dec ho
  unfold fX5_carryOn_141 fX5_carryOn_275
  refine zp2_ifl (fun q => absurd q n1) (fun _ => zp2_ifl (fun q => absurd q n2) (fun _ => ?_))
  have fin : ∀ (s : zSt) (v : Int32) (b : zSt × Int32), zEnq I (s, v) b → zp2 (some (s, x2 + v)) (some b) (zEn2 I x2) := fun s v b q => zp2_some (by
    obtain ⟨q1, q2, q3, q4⟩ := q
    refine ⟨q1, q2, q3, ?_⟩
    show b.2 + x2 = x2 + v
    have q4 : b.2 = v := q4
    rw [q4, Int32.add_comm])
  by_cases x0 : op >>> ((6 : Int32) &&& 31) = 0
  · exact zp2_ifl (fun _ => zp2_bilp (t_first hI h hF hW hp x0) fin) (fun q => absurd x0 q)
  by_cases x1 : op >>> ((6 : Int32) &&& 31) = 1
  · exact zp2_ifl (fun q => absurd q x0) (fun _ => zp2_ifl (fun _ => zp2_bilp (t_move hI h hF hW hp x1) fin) (fun q => absurd x1 q))
  by_cases x2' : op >>> ((6 : Int32) &&& 31) = 2
  · exact zp2_ifl (fun q => absurd q x0) (fun _ => zp2_ifl (fun q => absurd q x1) (fun _ => zp2_ifl (fun _ => zp2_bilp (t_dor hI h hF hW hp x2') fin) (fun q => absurd x2' q)))
  have x3 : op >>> ((6 : Int32) &&& 31) = 3 := by
    rcases zr_hd (c := 0) rx rfl with e | rx
    · exact absurd e x0
    rcases zr_hd (c := 1) rx rfl with e | rx
    · exact absurd e x1
    rcases zr_hd (c := 2) rx rfl with e | rx
    · exact absurd e x2'
    rcases zr_hd (c := 3) rx rfl with e | rx
    · exact e
    exact zr_no9 rx (by decide)
  obtain ⟨d1, d2⟩ := d x3
  refine zp2_ifl (fun q => absurd q x0) (fun _ => zp2_ifl (fun q => absurd q x1) (fun _ => zp2_ifl (fun q => absurd q x2') (fun _ => ?_)))
  by_cases z3 : op &&& 7 = 3
  · exact zp2_ifl (fun _ => zp2_bilp (t_lx hI hPo h hF hW h28 x3 z3 (d1 n1 z3)) fin) (fun q => absurd z3 q)
  · exact zp2_ifl (fun q => absurd q z3) (fun _ => zp2_bilp (t_last hI h hF hW x3 z3 (d2 n3 n2 n4)) fin)
/-- the four quarters -/
theorem t_quart_r1 (hI : zIoK I) (hPo : zPorts I) (h : zTT I σ μ) (hF : zF σ μ) (hW : zWzz σ μ) (hp : zPlc σ μ) (h28 : σ.1 36 28 = 0) {op x2 : Int32} (ho : zr 0 255 op) (n1 : ¬ op = 203) (n2 : ¬ op = 237) (n3 : ¬ op = 221) (n4 : ¬ op = 253) : zp2 (fX5_carryOn_141 σ op x2) (fX12_plain_r1 μ op) (zEn2 I x2) := by
  obtain ⟨rx, d⟩ := z_dec ho
  unfold fX5_carryOn_141 fX5_carryOn_275
  refine zp2_ifl (fun q => absurd q n1) (fun _ => zp2_ifl (fun q => absurd q n2) (fun _ => ?_))
  have fin : ∀ (s : zSt) (v : Int32) (b : zSt × Int32), zEnq I (s, v) b → zp2 (some (s, x2 + v)) (some b) (zEn2 I x2) := fun s v b q => zp2_some (by
    obtain ⟨q1, q2, q3, q4⟩ := q
    refine ⟨q1, q2, q3, ?_⟩
    show b.2 + x2 = x2 + v
    have q4 : b.2 = v := q4
    rw [q4, Int32.add_comm])
  by_cases x0 : op >>> ((6 : Int32) &&& 31) = 0
  · exact zp2_ifl (fun _ => zp2_bilp (t_first_r1 hI h hF hW hp x0) fin) (fun q => absurd x0 q)
  by_cases x1 : op >>> ((6 : Int32) &&& 31) = 1
  · exact zp2_ifl (fun q => absurd q x0) (fun _ => zp2_ifl (fun _ => zp2_bilp (t_move_r1 hI h hF hW hp x1) fin) (fun q => absurd x1 q))
  by_cases x2' : op >>> ((6 : Int32) &&& 31) = 2
  · exact zp2_ifl (fun q => absurd q x0) (fun _ => zp2_ifl (fun q => absurd q x1) (fun _ => zp2_ifl (fun _ => zp2_bilp (t_dor_r1 hI h hF hW hp x2') fin) (fun q => absurd x2' q)))
  have x3 : op >>> ((6 : Int32) &&& 31) = 3 := by
    rcases zr_hd (c := 0) rx rfl with e | rx
    · exact absurd e x0
    rcases zr_hd (c := 1) rx rfl with e | rx
    · exact absurd e x1
    rcases zr_hd (c := 2) rx rfl with e | rx
    · exact absurd e x2'
    rcases zr_hd (c := 3) rx rfl with e | rx
    · exact e
    exact zr_no9 rx (by decide)
  obtain ⟨d1, d2⟩ := d x3
  refine zp2_ifl (fun q => absurd q x0) (fun _ => zp2_ifl (fun q => absurd q x1) (fun _ => zp2_ifl (fun q => absurd q x2') (fun _ => ?_)))
  by_cases z3 : op &&& 7 = 3
  · exact zp2_ifl (fun _ => zp2_bilp (t_lx_r1 hI hPo h hF hW h28 x3 z3 (d1 n1 z3)) fin) (fun q => absurd z3 q)
  · exact zp2_ifl (fun q => absurd q z3) (fun _ => zp2_bilp (t_last_r1 hI h hF hW x3 z3 (d2 n3 n2 n4)) fin)
/-- CB and ED -/
theorem t_cb (hI : zIoK I) (h : zTT I σ μ) (hF : zF σ μ) (hW : zWzz σ μ) (hp : zPlc σ μ) (h32 : μ.1 0 32 = 0) {x2 : Int32} : zp2 (fX5_carryOn_141 σ 203 x2) (fX12_plain μ 203) (zEnq I) := by
  unfold fX5_carryOn_141 fX12_plain fX12_plain_160
  refine zp2_ifl (fun _ => ?_) (fun q => absurd rfl q)
  refine zp2_bvr (fun y ey => zp2_bvr (fun z ez => ?_))
  have ey : y = 1 := ey.trans (by decide)
  have ez : z = 3 := ez.trans (by decide)
  subst ey
  subst ez
  refine zp2_ifr (fun q => absurd q (by decide)) (fun _ => zp2_ifr (fun q => absurd q (by decide)) (fun _ => zp2_ifr (fun q => absurd q (by decide)) (fun _ => zp2_ifr (fun q => absurd q (by decide)) (fun _ => ?_))))
  rw [e_th2 (by decide) (by decide)]
  refine zp2_birp (P := zEnq I) ?_ (fun a t w q => zp2_some q)
  unfold fX12_three_88 fX12_turns
  refine zp2_ifr (fun q => absurd q (by decide)) (fun _ => zp2_ifr (fun q => absurd q (by decide)) (fun _ => zp2_ifr (fun q => absurd q (by decide)) (fun _ => zp2_ifr (fun _ => ?_) (fun q => absurd rfl q))))
  refine zp2_birp (P := zEnq I) ?_ (fun a t w q => zp2_some q)
  refine zp2_bii (t_op hI h) (fun s v t v' q => ?_)
  obtain ⟨h1, e1, rv, qc, qm⟩ := q
  have e1 : v' = v := e1
  subst e1
  exact zp2_bii (t_turns hI h1 (hF.of (qc.1 36 1 rfl) (qm.1 3 1 rfl)) (hW.of (qc.1 36 20 rfl) (qm.1 3 20 rfl)) (hp.of (qc.1 7 5 rfl) (qc.1 36 6 rfl) (qc.1 36 7 rfl) (qm.1 3 20 rfl) (qm.1 0 32 rfl)) ((qm.1 0 32 rfl).trans h32) (z_dec rv).1) (fun s v t w q => zp2_some q)
theorem t_edp (hI : zIoK I) (hPo : zPorts I) (h : zTT I σ μ) (hF : zF σ μ) (hW : zWzz σ μ) (hp : zPlc σ μ) {x2 : Int32} : zp2 (fX5_carryOn_141 σ 237 x2) (fX12_plain μ 237) (zEnq I) := by
  unfold fX5_carryOn_141 fX12_plain fX12_plain_160 fX5_carryOn_193
  refine zp2_ifl (fun q => absurd q (by decide)) (fun _ => zp2_ifl (fun _ => ?_) (fun q => absurd rfl q))
  refine zp2_bvr (fun y ey => zp2_bvr (fun z ez => ?_))
  have ey : y = 5 := ey.trans (by decide)
  have ez : z = 5 := ez.trans (by decide)
  subst ey
  subst ez
  refine zp2_ifr (fun q => absurd q (by decide)) (fun _ => zp2_ifr (fun q => absurd q (by decide)) (fun _ => zp2_ifr (fun q => absurd q (by decide)) (fun _ => zp2_ifr (fun _ => ?_) (fun q => absurd (by decide) q))))
  refine zp2_birp (P := zEnq I) ?_ (fun a t w q => zp2_some q)
  unfold fX12_more3 fX12_more3_200
  refine zp2_bvr (fun p ep => zp2_ifr (fun q => absurd q (by decide)) (fun _ => zp2_ifr (fun q => absurd q (by decide)) (fun _ => zp2_ifr (fun q => absurd q (by decide)) (fun _ => zp2_ckr (zp2_ifr (fun q => absurd q (by decide)) (fun _ => ?_))))))
  have ep : p = 2 := ep.trans (by decide)
  subst ep
  refine zp2_ifr (fun q => absurd q (by decide)) (fun _ => zp2_ifr (fun _ => ?_) (fun q => absurd rfl q))
  refine zp2_bii (t_op hI h) (fun s v t v' q => ?_)
  obtain ⟨h1, e1, rv, qc, qm⟩ := q
  have e1 : v' = v := e1
  subst e1
  have F1 := hF.of (qc.1 36 1 rfl) (qm.1 3 1 rfl)
  have W1 := hW.of (qc.1 36 20 rfl) (qm.1 3 20 rfl)
  by_cases b : v' &&& 228 = 160
  · exact zp2_ifl (fun _ => zp2_bii (t_block hI hPo h1 F1 W1 rv b) (fun s v t w q => zp2_some q)) (fun q => absurd b q)
  · exact zp2_ifl (fun q => absurd q b) (fun _ => zp2_bii (t_ed hI hPo h1 F1 W1 (hp.of (qc.1 7 5 rfl) (qc.1 36 6 rfl) (qc.1 36 7 rfl) (qm.1 3 20 rfl) (qm.1 0 32 rfl)) rv b) (fun s v t w q => zp2_some q))
/-! behind a prefix: j is already set -/
theorem zTT.j6 (hI : zIoK I) (h : zTT I σ μ) {w : Int32} (hw : w = 16 ∨ w = 17) : zTT I (zsi σ 7 4 w) (zsi μ 0 31 w) := by
  refine ⟨h.1.keep (zQ.wi zQ.rf rfl) (zQ.wi zQ.rf rfl), ⟨fun j a b c => h.2.1.1 j a b c, h.2.1.2.1, h.2.1.2.2.1, h.2.1.2.2.2⟩, ?_, hI _ _ _ _ h.2.2.2 (zQ.wi zQ.rf rfl) (zQ.wi zQ.rf rfl)⟩
  rcases hw with e | e
  · subst e; exact Or.inr (Or.inl ⟨rfl, rfl⟩)
  · subst e; exact Or.inr (Or.inr ⟨rfl, rfl⟩)
theorem t_nextJ (hI : zIoK I) (h : zTT I σ μ) {w : Int32} : zp2 (fX5_fetch (zsi σ 7 4 w)) (fX12_next μ ) (fun r r' => ∃ s, r.1 = zsi s 7 4 w ∧ zTT I s r'.1 ∧ r'.2 = r.2 ∧ zr 0 255 r.2 ∧ zQ [] [(36, 19, 19)] [] [] σ s ∧ zQ [] [(3, 19, 19)] [] [] μ r'.1) := by
  have hm : zM2 (zsi σ 7 4 w) μ := h.1.keep (zQ.wi zQ.rf rfl) zQ.rf
  unfold fX5_fetch fX12_next
  have e : zgi μ 3 (19 : Int32).toNatClampNeg = zgi (zsi σ 7 4 w) 36 (19 : Int32).toNatClampNeg := h.eq (j := 19) (by decide)
  refine zp2_ckl (zp2_ckr (zp2_rd hm (by rw [e]) (fun v hv => ?_)))
  refine zp2_ckl (zp2_ckl (zp2_bvl (fun s es => zp2_ckr (zp2_ckr (zp2_bvr (fun t et => zp2_some ?_))))))
  refine ⟨zsi σ 36 19 ((σ.1 36 19 + 1) &&& 65535), ?_, ?_, rfl, hv, zQ.wi zQ.rf rfl, ?_⟩
  · rw [es]
    exact zsi_cr (by decide)
  · subst et
    refine h.upd hI [19] (zQ.wi zQ.rf rfl) (zQ.wi zQ.rf rfl) rfl (zAl1 ⟨?_, zrg_w (by decide) (by decide) (z_r16 _)⟩)
    show (μ.1 3 19 + 1) &&& 65535 = (σ.1 36 19 + 1) &&& 65535
    rw [h.eq (by decide)]
  · subst et; exact zQ.wi zQ.rf rfl
theorem zp2_rdE {α β : Type} {Q : α → β → Prop} (h : zM2 σ μ) {x y : Int32} (e : y &&& 65535 = x &&& 65535) {f : zSt → Int32 → Option α} {g : zSt → Int32 → Option β} (k : ∀ v, zr 0 255 v → fX12_read μ y = some (μ, v) → zp2 (f σ v) (g μ v) Q) : zp2 (zbi (fX2_read σ x) f) (zbi (fX12_read μ y) g) Q := by
  intro a b ea eb
  have d := h.rd e
  cases qa : fX2_read σ x with
  | none => rw [qa] at ea; cases ea
  | some r =>
    cases qb : fX12_read μ y with
    | none => rw [qb] at eb; cases eb
    | some r' =>
      obtain ⟨s, v⟩ := r
      obtain ⟨t, v'⟩ := r'
      obtain ⟨q1, q2, q3, q4⟩ := d _ _ qa qb
      have q1 : s = σ := q1
      have q2 : t = μ := q2
      have q3 : v' = v := q3
      subst q1
      subst q2
      subst q3
      rw [qa] at ea
      rw [qb] at eb
      exact k v' q4 qb a b ea eb
theorem t_opJ (hI : zIoK I) (h : zTT I σ μ) {w : Int32} : zp2 (fX5_fetchOp (zsi σ 7 4 w)) (fX12_fetch μ ) (fun r r' => ∃ s, r.1 = zsi s 7 4 w ∧ zTT I s r'.1 ∧ r'.2 = r.2 ∧ zr 0 255 r.2 ∧ zQ [] [(36, 19, 19), (36, 22, 22)] [] [] σ s ∧ zQ [] [(3, 19, 19), (3, 22, 22)] [] [] μ r'.1 ∧ fX12_read μ (zgi μ 3 (19 : Int32).toNatClampNeg) = some (μ, r'.2)) := by
  unfold fX5_fetchOp fX12_fetch
  have c22 : zpc (fX5_growR (zsi σ 7 4 w)) (fun r => r = zsi (zsi σ 36 22 ((σ.1 36 22 &&& 128) ||| ((σ.1 36 22 + 1) &&& 127))) 7 4 w) := by
    unfold fX5_growR
    exact zpc_ck (zpc_ck (zpc_ck (zpc_bv (fun s es => zpc_some (by rw [es]; exact zsi_cr (by decide))))))
  have m22 : ∀ t : zSt, zpc (fX12_grows t) (fun r => r = zsi t 3 22 ((t.1 3 22 &&& 128) ||| ((t.1 3 22 + 1) &&& 127))) := fun t => by
    unfold fX12_grows
    exact zpc_ck (zpc_ck (zpc_ck (zpc_bv (fun s es => zpc_some es))))
  have rr : ∀ x : Int32, zr 0 255 ((x &&& 128) ||| ((x + 1) &&& 127)) := fun x => zr_or (lo := 0) (hi := 255) 8 (zr_andr (lo := 0) (hi := 128) (zr_c (lo := 128) (hi := 128) (by decide)) (by decide)) (zr_andr (lo := 0) (hi := 127) (zr_c (lo := 127) (hi := 127) (by decide)) (by decide)) (by decide)
  have e22 : μ.1 3 22 = σ.1 36 22 := h.eq (by decide)
  have h0 : zTT I (zsi σ 36 22 ((σ.1 36 22 &&& 128) ||| ((σ.1 36 22 + 1) &&& 127))) (zsi μ 3 22 ((σ.1 36 22 &&& 128) ||| ((σ.1 36 22 + 1) &&& 127))) := h.upd hI [22] (zQ.wi zQ.rf rfl) (zQ.wi zQ.rf rfl) rfl (zAl1 ⟨rfl, zrg_b (Or.inr (Or.inr rfl)) (rr _)⟩)
  refine zp2_bul c22 (fun s0 e0 => ?_)
  have hm : zM2 s0 μ := by rw [e0]; exact h.1.keep (zQ.wi (zQ.wi zQ.rf rfl) rfl) zQ.rf
  have e19 : s0.1 36 19 = σ.1 36 19 := by rw [e0]; rfl
  have m19 : μ.1 3 19 = σ.1 36 19 := h.eq (by decide)
  have nx : zp2 (fX5_fetch s0) (fX12_next μ ) (fun r r' => r'.2 = r.2 ∧ zr 0 255 r.2 ∧ r.1 = zsi s0 36 19 ((σ.1 36 19 + 1) &&& 65535) ∧ r'.1 = zsi μ 3 19 ((σ.1 36 19 + 1) &&& 65535) ∧ fX12_read μ (zgi μ 3 (19 : Int32).toNatClampNeg) = some (μ, r'.2)) := by
    unfold fX5_fetch fX12_next
    refine zp2_ckl (zp2_ckr (zp2_rdE hm (by rw [show zgi μ 3 (19 : Int32).toNatClampNeg = σ.1 36 19 from m19, show zgi s0 36 (19 : Int32).toNatClampNeg = σ.1 36 19 from e19]) (fun v hv ee => zp2_ckl (zp2_ckl (zp2_bvl (fun s es => zp2_ckr (zp2_ckr (zp2_bvr (fun t et => zp2_some ⟨rfl, hv, ?_, ?_, ee⟩)))))))))
    · rw [es]
      show zsi s0 36 19 ((s0.1 36 19 + 1) &&& 65535) = _
      rw [e19]
    · rw [et]
      show zsi μ 3 19 ((μ.1 3 19 + 1) &&& 65535) = _
      rw [m19]
  refine zp2_bii nx (fun s v t v' q => ?_)
  obtain ⟨q1, q2, q3, q4, q5⟩ := q
  have q3 : s = zsi s0 36 19 ((σ.1 36 19 + 1) &&& 65535) := q3
  have q4 : t = zsi μ 3 19 ((σ.1 36 19 + 1) &&& 65535) := q4
  refine zp2_bur (m22 t) (fun t2 e2 => zp2_some ?_)
  have e2' : t2 = zsi (zsi μ 3 19 ((σ.1 36 19 + 1) &&& 65535)) 3 22 ((σ.1 36 22 &&& 128) ||| ((σ.1 36 22 + 1) &&& 127)) := by
    rw [e2, q4]
    show zsi (zsi μ 3 19 ((σ.1 36 19 + 1) &&& 65535)) 3 22 ((μ.1 3 22 &&& 128) ||| ((μ.1 3 22 + 1) &&& 127)) = _
    rw [e22]
  refine ⟨zsi (zsi σ 36 22 ((σ.1 36 22 &&& 128) ||| ((σ.1 36 22 + 1) &&& 127))) 36 19 ((σ.1 36 19 + 1) &&& 65535), ?_, ?_, q1, q2, zQ.wi (zQ.wi zQ.rf rfl) rfl, ?_, q5⟩
  · show s = _
    rw [q3, e0]
    exact zsi_cr (by decide)
  · show zTT I _ t2
    rw [e2']
    exact h.upd hI [19, 22] (zQ.wi (zQ.wi zQ.rf rfl) rfl) (zQ.wi (zQ.wi zQ.rf rfl) rfl) rfl (zAl2 ⟨rfl, zrg_w (by decide) (by decide) (z_r16 _)⟩ ⟨rfl, zrg_b (Or.inr (Or.inr rfl)) (rr _)⟩)
  · show zQ _ _ _ _ μ t2
    rw [e2']
    exact zQ.wi (zQ.wi zQ.rf rfl) rfl
end ZIN
