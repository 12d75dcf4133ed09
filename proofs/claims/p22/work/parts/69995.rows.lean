/-! EVERY CALL KEEPS THE WHOLE RELATION -/
section ZG5
variable {K K0 n k s : Int} {σ μ : zSt} {o : Nat → Int64}
theorem zAll.mono {K K' : Int} (h : zAll K σ μ) (c : K ≤ K') : zAll K' σ μ := by
  obtain ⟨⟨C, hC, a⟩, b, d⟩ := h
  refine ⟨⟨C, Int.le_trans hC c, a⟩, b, fun q => ?_⟩
  obtain ⟨D, hD, e⟩ := d q
  exact ⟨D, Int.le_trans hD c, e⟩
theorem zRM.pic (h : zRM K0 n k s μ) : (μ.2 4 2).toInt ≤ 268435456 := by
  obtain ⟨c, G, i, a, b, e0, e1, e2⟩ := h
  have q : (μ.2 4 2).toInt = G 101 := i.fl 1 (4, 2) rfl
  have z := a.2.2.2.2.1
  omega
theorem zRM.svd (h : zRM K0 n k s μ) : (μ.1 0 19).toInt = s := by
  obtain ⟨c, G, i, a, b, e0, e1, e2⟩ := h
  exact Eq.trans (i.at 2 (by decide)) e2
theorem zRC.svd {k' : Int} (h : zRC n k' s σ) : (σ.1 0 11).toInt = s := by
  obtain ⟨H, i, e0, e1, e2⟩ := h
  exact Eq.trans (i.fz 1 (0, 11) rfl) e2
theorem z_flag {k' : Int} (a : zRM K0 n k s μ) (b : zRC n k' s σ) : σ.1 0 11 = 0 ↔ μ.1 0 19 = 0 := by
  have x := a.svd
  have y := b.svd
  rw [← Int32.toInt_inj, ← Int32.toInt_inj, x, y]
theorem g_feed (h : zAll K σ μ) (hr : zr 0 262656 (zgi μ 0 2)) {x1 : Int32} {x2 : Int64} {x4 : Int64} {x6 : Int64} : zp2 (fX11_feed σ x1 x2 x4 x6) (fX12_feed μ x1 x2 x4 x6) (fun r r' => zAll K (zRis r) (r'.1)) := fun a b ea eb => by
  obtain ⟨C, hC, n⟩ := h.1
  obtain ⟨m, r6⟩ := b_feed n h.2.1 hr a b ea eb
  exact h.tp hC m r6 (fy_fX11_feed zQ.rf a ea) (fY_fX12_feed zQ.rf b eb)
theorem g_grow (h : zAll K σ μ) (hr : zr 0 262656 (zgi μ 0 2)) {x1 : Int32} : zp2 (fX11_grow σ x1) (fX12_grow μ x1) (fun r r' => zAll K (zRis r) (r'.1)) := fun a b ea eb => by
  obtain ⟨C, hC, n⟩ := h.1
  obtain ⟨m, r6⟩ := b_grow n h.2.1 hr a b ea eb
  exact h.tp hC m r6 (fy_fX11_grow zQ.rf a ea) (fY_fX12_grow zQ.rf b eb)
theorem g_patch (h : zAll K σ μ) (hr : zr 0 262656 (zgi μ 0 2)) {x1 : Int32} {x2 : Int64} : zp2 (fX11_patch σ x1 x2) (fX12_patch μ x1 x2) (fun r r' => zAll K (zRus r) r') := fun a b ea eb => by
  obtain ⟨C, hC, n⟩ := h.1
  obtain ⟨m, r6⟩ := b_patch n h.2.1 hr a b ea eb
  exact h.tp hC m r6 (fy_fX11_patch zQ.rf a ea) (fY_fX12_patch zQ.rf b eb)
theorem g_load (h : zAll K σ μ) (hr : zr 0 262656 (zgi μ 0 2)) : zp2 (fX11_load σ ) (fX12_load μ ) (fun r r' => r.2 = r'.2 → zr 0 512 (r.1.1 1 3) → zr 0 262144 (r.1.1 1 4) → zR6 r.1 r'.1 → zAll K r.1 r'.1) := fun a b ea eb e r3 r4 r6 => by
  obtain ⟨C, hC, n⟩ := h.1
  have m := b_load n h.2.1 hr a b ea eb e r3 r4
  refine zAll.go (B := (K, 0, 0)) h (Int.le_refl _) (C := (C.1, C.2.1, 0)) hC m r6 (fun q => ?_)
  have hM := l_load n.pr.2.2.2.1.2.2.2.1 hr b eb
  rcases k_load a ea with ⟨x1, x2⟩ | ⟨_, σa, _, _, _, x5⟩
  · rcases hM with ⟨y1, y2⟩ | ⟨y1, _⟩
    · refine ⟨?_, ?_, x2.rlo (k := 39) rfl, ?_, y2.rlo (k := 13) rfl, y2.o (k := 0) (a := 3) (b := 3) rfl (by decide) (by decide)⟩
      · rw [← x2.o (k := 0) (a := 11) (b := 11) rfl (j := 11) (by decide) (by decide)]; exact q
      · unfold zsv
        exact List.forall_mem_cons.2 ⟨x2.ro (k := 43) rfl, List.forall_mem_cons.2 ⟨x2.ro (k := 41) rfl, List.forall_mem_cons.2 ⟨x2.ro (k := 37) rfl, List.forall_mem_cons.2 ⟨x2.ro (k := 35) rfl, List.forall_mem_cons.2 ⟨x2.ro (k := 33) rfl, List.forall_mem_cons.2 ⟨x2.ro (k := 31) rfl, List.forall_mem_cons.2 ⟨x2.ro (k := 26) rfl, List.forall_mem_cons.2 ⟨x2.ro (k := 24) rfl, List.forall_mem_cons.2 ⟨x2.ro (k := 22) rfl, List.forall_mem_cons.2 ⟨x2.ro (k := 20) rfl, List.forall_mem_cons.2 ⟨x2.ro (k := 18) rfl, List.forall_mem_cons.2 ⟨x2.ro (k := 16) rfl, fun _ h => absurd h List.not_mem_nil⟩⟩⟩⟩⟩⟩⟩⟩⟩⟩⟩⟩
      · unfold zsm
        exact List.forall_mem_cons.2 ⟨y2.ro (k := 18) rfl, List.forall_mem_cons.2 ⟨y2.ro (k := 17) rfl, List.forall_mem_cons.2 ⟨y2.ro (k := 16) rfl, List.forall_mem_cons.2 ⟨y2.ro (k := 15) rfl, List.forall_mem_cons.2 ⟨y2.ro (k := 14) rfl, List.forall_mem_cons.2 ⟨y2.ro (k := 12) rfl, fun _ h => absurd h List.not_mem_nil⟩⟩⟩⟩⟩⟩
    · exact absurd (e.trans y1) x1
  · exact absurd x5 q
theorem g_card (h : zAll K σ μ) {x1 : Int32} : zp2 (fX11_card σ x1) (fX12_card μ x1) (fun r r' => zAll K (zRis r) (r'.1)) := fun a b ea eb => by
  obtain ⟨C, hC, n⟩ := h.1
  exact h.kp (Int.le_refl _) hC (n.kp (fn_fX11_card zQ.rf a ea) (fN_fX12_card zQ.rf b eb) (by decide +kernel) (by decide +kernel)) (fv_fX11_card zQ.rf a ea) (fV_fX12_card zQ.rf b eb)
theorem g_step (h : zAll K σ μ) (hK : K ≤ 900000000000000) (hP : (μ.2 4 2).toInt ≤ 268435456) {x1 : Int32} : zp2 (fX11_step σ x1) (fX12_step μ x1) (fun r r' => zAll (K + 1000000) (zRis r) (r'.1)) := fun a b ea eb => by
  obtain ⟨C, hC, n⟩ := h.1
  obtain ⟨⟨D, hD, m⟩, _⟩ := a_step n (by omega) (by omega) a b ea eb
  exact h.kp (by omega) (show D.1 ≤ K + 1000000 by omega) m (fv_fX11_step zQ.rf a ea) (fV_fX12_step zQ.rf b eb)
theorem g_picture (h : zAll K σ μ) (hK : K ≤ 900000000000000) (hP : (μ.2 4 2).toInt ≤ 268435456) {x1 : Int32} : zp2 (fX11_picture σ x1) (fX12_picture μ x1) (fun r r' => zAll (K + 1000000) (zRis r) (r'.1)) := fun a b ea eb => by
  obtain ⟨C, hC, n⟩ := h.1
  obtain ⟨⟨D, hD, m⟩, _⟩ := a_picture n (by omega) (by omega) a b ea eb
  exact h.kp (by omega) (show D.1 ≤ K + 1000000 by omega) m (fv_fX11_picture zQ.rf a ea) (fV_fX12_picture zQ.rf b eb)
theorem g_reset (h : zAll K σ μ) : zp2 (fX11_reset σ ) (fX12_reset μ ) (fun r r' => zAll K r r') := fun a b ea eb => by
  obtain ⟨C, hC, n⟩ := h.1
  exact h.kp (Int.le_refl _) (C := (C.1, C.2.1, 0)) hC (b_reset n a b ea eb) (fv_fX11_reset zQ.rf a ea) (fV_fX12_reset zQ.rf b eb)
theorem g_pause (h : zAll K σ μ) : zp2 (fX11_pause σ ) (fX12_pause μ ) (fun r r' => zAll K r.1 (r'.1)) := fun a b ea eb => by
  obtain ⟨C, hC, n⟩ := h.1
  exact h.kp (Int.le_refl _) hC (b_pause n a b ea eb) (fv_fX11_pause zQ.rf a ea) (fV_fX12_pause zQ.rf b eb)
theorem g_press (h : zAll K σ μ) {x1 : Int32} {x2 : Int32} : zp2 (fX11_press σ x1 x2) (fX12_press μ x1 x2) (fun r r' => zAll K (zRus r) r') := fun a b ea eb => by
  obtain ⟨C, hC, n⟩ := h.1
  exact h.kp (Int.le_refl _) hC (b_press n a b ea eb) (fv_fX11_press zQ.rf a ea) (fV_fX12_press zQ.rf b eb)
theorem g_start (h : zAll K σ μ) {x1 : Int32} : zp2 (fX11_start σ x1) (fX12_start μ x1) (fun r r' => zAll K r r') := fun a b ea eb => by
  obtain ⟨C, hC, n⟩ := h.1
  exact h.kp (Int.le_refl _) hC (b_start n a b ea eb) (fv_fX11_start zQ.rf a ea) (fV_fX12_start zQ.rf b eb)
theorem g_line (h : zAll K σ μ) {x1 : Int32} {x2 : Int32} : zp2 (fX11_line σ x1 x2) (fX12_line μ x1 x2) (fun r r' => zAll K (zRus r) r') := fun a b ea eb => by
  obtain ⟨C, hC, n⟩ := h.1
  exact h.kp (Int.le_refl _) hC (b_line n a b ea eb) (fv_fX11_line zQ.rf a ea) (fV_fX12_line zQ.rf b eb)
theorem g_plan (h : zAll K σ μ) {x1 : Int32} {x2 : Int32} {x3 : Int32} : zp2 (fX11_plan σ x1 x2 x3) (fX12_plan μ x1 x2 x3) (fun r r' => zAll K (zRis r) (r'.1)) := fun a b ea eb => by
  obtain ⟨C, hC, n⟩ := h.1
  exact h.kp (Int.le_refl _) hC (b_plan n a b ea eb).1 (fv_fX11_plan zQ.rf a ea) (fV_fX12_plan zQ.rf b eb)
theorem g_tell (h : zAll K σ μ) {x1 : Int32} : zp2 (fX11_tell σ x1) (fX12_tell μ x1) (fun r r' => zAll K r.1 (r'.1)) := fun a b ea eb => by
  obtain ⟨C, hC, n⟩ := h.1
  exact h.kp (Int.le_refl _) hC (n.kp (fn_fX11_tell zQ.rf a ea) (fN_fX12_tell zQ.rf b eb) (by decide +kernel) (by decide +kernel)) (fv_fX11_tell zQ.rf a ea) (fV_fX12_tell zQ.rf b eb)
theorem g_text (h : zAll K σ μ) {x1 : Int32} : zp2 (fX11_text σ x1) (fX12_text μ x1) (fun r r' => zAll K (zRls r) (r'.1)) := fun a b ea eb => by
  obtain ⟨C, hC, n⟩ := h.1
  exact h.kp (Int.le_refl _) hC (n.kp (fn_fX11_text zQ.rf a ea) (fN_fX12_text zQ.rf b eb) (by decide +kernel) (by decide +kernel)) (fv_fX11_text zQ.rf a ea) (fV_fX12_text zQ.rf b eb)
theorem g_stop (h : zAll K σ μ) {x1 : Int32} {x2 : Int32} : zp2 (fX11_stop σ x1 x2) (fX12_stop μ x1 x2) (fun r r' => zAll K (zRis r) (r'.1)) := fun a b ea eb => by
  obtain ⟨C, hC, n⟩ := h.1
  exact h.kp (Int.le_refl _) hC (b_stop n a b ea eb) (fv_fX11_stop zQ.rf a ea) (fV_fX12_stop zQ.rf b eb)
theorem g_register (h : zAll K σ μ) {x1 : Int32} : zp2 (fX11_register σ x1) (fX12_register μ x1) (fun r r' => zAll K (zRis r) (r'.1)) := fun a b ea eb => by
  obtain ⟨C, hC, n⟩ := h.1
  exact h.kp (Int.le_refl _) hC (n.kp (fn_fX11_register zQ.rf a ea) (fN_fX12_register zQ.rf b eb) (by decide +kernel) (by decide +kernel)) (fv_fX11_register zQ.rf a ea) (fV_fX12_register zQ.rf b eb)
theorem g_set (h : zAll K σ μ) {x1 : Int32} {x2 : Int32} : zp2 (fX11_set σ x1 x2) (fX12_set μ x1 x2) (fun r r' => zAll K (zRus r) r') := fun a b ea eb => by
  obtain ⟨C, hC, n⟩ := h.1
  exact h.kp (Int.le_refl _) hC (b_set n a b ea eb) (fv_fX11_set zQ.rf a ea) (fV_fX12_set zQ.rf b eb)
theorem g_peek (h : zAll K σ μ) {x1 : Int32} : zp2 (fX11_peek σ x1) (fX12_peek μ x1) (fun r r' => zAll K r.1 (r'.1)) := fun a b ea eb => by
  obtain ⟨C, hC, n⟩ := h.1
  exact h.kp (Int.le_refl _) hC (n.kp (fn_fX11_peek zQ.rf a ea) (fN_fX12_peek zQ.rf b eb) (by decide +kernel) (by decide +kernel)) (fv_fX11_peek zQ.rf a ea) (fV_fX12_peek zQ.rf b eb)
theorem g_poke (h : zAll K σ μ) {x1 : Int32} {x2 : Int32} : zp2 (fX11_poke σ x1 x2) (fX12_poke μ x1 x2) (fun r r' => zAll K r r') := fun a b ea eb => by
  obtain ⟨C, hC, n⟩ := h.1
  exact h.kp (Int.le_refl _) hC (b_poke n a b ea eb) (fv_fX11_poke zQ.rf a ea) (fV_fX12_poke zQ.rf b eb)
theorem g_in (h : zAll K σ μ) {x1 : Int32} : zp2 (fX11_in σ x1) (fX12_in μ x1) (fun r r' => zAll K r.1 (r'.1)) := fun a b ea eb => by
  obtain ⟨C, hC, n⟩ := h.1
  exact h.kp (Int.le_refl _) hC (b_in n a b ea eb).1 (fv_fX11_in zQ.rf a ea) (fV_fX12_in zQ.rf b eb)
theorem g_out (h : zAll K σ μ) {x1 : Int32} {x2 : Int32} : zp2 (fX11_out σ x1 x2) (fX12_out μ x1 x2) (fun r r' => zAll K r r') := fun a b ea eb => by
  obtain ⟨C, hC, n⟩ := h.1
  exact h.kp (Int.le_refl _) hC (b_out n a b ea eb) (fv_fX11_out zQ.rf a ea) (fV_fX12_out zQ.rf b eb)
theorem g_battery (h : zAll K σ μ) {x1 : Int32} : zp2 (fX11_battery σ x1) (fX12_battery μ x1) (fun r r' => zAll K (zRis r) (r'.1)) := fun a b ea eb => by
  obtain ⟨C, hC, n⟩ := h.1
  exact h.kp (Int.le_refl _) hC (n.kp (fn_fX11_battery zQ.rf a ea) (fN_fX12_battery zQ.rf b eb) (by decide +kernel) (by decide +kernel)) (fv_fX11_battery zQ.rf a ea) (fV_fX12_battery zQ.rf b eb)
theorem g_wipe (h : zAll K σ μ) : zp2 (fX11_wipe σ ) (fX12_wipe μ ) (fun r r' => zAll K r r') := fun a b ea eb => by
  obtain ⟨C, hC, n⟩ := h.1
  exact h.kp (Int.le_refl _) hC (b_wipe n a b ea eb) (fv_fX11_wipe zQ.rf a ea) (fV_fX12_wipe zQ.rf b eb)
theorem g_video (h : zAll K σ μ) {x1 : Int32} : zp2 (fX11_video σ x1) (fX12_video μ x1) (fun r r' => zAll K r.1 (r'.1)) := fun a b ea eb => by
  obtain ⟨C, hC, n⟩ := h.1
  exact h.kp (Int.le_refl _) hC (n.kp (fn_fX11_video zQ.rf a ea) (fN_fX12_video zQ.rf b eb) (by decide +kernel) (by decide +kernel)) (fv_fX11_video zQ.rf a ea) (fV_fX12_video zQ.rf b eb)
theorem g_chip (h : zAll K σ μ) {x1 : Int32} : zp2 (fX11_chip σ x1) (fX12_chip μ x1) (fun r r' => zAll K (zRis r) (r'.1)) := fun a b ea eb => by
  obtain ⟨C, hC, n⟩ := h.1
  exact h.kp (Int.le_refl _) hC (n.kp (fn_fX11_chip zQ.rf a ea) (fN_fX12_chip zQ.rf b eb) (by decide +kernel) (by decide +kernel)) (fv_fX11_chip zQ.rf a ea) (fV_fX12_chip zQ.rf b eb)
theorem g_dot (h : zAll K σ μ) {x1 : Int32} {x2 : Int32} : zp2 (fX11_dot σ x1 x2) (fX12_dot μ x1 x2) (fun r r' => zAll K (zRis r) (r'.1)) := fun a b ea eb => by
  obtain ⟨C, hC, n⟩ := h.1
  exact h.kp (Int.le_refl _) hC (n.kp (fn_fX11_dot zQ.rf a ea) (fN_fX12_dot zQ.rf b eb) (by decide +kernel) (by decide +kernel)) (fv_fX11_dot zQ.rf a ea) (fV_fX12_dot zQ.rf b eb)
theorem g_row (h : zAll K σ μ) {x1 : Int32} : zp2 (fX11_row σ x1) (fX12_row μ x1) (fun r r' => zAll K (zRis r) (r'.1)) := fun a b ea eb => by
  obtain ⟨C, hC, n⟩ := h.1
  exact h.kp (Int.le_refl _) hC (n.kp (fn_fX11_row zQ.rf a ea) (fN_fX12_row zQ.rf b eb) (by decide +kernel) (by decide +kernel)) (fv_fX11_row zQ.rf a ea) (fV_fX12_row zQ.rf b eb)
theorem g_hear (h : zAll K σ μ) : zp2 (fX11_hear σ ) (fX12_hear μ ) (fun r r' => zAll K (zRls r) (r'.1)) := fun a b ea eb => by
  obtain ⟨C, hC, n⟩ := h.1
  exact h.kp (Int.le_refl _) hC (n.kp (fn_fX11_hear zQ.rf a ea) (fN_fX12_hear zQ.rf b eb) (by decide +kernel) (by decide +kernel)) (fv_fX11_hear zQ.rf a ea) (fV_fX12_hear zQ.rf b eb)
theorem g_mix (h : zAll K σ μ) : zp2 (fX11_mix σ ) (fX12_mix μ ) (fun r r' => zAll K (zRls r) (r'.1)) := fun a b ea eb => by
  obtain ⟨C, hC, n⟩ := h.1
  exact h.kp (Int.le_refl _) hC (n.kp (fn_fX11_mix zQ.rf a ea) (fN_fX12_mix zQ.rf b eb) (by decide +kernel) (by decide +kernel)) (fv_fX11_mix zQ.rf a ea) (fV_fX12_mix zQ.rf b eb)
theorem g_wave (h : zAll K σ μ) {x1 : Int32} : zp2 (fX11_wave σ x1) (fX12_wave μ x1) (fun r r' => zAll K (zRis r) (r'.1)) := fun a b ea eb => by
  obtain ⟨C, hC, n⟩ := h.1
  exact h.kp (Int.le_refl _) hC (n.kp (fn_fX11_wave zQ.rf a ea) (fN_fX12_wave zQ.rf b eb) (by decide +kernel) (by decide +kernel)) (fv_fX11_wave zQ.rf a ea) (fV_fX12_wave zQ.rf b eb)
theorem g_sound (h : zAll K σ μ) {x1 : Int32} : zp2 (fX11_sound σ x1) (fX12_sound μ x1) (fun r r' => zAll K (zRis r) (r'.1)) := fun a b ea eb => by
  obtain ⟨C, hC, n⟩ := h.1
  exact h.kp (Int.le_refl _) hC (n.kp (fn_fX11_sound zQ.rf a ea) (fN_fX12_sound zQ.rf b eb) (by decide +kernel) (by decide +kernel)) (fv_fX11_sound zQ.rf a ea) (fV_fX12_sound zQ.rf b eb)
theorem g_trace (h : zAll K σ μ) {x1 : Int32} : zp2 (fX11_trace σ x1) (fX12_trace μ x1) (fun r r' => zAll K r.1 (r'.1)) := fun a b ea eb => by
  obtain ⟨C, hC, n⟩ := h.1
  exact h.kp (Int.le_refl _) hC (n.kp (fn_fX11_trace zQ.rf a ea) (fN_fX12_trace zQ.rf b eb) (by decide +kernel) (by decide +kernel)) (fv_fX11_trace zQ.rf a ea) (fV_fX12_trace zQ.rf b eb)
theorem g_look (h : zAll K σ μ) {x1 : Int32} : zp2 (fX11_look σ x1) (fX12_look μ x1) (fun r r' => zAll K (zRls r) (r'.1)) := fun a b ea eb => by
  obtain ⟨C, hC, n⟩ := h.1
  exact h.kp (Int.le_refl _) hC (n.kp (fn_fX11_look zQ.rf a ea) (fN_fX12_look zQ.rf b eb) (by decide +kernel) (by decide +kernel)) (fv_fX11_look zQ.rf a ea) (fV_fX12_look zQ.rf b eb)
theorem r_feed (h : zAll K σ μ) (hr : zr 0 262656 (zgi μ 0 2)) {x1 : Int32} {x2 : Int64} {x4 : Int64} {x6 : Int64} : zp2 (fL_feed o σ x1 x2 x4 x6) (fX12_feed μ x1 x2 x4 x6) (fun r r' => zAll K (r.1.2) (r'.1)) := by
  unfold fL_feed
  exact zp2_hi (I := fun s (r' : zSt × Int32) => zAll K s (r'.1)) (fun _ _ _ h => zh2_st h) (g_feed h hr)
theorem r_grow (h : zAll K σ μ) (hr : zr 0 262656 (zgi μ 0 2)) {x1 : Int32} : zp2 (fL_grow o σ x1) (fX12_grow μ x1) (fun r r' => zAll K (r.1.2) (r'.1)) := by
  unfold fL_grow
  exact zp2_hi (I := fun s (r' : zSt × Int32) => zAll K s (r'.1)) (fun _ _ _ h => zh2_st h) (g_grow h hr)
theorem r_patch (h : zAll K σ μ) (hr : zr 0 262656 (zgi μ 0 2)) {x1 : Int32} {x2 : Int64} : zp2 (fL_patch σ x1 x2) (fX12_patch μ x1 x2) (fun r r' => zAll K (r.1) (r')) := by
  unfold fL_patch
  exact zp2_hu (I := fun s (r' : zSt) => zAll K s (r')) (fun _ _ _ h => zh1_st h) (g_patch h hr)
theorem r_card (h : zAll K σ μ) {x1 : Int32} : zp2 (fL_card o σ x1) (fX12_card μ x1) (fun r r' => zAll K (r.1.2) (r'.1)) := by
  unfold fL_card
  exact zp2_hi (I := fun s (r' : zSt × Int32) => zAll K s (r'.1)) (fun _ _ _ h => zh1_st h) (g_card h)
theorem r_step (h : zAll K σ μ) (hK : K ≤ 900000000000000) (hP : (μ.2 4 2).toInt ≤ 268435456) {x1 : Int32} : zp2 (fL_step o σ x1) (fX12_step μ x1) (fun r r' => zAll (K + 1000000) (r.1.2) (r'.1)) := by
  unfold fL_step
  exact zp2_hi (I := fun s (r' : zSt × Int32) => zAll (K + 1000000) s (r'.1)) (fun _ _ _ h => zh1_st h) (g_step h hK hP)
theorem r_picture (h : zAll K σ μ) (hK : K ≤ 900000000000000) (hP : (μ.2 4 2).toInt ≤ 268435456) {x1 : Int32} : zp2 (fL_picture o σ x1) (fX12_picture μ x1) (fun r r' => zAll (K + 1000000) (r.1.2) (r'.1)) := by
  unfold fL_picture
  exact zp2_hi (I := fun s (r' : zSt × Int32) => zAll (K + 1000000) s (r'.1)) (fun _ _ _ h => zh1_st h) (g_picture h hK hP)
theorem r_press (h : zAll K σ μ) {x1 : Int32} {x2 : Int32} : zp2 (fL_press σ x1 x2) (fX12_press μ x1 x2) (fun r r' => zAll K (r.1) (r')) := by
  unfold fL_press
  exact zp2_hu (I := fun s (r' : zSt) => zAll K s (r')) (fun _ _ _ h => zh1_st h) (g_press h)
theorem r_line (h : zAll K σ μ) {x1 : Int32} {x2 : Int32} : zp2 (fL_line σ x1 x2) (fX12_line μ x1 x2) (fun r r' => zAll K (r.1) (r')) := by
  unfold fL_line
  exact zp2_hu (I := fun s (r' : zSt) => zAll K s (r')) (fun _ _ _ h => zh1_st h) (g_line h)
theorem r_plan (h : zAll K σ μ) {x1 : Int32} {x2 : Int32} {x3 : Int32} : zp2 (fL_plan o σ x1 x2 x3) (fX12_plan μ x1 x2 x3) (fun r r' => zAll K (r.1.2) (r'.1)) := by
  unfold fL_plan
  exact zp2_hi (I := fun s (r' : zSt × Int32) => zAll K s (r'.1)) (fun _ _ _ h => zh2_st h) (g_plan h)
theorem r_text (h : zAll K σ μ) {x1 : Int32} : zp2 (fL_text o σ x1) (fX12_text μ x1) (fun r r' => zAll K (r.1.2) (r'.1)) := by
  unfold fL_text
  exact zp2_hl (I := fun s (r' : zSt × Int64) => zAll K s (r'.1)) (fun _ _ _ h => zh1_st h) (g_text h)
theorem r_stop (h : zAll K σ μ) {x1 : Int32} {x2 : Int32} : zp2 (fL_stop o σ x1 x2) (fX12_stop μ x1 x2) (fun r r' => zAll K (r.1.2) (r'.1)) := by
  unfold fL_stop
  exact zp2_hi (I := fun s (r' : zSt × Int32) => zAll K s (r'.1)) (fun _ _ _ h => zh2_st h) (g_stop h)
theorem r_restore (h : zAll K σ μ) (hf : σ.1 0 11 = 0 ↔ μ.1 0 19 = 0) : zp2 (fL_restore σ ) (fX12_restore μ ) (fun r r' => zAll K (r.1) (r')) := by
  unfold fL_restore
  exact zp2_hu (I := fun s (r' : zSt) => zAll K s (r')) (fun _ _ _ h => zh1_st h) (g_restore h hf)
theorem r_register (h : zAll K σ μ) {x1 : Int32} : zp2 (fL_register o σ x1) (fX12_register μ x1) (fun r r' => zAll K (r.1.2) (r'.1)) := by
  unfold fL_register
  exact zp2_hi (I := fun s (r' : zSt × Int32) => zAll K s (r'.1)) (fun _ _ _ h => zh1_st h) (g_register h)
theorem r_set (h : zAll K σ μ) {x1 : Int32} {x2 : Int32} : zp2 (fL_set σ x1 x2) (fX12_set μ x1 x2) (fun r r' => zAll K (r.1) (r')) := by
  unfold fL_set
  exact zp2_hu (I := fun s (r' : zSt) => zAll K s (r')) (fun _ _ _ h => zh1_st h) (g_set h)
theorem r_battery (h : zAll K σ μ) {x1 : Int32} : zp2 (fL_battery o σ x1) (fX12_battery μ x1) (fun r r' => zAll K (r.1.2) (r'.1)) := by
  unfold fL_battery
  exact zp2_hi (I := fun s (r' : zSt × Int32) => zAll K s (r'.1)) (fun _ _ _ h => zh1_st h) (g_battery h)
theorem r_chip (h : zAll K σ μ) {x1 : Int32} : zp2 (fL_chip o σ x1) (fX12_chip μ x1) (fun r r' => zAll K (r.1.2) (r'.1)) := by
  unfold fL_chip
  exact zp2_hi (I := fun s (r' : zSt × Int32) => zAll K s (r'.1)) (fun _ _ _ h => zh1_st h) (g_chip h)
theorem r_dot (h : zAll K σ μ) {x1 : Int32} {x2 : Int32} : zp2 (fL_dot o σ x1 x2) (fX12_dot μ x1 x2) (fun r r' => zAll K (r.1.2) (r'.1)) := by
  unfold fL_dot
  exact zp2_hi (I := fun s (r' : zSt × Int32) => zAll K s (r'.1)) (fun _ _ _ h => zh1_st h) (g_dot h)
theorem r_row (h : zAll K σ μ) {x1 : Int32} : zp2 (fL_row o σ x1) (fX12_row μ x1) (fun r r' => zAll K (r.1.2) (r'.1)) := by
  unfold fL_row
  exact zp2_hi (I := fun s (r' : zSt × Int32) => zAll K s (r'.1)) (fun _ _ _ h => zh1_st h) (g_row h)
theorem r_hear (h : zAll K σ μ) : zp2 (fL_hear o σ ) (fX12_hear μ ) (fun r r' => zAll K (r.1.2) (r'.1)) := by
  unfold fL_hear
  exact zp2_hl (I := fun s (r' : zSt × Int64) => zAll K s (r'.1)) (fun _ _ _ h => zh1_st h) (g_hear h)
theorem r_mix (h : zAll K σ μ) : zp2 (fL_mix o σ ) (fX12_mix μ ) (fun r r' => zAll K (r.1.2) (r'.1)) := by
  unfold fL_mix
  exact zp2_hl (I := fun s (r' : zSt × Int64) => zAll K s (r'.1)) (fun _ _ _ h => zh1_st h) (g_mix h)
theorem r_wave (h : zAll K σ μ) {x1 : Int32} : zp2 (fL_wave o σ x1) (fX12_wave μ x1) (fun r r' => zAll K (r.1.2) (r'.1)) := by
  unfold fL_wave
  exact zp2_hi (I := fun s (r' : zSt × Int32) => zAll K s (r'.1)) (fun _ _ _ h => zh1_st h) (g_wave h)
theorem r_sound (h : zAll K σ μ) {x1 : Int32} : zp2 (fL_sound o σ x1) (fX12_sound μ x1) (fun r r' => zAll K (r.1.2) (r'.1)) := by
  unfold fL_sound
  exact zp2_hi (I := fun s (r' : zSt × Int32) => zAll K s (r'.1)) (fun _ _ _ h => zh1_st h) (g_sound h)
theorem r_look (h : zAll K σ μ) {x1 : Int32} : zp2 (fL_look o σ x1) (fX12_look μ x1) (fun r r' => zAll K (r.1.2) (r'.1)) := by
  unfold fL_look
  exact zp2_hl (I := fun s (r' : zSt × Int64) => zAll K s (r'.1)) (fun _ _ _ h => zh1_st h) (g_look h)
theorem zAn2.h {o : Nat → Int64} {q : Option zRi} {p : Option (zSt × Int32)} (h : zp2 q p zAn2) : zp2 (zbr q (zhi o zh2)) p zCv := by
  intro a c ea ec
  cases e : q with
  | none => rw [e] at ea; cases ea
  | some r =>
    have i := h r c e ec
    rw [e] at ea
    have ea : zhi o zh2 r = some a := ea
    rcases i with ⟨s, e1, t⟩ | ⟨s, e1, t⟩ | ⟨s, e1, t⟩
    · subst e1
      have ea : (if (1 : Nat) = 1 then some ((o, s), (1 : Int32)) else if (1 : Nat) = 2 then some ((o, s), (2 : Int32)) else none) = some a := ea
      rw [if_pos rfl] at ea
      cases ea
      exact ⟨t, fun z => absurd (show (1 : Int32) = 0 from z) (by decide)⟩
    · subst e1
      have ea : (if (2 : Nat) = 1 then some ((o, s), (1 : Int32)) else if (2 : Nat) = 2 then some ((o, s), (2 : Int32)) else none) = some a := ea
      rw [if_neg (by decide), if_pos rfl] at ea
      cases ea
      exact ⟨t, fun z => absurd (show (2 : Int32) = 0 from z) (by decide)⟩
    · subst e1
      have ea : some ((vp_updL o 0 c.2.toInt64, s), (0 : Int32)) = some a := ea
      cases ea
      refine ⟨t, fun _ => ?_⟩
      show (if (0 : Nat) = 0 then c.2.toInt64 else o 0).toInt = _
      rw [if_pos rfl, Int32.toInt_toInt64]
theorem w_peek (h : zAll K σ μ) (hK : K ≤ 900000000000000) (hP : (μ.2 4 2).toInt ≤ 268435456) {x1 : Int32} : zp2 (fX11_peek σ x1) (fX12_peek μ x1) (fun r r' => r.2 = r'.2) := by
  obtain ⟨C, hC, n⟩ := h.1
  exact v_peek n.1.1.1 n.1.1.2
end ZG5
