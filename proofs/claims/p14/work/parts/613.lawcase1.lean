def fLaw_627 (xs : Nat → Int32) (L : Nat) (kn : zSt → (Nat → Int64) → zSt → Int32 → Option Int32) (μ : zSt) (o : Nat → Int64) (σ : zSt) (x4 : Int32) : Option Int32 :=
  zck (zin (x4 + 1) L) (if (xs (x4 + 1).toNatClampNeg) = 0 then zbu (fX11_start σ 0) (fun σ47 =>
  zck (zin (x4 + 1) L) (if (xs (x4 + 1).toNatClampNeg) = 0 then zbu (fX12_start μ 0) (fun μ48 =>
  zbv (x4 + 8) (fun v49 => kn μ48 o σ47 v49)) else
  zbu (fX12_start μ 1) (fun μ50 =>
  zbv (x4 + 8) (fun v51 => kn μ50 o σ47 v51)))) else
  zbu (fX11_start σ 1) (fun σ52 =>
  zck (zin (x4 + 1) L) (if (xs (x4 + 1).toNatClampNeg) = 0 then zbu (fX12_start μ 0) (fun μ53 =>
  zbv (x4 + 8) (fun v54 => kn μ53 o σ52 v54)) else
  zbu (fX12_start μ 1) (fun μ55 =>
  zbv (x4 + 8) (fun v56 => kn μ55 o σ52 v56)))))
set_option maxRecDepth 20000 in
set_option maxHeartbeats 4000000 in
theorem bLaw_627 {p : Program} {l : Launch} {e : Env} {s : State} {m : MethodId} {below : List Frame} {meth : Method} {c : Code} {st : Nat → Nat} {D : va_G} {b L : Nat} {xs : Nat → Int32} {ad am : Nat → Nat} {cy cm : Nat → ClassId} {ao : Nat} {co : ClassId} (hC : zC p m c cL_law 8 s #[Value.ref b] wzL_law RL meth ret) (hst : l.stackTraces = false) (hX : va_X b L xs s s.heap) (hbl : b < s.heap.size) (hbA : ¬ (fun q : Nat => s.heap.size ≤ q) b) {n : Nat} {kn : zSt → (Nat → Int64) → zSt → Int32 → Option Int32} (hk : ∀ (H : Heap) (locs : List Loc) (μ : zSt) (o : Nat → Int64) (σ : zSt) (ls : Array Slot) (x4 : Int32) (cells slots : Nat), cells + n ≤ 600128 → slots + 6 * n ≤ 7301064 → zLw st D ad cy am cm ao co μ o σ s H locs → lv_has ls 8 [(4, .int x4), (3, .ref ao), (2, .ref (am 0)), (1, .ref (ad 0)), (0, .ref b)] → kn μ o σ x4 = some 1 → W p l e room_1 s m #[Value.ref b] below meth c H locs cells slots (lw_Z below #[Value.ref b] s) (F0 m 33 ls [])) {H : Heap} {locs : List Loc} {μ : zSt} {o : Nat → Int64} {σ : zSt} {ls : Array Slot} {x4 : Int32} {cells slots : Nat} (hc : cells + (n + 1) ≤ 600128) (hs : slots + 6 * (n + 1) ≤ 7301064) (hI : zLw st D ad cy am cm ao co μ o σ s H locs) (hl : lv_has ls 8 [(4, .int x4), (3, .ref ao), (2, .ref (am 0)), (1, .ref (ad 0)), (0, .ref b)]) (hf : fLaw_627 xs L kn μ o σ x4 = some 1) : W p l e room_1 s m #[Value.ref b] below meth c H locs cells slots (lw_Z below #[Value.ref b] s) (F0 m 627 ls []) := by
  have hx := hC.1
  have hb := hC.2.1
  unfold fLaw_627 at hf
  refine lv_aload_n hx hb dL_law_627 rfl (lv_at hl 3 rfl) ?_
  refine lv_aload_n hx hb dL_law_628 rfl (lv_at hl 4 rfl) ?_
  refine lv_iload hx hb dL_law_629 (lv_at hl 0 rfl) ?_
  refine lv_iconst (v := 1) hx hb dL_law_631 (by decide) ?_
  refine lv_iadd hx hb dL_law_632 ?_
  obtain ⟨q, hf⟩ := zck_use hf
  refine va_sld hx hb hX hbl hbA hI.2.2.2.1 (zin_in q) dL_law_633 ?_
  refine lv_if_eq (tgt := 641) hx hb dL_law_634 (by decide) (fun q => ?_) (fun q => ?_)
  · replace hf := zif_t q hf
    refine lv_iconst (v := 0) hx hb dL_law_641 (by decide) ?_
    obtain ⟨σ47, g47, hf⟩ := zbu_use hf
    refine z_fcallVu (u := wM am cm μ ++ zHo ao co o) (w := wC ad cy) (As := [.int 0]) (rest := []) hC (zI.al hI) (zKC hI.1) (cX11_start_met st l D ad cy σ 0 _ g47) (zgV zw67_19 zw67_20 zw67_21 zw1_2 zw67_22) rfl ⟨rfl, rfl⟩ 1 hdX11_start ⟨Nat.le_of_ble_eq_true rfl, Nat.le_of_ble_eq_true rfl⟩ rfl rfl (wC_e0 ad cy σ) rfl hl rfl (Nat.le_of_ble_eq_true rfl) dL_law_642 ⟨by show cells ≤ 600128; omega, by show slots ≤ 7301064; omega⟩ (fun H locs hI => ?_)
    have hI : zLw st D ad cy am cm ao co μ o σ47 s H locs := zI.ar hI
    refine lv_aload_n hx hb dL_law_645 rfl (lv_at hl 2 rfl) ?_
    refine lv_aload_n hx hb dL_law_646 rfl (lv_at hl 4 rfl) ?_
    refine lv_iload hx hb dL_law_647 (lv_at hl 0 rfl) ?_
    refine lv_iconst (v := 1) hx hb dL_law_649 (by decide) ?_
    refine lv_iadd hx hb dL_law_650 ?_
    obtain ⟨q, hf⟩ := zck_use hf
    refine va_sld hx hb hX hbl hbA hI.2.2.2.1 (zin_in q) dL_law_651 ?_
    refine lv_if_eq (tgt := 659) hx hb dL_law_652 (by decide) (fun q => ?_) (fun q => ?_)
    · replace hf := zif_t q hf
      refine lv_iconst (v := 0) hx hb dL_law_659 (by decide) ?_
      obtain ⟨μ48, g48, hf⟩ := zbu_use hf
      refine z_fcallVu (u := zHo ao co o ++ wC ad cy σ47) (w := wM am cm) (As := [.int 0]) (rest := []) hC (zI.swap hI) (zKM hI.1) (cX12_start_met st l D am cm μ 0 _ g48) (zgV zw68_3 zw68_4 zw68_5 zw1_5 zw68_6) rfl ⟨rfl, rfl⟩ 1 hdX12_start ⟨Nat.le_of_ble_eq_true rfl, Nat.le_of_ble_eq_true rfl⟩ rfl rfl (wM_e0 am cm μ) rfl hl rfl (Nat.le_of_ble_eq_true rfl) dL_law_660 ⟨by show cells ≤ 600128; omega, by show slots ≤ 7301064; omega⟩ (fun H locs hI => ?_)
      have hI : zLw st D ad cy am cm ao co μ48 o σ47 s H locs := zI.swap hI
      refine lv_goto (tgt := 1418) hx hb dL_law_663 (by decide) ?_
      obtain ⟨v49, ev49⟩ : ∃ z : Int32, z = x4 + 8 := ⟨_, rfl⟩
      replace hf := zbv_use ev49 hf
      refine lv_iinc (v := v49) (lv' := [(4, .int v49), (3, .ref ao), (2, .ref (am 0)), (1, .ref (ad 0)), (0, .ref b)]) hx hb dL_law_1418 hl (k := 0) rfl (by rw [ev49]; rfl) (by decide) rfl (fun ls hl => ?_)
      refine lv_goto (tgt := 33) hx hb dL_law_1421 (by decide) ?_
      exact hk _ _ _ _ _ _ _ _ _ (by omega) (by omega) hI (lv_sub hl [0, 1, 2, 3, 4] rfl) hf
    replace hf := zif_f q hf
    refine lv_iconst (v := 1) hx hb dL_law_655 (by decide) ?_
    refine lv_goto (tgt := 660) hx hb dL_law_656 (by decide) ?_
    obtain ⟨μ50, g50, hf⟩ := zbu_use hf
    refine z_fcallVu (u := zHo ao co o ++ wC ad cy σ47) (w := wM am cm) (As := [.int 1]) (rest := []) hC (zI.swap hI) (zKM hI.1) (cX12_start_met st l D am cm μ 1 _ g50) (zgV zw68_3 zw68_4 zw68_5 zw1_5 zw68_6) rfl ⟨rfl, rfl⟩ 1 hdX12_start ⟨Nat.le_of_ble_eq_true rfl, Nat.le_of_ble_eq_true rfl⟩ rfl rfl (wM_e0 am cm μ) rfl hl rfl (Nat.le_of_ble_eq_true rfl) dL_law_660 ⟨by show cells ≤ 600128; omega, by show slots ≤ 7301064; omega⟩ (fun H locs hI => ?_)
    have hI : zLw st D ad cy am cm ao co μ50 o σ47 s H locs := zI.swap hI
    refine lv_goto (tgt := 1418) hx hb dL_law_663 (by decide) ?_
    obtain ⟨v51, ev51⟩ : ∃ z : Int32, z = x4 + 8 := ⟨_, rfl⟩
    replace hf := zbv_use ev51 hf
    refine lv_iinc (v := v51) (lv' := [(4, .int v51), (3, .ref ao), (2, .ref (am 0)), (1, .ref (ad 0)), (0, .ref b)]) hx hb dL_law_1418 hl (k := 0) rfl (by rw [ev51]; rfl) (by decide) rfl (fun ls hl => ?_)
    refine lv_goto (tgt := 33) hx hb dL_law_1421 (by decide) ?_
    exact hk _ _ _ _ _ _ _ _ _ (by omega) (by omega) hI (lv_sub hl [0, 1, 2, 3, 4] rfl) hf
  replace hf := zif_f q hf
  refine lv_iconst (v := 1) hx hb dL_law_637 (by decide) ?_
  refine lv_goto (tgt := 642) hx hb dL_law_638 (by decide) ?_
  obtain ⟨σ52, g52, hf⟩ := zbu_use hf
  refine z_fcallVu (u := wM am cm μ ++ zHo ao co o) (w := wC ad cy) (As := [.int 1]) (rest := []) hC (zI.al hI) (zKC hI.1) (cX11_start_met st l D ad cy σ 1 _ g52) (zgV zw67_19 zw67_20 zw67_21 zw1_2 zw67_22) rfl ⟨rfl, rfl⟩ 1 hdX11_start ⟨Nat.le_of_ble_eq_true rfl, Nat.le_of_ble_eq_true rfl⟩ rfl rfl (wC_e0 ad cy σ) rfl hl rfl (Nat.le_of_ble_eq_true rfl) dL_law_642 ⟨by show cells ≤ 600128; omega, by show slots ≤ 7301064; omega⟩ (fun H locs hI => ?_)
  have hI : zLw st D ad cy am cm ao co μ o σ52 s H locs := zI.ar hI
  refine lv_aload_n hx hb dL_law_645 rfl (lv_at hl 2 rfl) ?_
  refine lv_aload_n hx hb dL_law_646 rfl (lv_at hl 4 rfl) ?_
  refine lv_iload hx hb dL_law_647 (lv_at hl 0 rfl) ?_
  refine lv_iconst (v := 1) hx hb dL_law_649 (by decide) ?_
  refine lv_iadd hx hb dL_law_650 ?_
  obtain ⟨q, hf⟩ := zck_use hf
  refine va_sld hx hb hX hbl hbA hI.2.2.2.1 (zin_in q) dL_law_651 ?_
  refine lv_if_eq (tgt := 659) hx hb dL_law_652 (by decide) (fun q => ?_) (fun q => ?_)
  · replace hf := zif_t q hf
    refine lv_iconst (v := 0) hx hb dL_law_659 (by decide) ?_
    obtain ⟨μ53, g53, hf⟩ := zbu_use hf
    refine z_fcallVu (u := zHo ao co o ++ wC ad cy σ52) (w := wM am cm) (As := [.int 0]) (rest := []) hC (zI.swap hI) (zKM hI.1) (cX12_start_met st l D am cm μ 0 _ g53) (zgV zw68_3 zw68_4 zw68_5 zw1_5 zw68_6) rfl ⟨rfl, rfl⟩ 1 hdX12_start ⟨Nat.le_of_ble_eq_true rfl, Nat.le_of_ble_eq_true rfl⟩ rfl rfl (wM_e0 am cm μ) rfl hl rfl (Nat.le_of_ble_eq_true rfl) dL_law_660 ⟨by show cells ≤ 600128; omega, by show slots ≤ 7301064; omega⟩ (fun H locs hI => ?_)
    have hI : zLw st D ad cy am cm ao co μ53 o σ52 s H locs := zI.swap hI
    refine lv_goto (tgt := 1418) hx hb dL_law_663 (by decide) ?_
    obtain ⟨v54, ev54⟩ : ∃ z : Int32, z = x4 + 8 := ⟨_, rfl⟩
    replace hf := zbv_use ev54 hf
    refine lv_iinc (v := v54) (lv' := [(4, .int v54), (3, .ref ao), (2, .ref (am 0)), (1, .ref (ad 0)), (0, .ref b)]) hx hb dL_law_1418 hl (k := 0) rfl (by rw [ev54]; rfl) (by decide) rfl (fun ls hl => ?_)
    refine lv_goto (tgt := 33) hx hb dL_law_1421 (by decide) ?_
    exact hk _ _ _ _ _ _ _ _ _ (by omega) (by omega) hI (lv_sub hl [0, 1, 2, 3, 4] rfl) hf
  replace hf := zif_f q hf
  refine lv_iconst (v := 1) hx hb dL_law_655 (by decide) ?_
  refine lv_goto (tgt := 660) hx hb dL_law_656 (by decide) ?_
  obtain ⟨μ55, g55, hf⟩ := zbu_use hf
  refine z_fcallVu (u := zHo ao co o ++ wC ad cy σ52) (w := wM am cm) (As := [.int 1]) (rest := []) hC (zI.swap hI) (zKM hI.1) (cX12_start_met st l D am cm μ 1 _ g55) (zgV zw68_3 zw68_4 zw68_5 zw1_5 zw68_6) rfl ⟨rfl, rfl⟩ 1 hdX12_start ⟨Nat.le_of_ble_eq_true rfl, Nat.le_of_ble_eq_true rfl⟩ rfl rfl (wM_e0 am cm μ) rfl hl rfl (Nat.le_of_ble_eq_true rfl) dL_law_660 ⟨by show cells ≤ 600128; omega, by show slots ≤ 7301064; omega⟩ (fun H locs hI => ?_)
  have hI : zLw st D ad cy am cm ao co μ55 o σ52 s H locs := zI.swap hI
  refine lv_goto (tgt := 1418) hx hb dL_law_663 (by decide) ?_
  obtain ⟨v56, ev56⟩ : ∃ z : Int32, z = x4 + 8 := ⟨_, rfl⟩
  replace hf := zbv_use ev56 hf
  refine lv_iinc (v := v56) (lv' := [(4, .int v56), (3, .ref ao), (2, .ref (am 0)), (1, .ref (ad 0)), (0, .ref b)]) hx hb dL_law_1418 hl (k := 0) rfl (by rw [ev56]; rfl) (by decide) rfl (fun ls hl => ?_)
  refine lv_goto (tgt := 33) hx hb dL_law_1421 (by decide) ?_
  exact hk _ _ _ _ _ _ _ _ _ (by omega) (by omega) hI (lv_sub hl [0, 1, 2, 3, 4] rfl) hf
def fLaw_666 (xs : Nat → Int32) (L : Nat) (kn : zSt → (Nat → Int64) → zSt → Int32 → Option Int32) (μ : zSt) (o : Nat → Int64) (σ : zSt) (x4 : Int32) : Option Int32 :=
  zck (zin (x4 + 1) L) (zck (zin (x4 + 2) L) (if (xs (x4 + 2).toNatClampNeg) = 0 then zbi (fL_line σ (xs (x4 + 1).toNatClampNeg) 0) (fun σ57 v58 =>
  zck (zin (x4 + 1) L) (zck (zin (x4 + 2) L) (if (xs (x4 + 2).toNatClampNeg) = 0 then zbu (fX12_line μ (xs (x4 + 1).toNatClampNeg) 0) (fun μ59 =>
  zbv (x4 + 8) (fun v60 => kn μ59 o σ57 v60)) else
  zbu (fX12_line μ (xs (x4 + 1).toNatClampNeg) 1) (fun μ61 =>
  zbv (x4 + 8) (fun v62 => kn μ61 o σ57 v62))))) else
  zbi (fL_line σ (xs (x4 + 1).toNatClampNeg) 1) (fun σ63 v64 =>
  zck (zin (x4 + 1) L) (zck (zin (x4 + 2) L) (if (xs (x4 + 2).toNatClampNeg) = 0 then zbu (fX12_line μ (xs (x4 + 1).toNatClampNeg) 0) (fun μ65 =>
  zbv (x4 + 8) (fun v66 => kn μ65 o σ63 v66)) else
  zbu (fX12_line μ (xs (x4 + 1).toNatClampNeg) 1) (fun μ67 =>
  zbv (x4 + 8) (fun v68 => kn μ67 o σ63 v68)))))))
set_option maxRecDepth 20000 in
set_option maxHeartbeats 4000000 in
theorem bLaw_666 {p : Program} {l : Launch} {e : Env} {s : State} {m : MethodId} {below : List Frame} {meth : Method} {c : Code} {st : Nat → Nat} {D : va_G} {b L : Nat} {xs : Nat → Int32} {ad am : Nat → Nat} {cy cm : Nat → ClassId} {ao : Nat} {co : ClassId} (hC : zC p m c cL_law 8 s #[Value.ref b] wzL_law RL meth ret) (hst : l.stackTraces = false) (hX : va_X b L xs s s.heap) (hbl : b < s.heap.size) (hbA : ¬ (fun q : Nat => s.heap.size ≤ q) b) {n : Nat} {kn : zSt → (Nat → Int64) → zSt → Int32 → Option Int32} (hk : ∀ (H : Heap) (locs : List Loc) (μ : zSt) (o : Nat → Int64) (σ : zSt) (ls : Array Slot) (x4 : Int32) (cells slots : Nat), cells + n ≤ 600128 → slots + 6 * n ≤ 7301064 → zLw st D ad cy am cm ao co μ o σ s H locs → lv_has ls 8 [(4, .int x4), (3, .ref ao), (2, .ref (am 0)), (1, .ref (ad 0)), (0, .ref b)] → kn μ o σ x4 = some 1 → W p l e room_1 s m #[Value.ref b] below meth c H locs cells slots (lw_Z below #[Value.ref b] s) (F0 m 33 ls [])) {H : Heap} {locs : List Loc} {μ : zSt} {o : Nat → Int64} {σ : zSt} {ls : Array Slot} {x4 : Int32} {cells slots : Nat} (hc : cells + (n + 1) ≤ 600128) (hs : slots + 6 * (n + 1) ≤ 7301064) (hI : zLw st D ad cy am cm ao co μ o σ s H locs) (hl : lv_has ls 8 [(4, .int x4), (3, .ref ao), (2, .ref (am 0)), (1, .ref (ad 0)), (0, .ref b)]) (hf : fLaw_666 xs L kn μ o σ x4 = some 1) : W p l e room_1 s m #[Value.ref b] below meth c H locs cells slots (lw_Z below #[Value.ref b] s) (F0 m 666 ls []) := by
  have hx := hC.1
  have hb := hC.2.1
  unfold fLaw_666 at hf
  refine lv_aload_n hx hb dL_law_666 rfl (lv_at hl 3 rfl) ?_
  refine lv_aload_n hx hb dL_law_667 rfl (lv_at hl 4 rfl) ?_
  refine lv_iload hx hb dL_law_668 (lv_at hl 0 rfl) ?_
  refine lv_iconst (v := 1) hx hb dL_law_670 (by decide) ?_
  refine lv_iadd hx hb dL_law_671 ?_
  obtain ⟨q, hf⟩ := zck_use hf
  refine va_sld hx hb hX hbl hbA hI.2.2.2.1 (zin_in q) dL_law_672 ?_
  refine lv_aload_n hx hb dL_law_673 rfl (lv_at hl 4 rfl) ?_
  refine lv_iload hx hb dL_law_674 (lv_at hl 0 rfl) ?_
  refine lv_iconst (v := 2) hx hb dL_law_676 (by decide) ?_
  refine lv_iadd hx hb dL_law_677 ?_
  obtain ⟨q, hf⟩ := zck_use hf
  refine va_sld hx hb hX hbl hbA hI.2.2.2.1 (zin_in q) dL_law_678 ?_
  refine lv_if_eq (tgt := 686) hx hb dL_law_679 (by decide) (fun q => ?_) (fun q => ?_)
  · replace hf := zif_t q hf
    refine lv_iconst (v := 0) hx hb dL_law_686 (by decide) ?_
    obtain ⟨σ57, v58, g57, hf⟩ := zbi_use hf
    refine z_fcallH (u := wM am cm μ ++ zHo ao co o) (w := wC ad cy) (x := σ) (As := [.ref (ad 0), .int (xs (x4 + 1).toNatClampNeg), .int 0]) (rest := []) hC (zI.al hI) (zKC hI.1) (cL_line_met st l hst D ad cy σ (xs (x4 + 1).toNatClampNeg) 0 _ g57) (zgS zw68_7 zw68_8 zw1_10 zw68_9) rfl ⟨rfl, rfl⟩ 3 hdL_line ⟨Nat.le_of_ble_eq_true rfl, Nat.le_of_ble_eq_true rfl⟩ rfl hl rfl (Nat.le_of_ble_eq_true rfl) dL_law_687 ⟨by show cells + 1 ≤ 600128; omega, by show slots + 6 ≤ 7301064; omega⟩ (fun H locs hI => ?_)
    have hI : zLw st D ad cy am cm ao co μ o σ57 s H locs := zI.ar hI
    refine lv_istore (lv' := [(5, .int v58), (4, .int x4), (3, .ref ao), (2, .ref (am 0)), (1, .ref (ad 0)), (0, .ref b)]) hx hb dL_law_690 hl (by decide) rfl (fun ls hl => ?_)
    refine lv_aload_n hx hb dL_law_692 rfl (lv_at hl 3 rfl) ?_
    refine lv_aload_n hx hb dL_law_693 rfl (lv_at hl 5 rfl) ?_
    refine lv_iload hx hb dL_law_694 (lv_at hl 1 rfl) ?_
    refine lv_iconst (v := 1) hx hb dL_law_696 (by decide) ?_
    refine lv_iadd hx hb dL_law_697 ?_
    obtain ⟨q, hf⟩ := zck_use hf
    refine va_sld hx hb hX hbl hbA hI.2.2.2.1 (zin_in q) dL_law_698 ?_
    refine lv_aload_n hx hb dL_law_699 rfl (lv_at hl 5 rfl) ?_
    refine lv_iload hx hb dL_law_700 (lv_at hl 1 rfl) ?_
    refine lv_iconst (v := 2) hx hb dL_law_702 (by decide) ?_
    refine lv_iadd hx hb dL_law_703 ?_
    obtain ⟨q, hf⟩ := zck_use hf
    refine va_sld hx hb hX hbl hbA hI.2.2.2.1 (zin_in q) dL_law_704 ?_
    refine lv_if_eq (tgt := 712) hx hb dL_law_705 (by decide) (fun q => ?_) (fun q => ?_)
    · replace hf := zif_t q hf
      refine lv_iconst (v := 0) hx hb dL_law_712 (by decide) ?_
      obtain ⟨μ59, g59, hf⟩ := zbu_use hf
      refine z_fcallVu (u := zHo ao co o ++ wC ad cy σ57) (w := wM am cm) (As := [.int (xs (x4 + 1).toNatClampNeg), .int 0]) (rest := []) hC (zI.swap hI) (zKM hI.1) (cX12_line_met st l D am cm μ (xs (x4 + 1).toNatClampNeg) 0 _ g59) (zgV zw68_18 zw68_19 zw68_20 zw1_5 zw68_21) rfl ⟨rfl, rfl⟩ 2 hdX12_line ⟨Nat.le_of_ble_eq_true rfl, Nat.le_of_ble_eq_true rfl⟩ rfl rfl (wM_e0 am cm μ) rfl hl rfl (Nat.le_of_ble_eq_true rfl) dL_law_713 ⟨by show cells + 1 ≤ 600128; omega, by show slots + 6 ≤ 7301064; omega⟩ (fun H locs hI => ?_)
      have hI : zLw st D ad cy am cm ao co μ59 o σ57 s H locs := zI.swap hI
      refine lv_goto (tgt := 1418) hx hb dL_law_716 (by decide) ?_
      obtain ⟨v60, ev60⟩ : ∃ z : Int32, z = x4 + 8 := ⟨_, rfl⟩
      replace hf := zbv_use ev60 hf
      refine lv_iinc (v := v60) (lv' := [(4, .int v60), (5, .int v58), (3, .ref ao), (2, .ref (am 0)), (1, .ref (ad 0)), (0, .ref b)]) hx hb dL_law_1418 hl (k := 1) rfl (by rw [ev60]; rfl) (by decide) rfl (fun ls hl => ?_)
      refine lv_goto (tgt := 33) hx hb dL_law_1421 (by decide) ?_
      exact hk _ _ _ _ _ _ _ _ _ (by omega) (by omega) hI (lv_sub hl [0, 2, 3, 4, 5] rfl) hf
    replace hf := zif_f q hf
    refine lv_iconst (v := 1) hx hb dL_law_708 (by decide) ?_
    refine lv_goto (tgt := 713) hx hb dL_law_709 (by decide) ?_
    obtain ⟨μ61, g61, hf⟩ := zbu_use hf
    refine z_fcallVu (u := zHo ao co o ++ wC ad cy σ57) (w := wM am cm) (As := [.int (xs (x4 + 1).toNatClampNeg), .int 1]) (rest := []) hC (zI.swap hI) (zKM hI.1) (cX12_line_met st l D am cm μ (xs (x4 + 1).toNatClampNeg) 1 _ g61) (zgV zw68_18 zw68_19 zw68_20 zw1_5 zw68_21) rfl ⟨rfl, rfl⟩ 2 hdX12_line ⟨Nat.le_of_ble_eq_true rfl, Nat.le_of_ble_eq_true rfl⟩ rfl rfl (wM_e0 am cm μ) rfl hl rfl (Nat.le_of_ble_eq_true rfl) dL_law_713 ⟨by show cells + 1 ≤ 600128; omega, by show slots + 6 ≤ 7301064; omega⟩ (fun H locs hI => ?_)
    have hI : zLw st D ad cy am cm ao co μ61 o σ57 s H locs := zI.swap hI
    refine lv_goto (tgt := 1418) hx hb dL_law_716 (by decide) ?_
    obtain ⟨v62, ev62⟩ : ∃ z : Int32, z = x4 + 8 := ⟨_, rfl⟩
    replace hf := zbv_use ev62 hf
    refine lv_iinc (v := v62) (lv' := [(4, .int v62), (5, .int v58), (3, .ref ao), (2, .ref (am 0)), (1, .ref (ad 0)), (0, .ref b)]) hx hb dL_law_1418 hl (k := 1) rfl (by rw [ev62]; rfl) (by decide) rfl (fun ls hl => ?_)
    refine lv_goto (tgt := 33) hx hb dL_law_1421 (by decide) ?_
    exact hk _ _ _ _ _ _ _ _ _ (by omega) (by omega) hI (lv_sub hl [0, 2, 3, 4, 5] rfl) hf
  replace hf := zif_f q hf
  refine lv_iconst (v := 1) hx hb dL_law_682 (by decide) ?_
  refine lv_goto (tgt := 687) hx hb dL_law_683 (by decide) ?_
  obtain ⟨σ63, v64, g63, hf⟩ := zbi_use hf
  refine z_fcallH (u := wM am cm μ ++ zHo ao co o) (w := wC ad cy) (x := σ) (As := [.ref (ad 0), .int (xs (x4 + 1).toNatClampNeg), .int 1]) (rest := []) hC (zI.al hI) (zKC hI.1) (cL_line_met st l hst D ad cy σ (xs (x4 + 1).toNatClampNeg) 1 _ g63) (zgS zw68_7 zw68_8 zw1_10 zw68_9) rfl ⟨rfl, rfl⟩ 3 hdL_line ⟨Nat.le_of_ble_eq_true rfl, Nat.le_of_ble_eq_true rfl⟩ rfl hl rfl (Nat.le_of_ble_eq_true rfl) dL_law_687 ⟨by show cells + 1 ≤ 600128; omega, by show slots + 6 ≤ 7301064; omega⟩ (fun H locs hI => ?_)
  have hI : zLw st D ad cy am cm ao co μ o σ63 s H locs := zI.ar hI
  refine lv_istore (lv' := [(5, .int v64), (4, .int x4), (3, .ref ao), (2, .ref (am 0)), (1, .ref (ad 0)), (0, .ref b)]) hx hb dL_law_690 hl (by decide) rfl (fun ls hl => ?_)
  refine lv_aload_n hx hb dL_law_692 rfl (lv_at hl 3 rfl) ?_
  refine lv_aload_n hx hb dL_law_693 rfl (lv_at hl 5 rfl) ?_
  refine lv_iload hx hb dL_law_694 (lv_at hl 1 rfl) ?_
  refine lv_iconst (v := 1) hx hb dL_law_696 (by decide) ?_
  refine lv_iadd hx hb dL_law_697 ?_
  obtain ⟨q, hf⟩ := zck_use hf
  refine va_sld hx hb hX hbl hbA hI.2.2.2.1 (zin_in q) dL_law_698 ?_
  refine lv_aload_n hx hb dL_law_699 rfl (lv_at hl 5 rfl) ?_
  refine lv_iload hx hb dL_law_700 (lv_at hl 1 rfl) ?_
  refine lv_iconst (v := 2) hx hb dL_law_702 (by decide) ?_
  refine lv_iadd hx hb dL_law_703 ?_
  obtain ⟨q, hf⟩ := zck_use hf
  refine va_sld hx hb hX hbl hbA hI.2.2.2.1 (zin_in q) dL_law_704 ?_
  refine lv_if_eq (tgt := 712) hx hb dL_law_705 (by decide) (fun q => ?_) (fun q => ?_)
  · replace hf := zif_t q hf
    refine lv_iconst (v := 0) hx hb dL_law_712 (by decide) ?_
    obtain ⟨μ65, g65, hf⟩ := zbu_use hf
    refine z_fcallVu (u := zHo ao co o ++ wC ad cy σ63) (w := wM am cm) (As := [.int (xs (x4 + 1).toNatClampNeg), .int 0]) (rest := []) hC (zI.swap hI) (zKM hI.1) (cX12_line_met st l D am cm μ (xs (x4 + 1).toNatClampNeg) 0 _ g65) (zgV zw68_18 zw68_19 zw68_20 zw1_5 zw68_21) rfl ⟨rfl, rfl⟩ 2 hdX12_line ⟨Nat.le_of_ble_eq_true rfl, Nat.le_of_ble_eq_true rfl⟩ rfl rfl (wM_e0 am cm μ) rfl hl rfl (Nat.le_of_ble_eq_true rfl) dL_law_713 ⟨by show cells + 1 ≤ 600128; omega, by show slots + 6 ≤ 7301064; omega⟩ (fun H locs hI => ?_)
    have hI : zLw st D ad cy am cm ao co μ65 o σ63 s H locs := zI.swap hI
    refine lv_goto (tgt := 1418) hx hb dL_law_716 (by decide) ?_
    obtain ⟨v66, ev66⟩ : ∃ z : Int32, z = x4 + 8 := ⟨_, rfl⟩
    replace hf := zbv_use ev66 hf
    refine lv_iinc (v := v66) (lv' := [(4, .int v66), (5, .int v64), (3, .ref ao), (2, .ref (am 0)), (1, .ref (ad 0)), (0, .ref b)]) hx hb dL_law_1418 hl (k := 1) rfl (by rw [ev66]; rfl) (by decide) rfl (fun ls hl => ?_)
    refine lv_goto (tgt := 33) hx hb dL_law_1421 (by decide) ?_
    exact hk _ _ _ _ _ _ _ _ _ (by omega) (by omega) hI (lv_sub hl [0, 2, 3, 4, 5] rfl) hf
  replace hf := zif_f q hf
  refine lv_iconst (v := 1) hx hb dL_law_708 (by decide) ?_
  refine lv_goto (tgt := 713) hx hb dL_law_709 (by decide) ?_
  obtain ⟨μ67, g67, hf⟩ := zbu_use hf
  refine z_fcallVu (u := zHo ao co o ++ wC ad cy σ63) (w := wM am cm) (As := [.int (xs (x4 + 1).toNatClampNeg), .int 1]) (rest := []) hC (zI.swap hI) (zKM hI.1) (cX12_line_met st l D am cm μ (xs (x4 + 1).toNatClampNeg) 1 _ g67) (zgV zw68_18 zw68_19 zw68_20 zw1_5 zw68_21) rfl ⟨rfl, rfl⟩ 2 hdX12_line ⟨Nat.le_of_ble_eq_true rfl, Nat.le_of_ble_eq_true rfl⟩ rfl rfl (wM_e0 am cm μ) rfl hl rfl (Nat.le_of_ble_eq_true rfl) dL_law_713 ⟨by show cells + 1 ≤ 600128; omega, by show slots + 6 ≤ 7301064; omega⟩ (fun H locs hI => ?_)
  have hI : zLw st D ad cy am cm ao co μ67 o σ63 s H locs := zI.swap hI
  refine lv_goto (tgt := 1418) hx hb dL_law_716 (by decide) ?_
  obtain ⟨v68, ev68⟩ : ∃ z : Int32, z = x4 + 8 := ⟨_, rfl⟩
  replace hf := zbv_use ev68 hf
  refine lv_iinc (v := v68) (lv' := [(4, .int v68), (5, .int v64), (3, .ref ao), (2, .ref (am 0)), (1, .ref (ad 0)), (0, .ref b)]) hx hb dL_law_1418 hl (k := 1) rfl (by rw [ev68]; rfl) (by decide) rfl (fun ls hl => ?_)
  refine lv_goto (tgt := 33) hx hb dL_law_1421 (by decide) ?_
  exact hk _ _ _ _ _ _ _ _ _ (by omega) (by omega) hI (lv_sub hl [0, 2, 3, 4, 5] rfl) hf
def fLaw_719 (xs : Nat → Int32) (L : Nat) (kn : zSt → (Nat → Int64) → zSt → Int32 → Option Int32) (μ : zSt) (o : Nat → Int64) (σ : zSt) (x4 : Int32) : Option Int32 :=
  zck (zin (x4 + 1) L) (zck (zin (x4 + 2) L) (zck (zin (x4 + 3) L) (zbh (fL_plan o σ (xs (x4 + 1).toNatClampNeg) (xs (x4 + 2).toNatClampNeg) (xs (x4 + 3).toNatClampNeg)) (fun o69 σ69 v70 =>
  zck (zin (x4 + 1) L) (zck (zin (x4 + 2) L) (zck (zin (x4 + 3) L) (zbi (fX12_plan μ (xs (x4 + 1).toNatClampNeg) (xs (x4 + 2).toNatClampNeg) (xs (x4 + 3).toNatClampNeg)) (fun μ71 v72 =>
  zbi (fX12_thrown μ71 ) (fun μ73 v74 =>
  if v74 = v70 then if v70 = 0 then if (lg_cmp (o69 0) (v72.toInt64)) = 0 then zbv (x4 + 8) (fun v76 => kn μ73 o69 σ69 v76) else
  some 0 else
  zbv (x4 + 8) (fun v75 => kn μ73 o69 σ69 v75) else
  some 0)))))))))
set_option maxRecDepth 20000 in
set_option maxHeartbeats 4000000 in
theorem bLaw_719 {p : Program} {l : Launch} {e : Env} {s : State} {m : MethodId} {below : List Frame} {meth : Method} {c : Code} {st : Nat → Nat} {D : va_G} {b L : Nat} {xs : Nat → Int32} {ad am : Nat → Nat} {cy cm : Nat → ClassId} {ao : Nat} {co : ClassId} (hC : zC p m c cL_law 8 s #[Value.ref b] wzL_law RL meth ret) (hst : l.stackTraces = false) (hX : va_X b L xs s s.heap) (hbl : b < s.heap.size) (hbA : ¬ (fun q : Nat => s.heap.size ≤ q) b) {n : Nat} {kn : zSt → (Nat → Int64) → zSt → Int32 → Option Int32} (hk : ∀ (H : Heap) (locs : List Loc) (μ : zSt) (o : Nat → Int64) (σ : zSt) (ls : Array Slot) (x4 : Int32) (cells slots : Nat), cells + n ≤ 600128 → slots + 6 * n ≤ 7301064 → zLw st D ad cy am cm ao co μ o σ s H locs → lv_has ls 8 [(4, .int x4), (3, .ref ao), (2, .ref (am 0)), (1, .ref (ad 0)), (0, .ref b)] → kn μ o σ x4 = some 1 → W p l e room_1 s m #[Value.ref b] below meth c H locs cells slots (lw_Z below #[Value.ref b] s) (F0 m 33 ls [])) {H : Heap} {locs : List Loc} {μ : zSt} {o : Nat → Int64} {σ : zSt} {ls : Array Slot} {x4 : Int32} {cells slots : Nat} (hc : cells + (n + 1) ≤ 600128) (hs : slots + 6 * (n + 1) ≤ 7301064) (hI : zLw st D ad cy am cm ao co μ o σ s H locs) (hl : lv_has ls 8 [(4, .int x4), (3, .ref ao), (2, .ref (am 0)), (1, .ref (ad 0)), (0, .ref b)]) (hf : fLaw_719 xs L kn μ o σ x4 = some 1) : W p l e room_1 s m #[Value.ref b] below meth c H locs cells slots (lw_Z below #[Value.ref b] s) (F0 m 719 ls []) := by
  have hx := hC.1
  have hb := hC.2.1
  unfold fLaw_719 at hf
  refine lv_aload_n hx hb dL_law_719 rfl (lv_at hl 3 rfl) ?_
  refine lv_aload_n hx hb dL_law_720 rfl (lv_at hl 4 rfl) ?_
  refine lv_iload hx hb dL_law_721 (lv_at hl 0 rfl) ?_
  refine lv_iconst (v := 1) hx hb dL_law_723 (by decide) ?_
  refine lv_iadd hx hb dL_law_724 ?_
  obtain ⟨q, hf⟩ := zck_use hf
  refine va_sld hx hb hX hbl hbA hI.2.2.2.1 (zin_in q) dL_law_725 ?_
  refine lv_aload_n hx hb dL_law_726 rfl (lv_at hl 4 rfl) ?_
  refine lv_iload hx hb dL_law_727 (lv_at hl 0 rfl) ?_
  refine lv_iconst (v := 2) hx hb dL_law_729 (by decide) ?_
  refine lv_iadd hx hb dL_law_730 ?_
  obtain ⟨q, hf⟩ := zck_use hf
  refine va_sld hx hb hX hbl hbA hI.2.2.2.1 (zin_in q) dL_law_731 ?_
  refine lv_aload_n hx hb dL_law_732 rfl (lv_at hl 4 rfl) ?_
  refine lv_iload hx hb dL_law_733 (lv_at hl 0 rfl) ?_
  refine lv_iconst (v := 3) hx hb dL_law_735 (by decide) ?_
  refine lv_iadd hx hb dL_law_736 ?_
  obtain ⟨q, hf⟩ := zck_use hf
  refine va_sld hx hb hX hbl hbA hI.2.2.2.1 (zin_in q) dL_law_737 ?_
  refine lv_aload_n hx hb dL_law_738 rfl (lv_at hl 1 rfl) ?_
  obtain ⟨o69, σ69, v70, g69, hf⟩ := zbh_use hf
  refine z_fcallH (u := wM am cm μ) (w := fun x : zHs => zHo ao co x.1 ++ wC ad cy x.2) (x := (o, σ)) (As := [.ref (ad 0), .int (xs (x4 + 1).toNatClampNeg), .int (xs (x4 + 2).toNatClampNeg), .int (xs (x4 + 3).toNatClampNeg), .ref ao]) (rest := []) hC hI (zKH hI.1) (cL_plan_met st l hst D ad cy ao co o σ (xs (x4 + 1).toNatClampNeg) (xs (x4 + 2).toNatClampNeg) (xs (x4 + 3).toNatClampNeg) _ g69) (zgS zw68_22 zw68_23 zw1_10 zw69_0) rfl ⟨rfl, rfl⟩ 5 hdL_plan ⟨Nat.le_of_ble_eq_true rfl, Nat.le_of_ble_eq_true rfl⟩ rfl hl rfl (Nat.le_of_ble_eq_true rfl) dL_law_739 ⟨by show cells + 1 ≤ 600128; omega, by show slots + 6 ≤ 7301064; omega⟩ (fun H locs hI => ?_)
  have hI : zLw st D ad cy am cm ao co μ o69 σ69 s H locs := hI
  refine lv_istore (lv' := [(5, .int v70), (4, .int x4), (3, .ref ao), (2, .ref (am 0)), (1, .ref (ad 0)), (0, .ref b)]) hx hb dL_law_742 hl (by decide) rfl (fun ls hl => ?_)
  refine lv_aload_n hx hb dL_law_744 rfl (lv_at hl 3 rfl) ?_
  refine lv_aload_n hx hb dL_law_745 rfl (lv_at hl 5 rfl) ?_
  refine lv_iload hx hb dL_law_746 (lv_at hl 1 rfl) ?_
  refine lv_iconst (v := 1) hx hb dL_law_748 (by decide) ?_
  refine lv_iadd hx hb dL_law_749 ?_
  obtain ⟨q, hf⟩ := zck_use hf
  refine va_sld hx hb hX hbl hbA hI.2.2.2.1 (zin_in q) dL_law_750 ?_
  refine lv_aload_n hx hb dL_law_751 rfl (lv_at hl 5 rfl) ?_
  refine lv_iload hx hb dL_law_752 (lv_at hl 1 rfl) ?_
  refine lv_iconst (v := 2) hx hb dL_law_754 (by decide) ?_
  refine lv_iadd hx hb dL_law_755 ?_
  obtain ⟨q, hf⟩ := zck_use hf
  refine va_sld hx hb hX hbl hbA hI.2.2.2.1 (zin_in q) dL_law_756 ?_
  refine lv_aload_n hx hb dL_law_757 rfl (lv_at hl 5 rfl) ?_
  refine lv_iload hx hb dL_law_758 (lv_at hl 1 rfl) ?_
  refine lv_iconst (v := 3) hx hb dL_law_760 (by decide) ?_
  refine lv_iadd hx hb dL_law_761 ?_
  obtain ⟨q, hf⟩ := zck_use hf
  refine va_sld hx hb hX hbl hbA hI.2.2.2.1 (zin_in q) dL_law_762 ?_
  obtain ⟨μ71, v72, g71, hf⟩ := zbi_use hf
  refine z_fcallVi (u := zHo ao co o69 ++ wC ad cy σ69) (w := wM am cm) (As := [.int (xs (x4 + 1).toNatClampNeg), .int (xs (x4 + 2).toNatClampNeg), .int (xs (x4 + 3).toNatClampNeg)]) (rest := []) hC (zI.swap hI) (zKM hI.1) (cX12_plan_met st l D am cm μ (xs (x4 + 1).toNatClampNeg) (xs (x4 + 2).toNatClampNeg) (xs (x4 + 3).toNatClampNeg) _ g71) (zgV zw69_17 zw69_18 zw69_19 zw1_5 zw69_20) rfl ⟨rfl, rfl⟩ 3 hdX12_plan ⟨Nat.le_of_ble_eq_true rfl, Nat.le_of_ble_eq_true rfl⟩ rfl rfl (wM_e0 am cm μ) rfl hl rfl (Nat.le_of_ble_eq_true rfl) dL_law_763 ⟨by show cells + 1 ≤ 600128; omega, by show slots + 6 ≤ 7301064; omega⟩ (fun H locs hI => ?_)
  have hI : zLw st D ad cy am cm ao co μ71 o69 σ69 s H locs := zI.swap hI
  refine lv_istore (lv' := [(6, .int v72), (5, .int v70), (4, .int x4), (3, .ref ao), (2, .ref (am 0)), (1, .ref (ad 0)), (0, .ref b)]) hx hb dL_law_766 hl (by decide) rfl (fun ls hl => ?_)
  refine lv_aload_n hx hb dL_law_768 rfl (lv_at hl 4 rfl) ?_
  obtain ⟨μ73, v74, g73, hf⟩ := zbi_use hf
  refine z_fcallVi (u := zHo ao co o69 ++ wC ad cy σ69) (w := wM am cm) (As := []) (rest := []) hC (zI.swap hI) (zKM hI.1) (cX12_thrown_met st l D am cm μ71  _ g73) (zgV zw69_21 zw69_22 zw69_23 zw1_5 zw70_0) rfl ⟨rfl, rfl⟩ 0 hdX12_thrown ⟨Nat.le_of_ble_eq_true rfl, Nat.le_of_ble_eq_true rfl⟩ rfl rfl (wM_e0 am cm μ71) rfl hl rfl (Nat.le_of_ble_eq_true rfl) dL_law_769 ⟨by show cells + 1 ≤ 600128; omega, by show slots + 6 ≤ 7301064; omega⟩ (fun H locs hI => ?_)
  have hI : zLw st D ad cy am cm ao co μ73 o69 σ69 s H locs := zI.swap hI
  refine lv_iload hx hb dL_law_772 (lv_at hl 1 rfl) ?_
  refine lv_icmp_eq (tgt := 779) hx hb dL_law_774 (by decide) (fun q => ?_) (fun q => ?_)
  · replace hf := zif_t q hf
    refine lv_iload hx hb dL_law_779 (lv_at hl 1 rfl) ?_
    refine lv_if_ne (tgt := 796) hx hb dL_law_781 (by decide) (fun q => ?_) (fun q => ?_)
    · replace hf := zif_f q hf
      refine lv_goto (tgt := 1418) hx hb dL_law_796 (by decide) ?_
      obtain ⟨v75, ev75⟩ : ∃ z : Int32, z = x4 + 8 := ⟨_, rfl⟩
      replace hf := zbv_use ev75 hf
      refine lv_iinc (v := v75) (lv' := [(4, .int v75), (6, .int v72), (5, .int v70), (3, .ref ao), (2, .ref (am 0)), (1, .ref (ad 0)), (0, .ref b)]) hx hb dL_law_1418 hl (k := 2) rfl (by rw [ev75]; rfl) (by decide) rfl (fun ls hl => ?_)
      refine lv_goto (tgt := 33) hx hb dL_law_1421 (by decide) ?_
      exact hk _ _ _ _ _ _ _ _ _ (by omega) (by omega) hI (lv_sub hl [0, 3, 4, 5, 6] rfl) hf
    replace hf := zif_t q hf
    refine lv_aload_n hx hb dL_law_784 rfl (lv_at hl 3 rfl) ?_
    refine lv_iconst (v := 0) hx hb dL_law_785 (by decide) ?_
    refine z_lald (i := 0) hC hI 27 63 (zLo_e am cm ao co μ73 o69 _) (zLo_t cy cm co) (by decide) dL_law_786 ?_
    refine lv_iload hx hb dL_law_787 (lv_at hl 0 rfl) ?_
    refine lv_i2l (v := v72.toInt64) hx hb dL_law_789 rfl ?_
    refine W.lcmp hx hb dL_law_790 ?_
    refine lv_if_eq (tgt := 796) hx hb dL_law_791 (by decide) (fun q => ?_) (fun q => ?_)
    · replace hf := zif_t q hf
      refine lv_goto (tgt := 1418) hx hb dL_law_796 (by decide) ?_
      obtain ⟨v76, ev76⟩ : ∃ z : Int32, z = x4 + 8 := ⟨_, rfl⟩
      replace hf := zbv_use ev76 hf
      refine lv_iinc (v := v76) (lv' := [(4, .int v76), (6, .int v72), (5, .int v70), (3, .ref ao), (2, .ref (am 0)), (1, .ref (ad 0)), (0, .ref b)]) hx hb dL_law_1418 hl (k := 2) rfl (by rw [ev76]; rfl) (by decide) rfl (fun ls hl => ?_)
      refine lv_goto (tgt := 33) hx hb dL_law_1421 (by decide) ?_
      exact hk _ _ _ _ _ _ _ _ _ (by omega) (by omega) hI (lv_sub hl [0, 3, 4, 5, 6] rfl) hf
    replace hf := zif_f q hf
    refine lv_iconst (v := 0) hx hb dL_law_794 (by decide) ?_
    exact absurd (Option.some.inj hf) (by decide)
  replace hf := zif_f q hf
  refine lv_iconst (v := 0) hx hb dL_law_777 (by decide) ?_
  exact absurd (Option.some.inj hf) (by decide)
def fLaw_799 (xs : Nat → Int32) (L : Nat) (kn : zSt → (Nat → Int64) → zSt → Int32 → Option Int32) (μ : zSt) (o : Nat → Int64) (σ : zSt) (x4 : Int32) : Option Int32 :=
  zck (zin (x4 + 1) L) (zbi (fX11_tell σ (xs (x4 + 1).toNatClampNeg)) (fun σ77 v78 =>
  zck (zin (x4 + 1) L) (zbi (fX12_tell μ (xs (x4 + 1).toNatClampNeg)) (fun μ79 v80 =>
  zbv (x4 + 8) (fun v81 => kn μ79 o σ77 v81)))))
set_option maxRecDepth 20000 in
set_option maxHeartbeats 4000000 in
theorem bLaw_799 {p : Program} {l : Launch} {e : Env} {s : State} {m : MethodId} {below : List Frame} {meth : Method} {c : Code} {st : Nat → Nat} {D : va_G} {b L : Nat} {xs : Nat → Int32} {ad am : Nat → Nat} {cy cm : Nat → ClassId} {ao : Nat} {co : ClassId} (hC : zC p m c cL_law 8 s #[Value.ref b] wzL_law RL meth ret) (hst : l.stackTraces = false) (hX : va_X b L xs s s.heap) (hbl : b < s.heap.size) (hbA : ¬ (fun q : Nat => s.heap.size ≤ q) b) {n : Nat} {kn : zSt → (Nat → Int64) → zSt → Int32 → Option Int32} (hk : ∀ (H : Heap) (locs : List Loc) (μ : zSt) (o : Nat → Int64) (σ : zSt) (ls : Array Slot) (x4 : Int32) (cells slots : Nat), cells + n ≤ 600128 → slots + 6 * n ≤ 7301064 → zLw st D ad cy am cm ao co μ o σ s H locs → lv_has ls 8 [(4, .int x4), (3, .ref ao), (2, .ref (am 0)), (1, .ref (ad 0)), (0, .ref b)] → kn μ o σ x4 = some 1 → W p l e room_1 s m #[Value.ref b] below meth c H locs cells slots (lw_Z below #[Value.ref b] s) (F0 m 33 ls [])) {H : Heap} {locs : List Loc} {μ : zSt} {o : Nat → Int64} {σ : zSt} {ls : Array Slot} {x4 : Int32} {cells slots : Nat} (hc : cells + (n + 1) ≤ 600128) (hs : slots + 6 * (n + 1) ≤ 7301064) (hI : zLw st D ad cy am cm ao co μ o σ s H locs) (hl : lv_has ls 8 [(4, .int x4), (3, .ref ao), (2, .ref (am 0)), (1, .ref (ad 0)), (0, .ref b)]) (hf : fLaw_799 xs L kn μ o σ x4 = some 1) : W p l e room_1 s m #[Value.ref b] below meth c H locs cells slots (lw_Z below #[Value.ref b] s) (F0 m 799 ls []) := by
  have hx := hC.1
  have hb := hC.2.1
  unfold fLaw_799 at hf
  refine lv_aload_n hx hb dL_law_799 rfl (lv_at hl 3 rfl) ?_
  refine lv_aload_n hx hb dL_law_800 rfl (lv_at hl 4 rfl) ?_
  refine lv_iload hx hb dL_law_801 (lv_at hl 0 rfl) ?_
  refine lv_iconst (v := 1) hx hb dL_law_803 (by decide) ?_
  refine lv_iadd hx hb dL_law_804 ?_
  obtain ⟨q, hf⟩ := zck_use hf
  refine va_sld hx hb hX hbl hbA hI.2.2.2.1 (zin_in q) dL_law_805 ?_
  obtain ⟨σ77, v78, g77, hf⟩ := zbi_use hf
  refine z_fcallVi (u := wM am cm μ ++ zHo ao co o) (w := wC ad cy) (As := [.int (xs (x4 + 1).toNatClampNeg)]) (rest := []) hC (zI.al hI) (zKC hI.1) (cX11_tell_met st l D ad cy σ (xs (x4 + 1).toNatClampNeg) _ g77) (zgV zw70_1 zw70_2 zw70_3 zw1_2 zw70_4) rfl ⟨rfl, rfl⟩ 1 hdX11_tell ⟨Nat.le_of_ble_eq_true rfl, Nat.le_of_ble_eq_true rfl⟩ rfl rfl (wC_e0 ad cy σ) rfl hl rfl (Nat.le_of_ble_eq_true rfl) dL_law_806 ⟨by show cells ≤ 600128; omega, by show slots ≤ 7301064; omega⟩ (fun H locs hI => ?_)
  have hI : zLw st D ad cy am cm ao co μ o σ77 s H locs := zI.ar hI
  refine lv_pop hx hb dL_law_809 rfl ?_
  refine lv_aload_n hx hb dL_law_810 rfl (lv_at hl 2 rfl) ?_
  refine lv_aload_n hx hb dL_law_811 rfl (lv_at hl 4 rfl) ?_
  refine lv_iload hx hb dL_law_812 (lv_at hl 0 rfl) ?_
  refine lv_iconst (v := 1) hx hb dL_law_814 (by decide) ?_
  refine lv_iadd hx hb dL_law_815 ?_
  obtain ⟨q, hf⟩ := zck_use hf
  refine va_sld hx hb hX hbl hbA hI.2.2.2.1 (zin_in q) dL_law_816 ?_
  obtain ⟨μ79, v80, g79, hf⟩ := zbi_use hf
  refine z_fcallVi (u := zHo ao co o ++ wC ad cy σ77) (w := wM am cm) (As := [.int (xs (x4 + 1).toNatClampNeg)]) (rest := []) hC (zI.swap hI) (zKM hI.1) (cX12_tell_met st l D am cm μ (xs (x4 + 1).toNatClampNeg) _ g79) (zgV zw74_10 zw74_11 zw74_12 zw1_5 zw74_13) rfl ⟨rfl, rfl⟩ 1 hdX12_tell ⟨Nat.le_of_ble_eq_true rfl, Nat.le_of_ble_eq_true rfl⟩ rfl rfl (wM_e0 am cm μ) rfl hl rfl (Nat.le_of_ble_eq_true rfl) dL_law_817 ⟨by show cells ≤ 600128; omega, by show slots ≤ 7301064; omega⟩ (fun H locs hI => ?_)
  have hI : zLw st D ad cy am cm ao co μ79 o σ77 s H locs := zI.swap hI
  refine lv_pop hx hb dL_law_820 rfl ?_
  refine lv_goto (tgt := 1418) hx hb dL_law_821 (by decide) ?_
  obtain ⟨v81, ev81⟩ : ∃ z : Int32, z = x4 + 8 := ⟨_, rfl⟩
  replace hf := zbv_use ev81 hf
  refine lv_iinc (v := v81) (lv' := [(4, .int v81), (3, .ref ao), (2, .ref (am 0)), (1, .ref (ad 0)), (0, .ref b)]) hx hb dL_law_1418 hl (k := 0) rfl (by rw [ev81]; rfl) (by decide) rfl (fun ls hl => ?_)
  refine lv_goto (tgt := 33) hx hb dL_law_1421 (by decide) ?_
  exact hk _ _ _ _ _ _ _ _ _ (by omega) (by omega) hI (lv_sub hl [0, 1, 2, 3, 4] rfl) hf
def fLaw_824 (xs : Nat → Int32) (L : Nat) (kn : zSt → (Nat → Int64) → zSt → Int32 → Option Int32) (μ : zSt) (o : Nat → Int64) (σ : zSt) (x4 : Int32) : Option Int32 :=
  zck (zin (x4 + 1) L) (zbh (fL_text o σ (xs (x4 + 1).toNatClampNeg)) (fun o82 σ82 v83 =>
  zck (zin (x4 + 1) L) (zbl (fX12_text μ (xs (x4 + 1).toNatClampNeg)) (fun μ84 v85 =>
  zbv (x4 + 8) (fun v86 => kn μ84 o82 σ82 v86)))))
set_option maxRecDepth 20000 in
set_option maxHeartbeats 4000000 in
theorem bLaw_824 {p : Program} {l : Launch} {e : Env} {s : State} {m : MethodId} {below : List Frame} {meth : Method} {c : Code} {st : Nat → Nat} {D : va_G} {b L : Nat} {xs : Nat → Int32} {ad am : Nat → Nat} {cy cm : Nat → ClassId} {ao : Nat} {co : ClassId} (hC : zC p m c cL_law 8 s #[Value.ref b] wzL_law RL meth ret) (hst : l.stackTraces = false) (hX : va_X b L xs s s.heap) (hbl : b < s.heap.size) (hbA : ¬ (fun q : Nat => s.heap.size ≤ q) b) {n : Nat} {kn : zSt → (Nat → Int64) → zSt → Int32 → Option Int32} (hk : ∀ (H : Heap) (locs : List Loc) (μ : zSt) (o : Nat → Int64) (σ : zSt) (ls : Array Slot) (x4 : Int32) (cells slots : Nat), cells + n ≤ 600128 → slots + 6 * n ≤ 7301064 → zLw st D ad cy am cm ao co μ o σ s H locs → lv_has ls 8 [(4, .int x4), (3, .ref ao), (2, .ref (am 0)), (1, .ref (ad 0)), (0, .ref b)] → kn μ o σ x4 = some 1 → W p l e room_1 s m #[Value.ref b] below meth c H locs cells slots (lw_Z below #[Value.ref b] s) (F0 m 33 ls [])) {H : Heap} {locs : List Loc} {μ : zSt} {o : Nat → Int64} {σ : zSt} {ls : Array Slot} {x4 : Int32} {cells slots : Nat} (hc : cells + (n + 1) ≤ 600128) (hs : slots + 6 * (n + 1) ≤ 7301064) (hI : zLw st D ad cy am cm ao co μ o σ s H locs) (hl : lv_has ls 8 [(4, .int x4), (3, .ref ao), (2, .ref (am 0)), (1, .ref (ad 0)), (0, .ref b)]) (hf : fLaw_824 xs L kn μ o σ x4 = some 1) : W p l e room_1 s m #[Value.ref b] below meth c H locs cells slots (lw_Z below #[Value.ref b] s) (F0 m 824 ls []) := by
  have hx := hC.1
  have hb := hC.2.1
  unfold fLaw_824 at hf
  refine lv_aload_n hx hb dL_law_824 rfl (lv_at hl 3 rfl) ?_
  refine lv_aload_n hx hb dL_law_825 rfl (lv_at hl 4 rfl) ?_
  refine lv_iload hx hb dL_law_826 (lv_at hl 0 rfl) ?_
  refine lv_iconst (v := 1) hx hb dL_law_828 (by decide) ?_
  refine lv_iadd hx hb dL_law_829 ?_
  obtain ⟨q, hf⟩ := zck_use hf
  refine va_sld hx hb hX hbl hbA hI.2.2.2.1 (zin_in q) dL_law_830 ?_
  refine lv_aload_n hx hb dL_law_831 rfl (lv_at hl 1 rfl) ?_
  obtain ⟨o82, σ82, v83, g82, hf⟩ := zbh_use hf
  refine z_fcallH (u := wM am cm μ) (w := fun x : zHs => zHo ao co x.1 ++ wC ad cy x.2) (x := (o, σ)) (As := [.ref (ad 0), .int (xs (x4 + 1).toNatClampNeg), .ref ao]) (rest := []) hC hI (zKH hI.1) (cL_text_met st l hst D ad cy ao co o σ (xs (x4 + 1).toNatClampNeg) _ g82) (zgS zw78_8 zw78_9 zw1_10 zw78_10) rfl ⟨rfl, rfl⟩ 3 hdL_text ⟨Nat.le_of_ble_eq_true rfl, Nat.le_of_ble_eq_true rfl⟩ rfl hl rfl (Nat.le_of_ble_eq_true rfl) dL_law_832 ⟨by show cells + 1 ≤ 600128; omega, by show slots + 6 ≤ 7301064; omega⟩ (fun H locs hI => ?_)
  have hI : zLw st D ad cy am cm ao co μ o82 σ82 s H locs := hI
  refine lv_istore (lv' := [(5, .int v83), (4, .int x4), (3, .ref ao), (2, .ref (am 0)), (1, .ref (ad 0)), (0, .ref b)]) hx hb dL_law_835 hl (by decide) rfl (fun ls hl => ?_)
  refine lv_aload_n hx hb dL_law_837 rfl (lv_at hl 3 rfl) ?_
  refine lv_aload_n hx hb dL_law_838 rfl (lv_at hl 5 rfl) ?_
  refine lv_iload hx hb dL_law_839 (lv_at hl 1 rfl) ?_
  refine lv_iconst (v := 1) hx hb dL_law_841 (by decide) ?_
  refine lv_iadd hx hb dL_law_842 ?_
  obtain ⟨q, hf⟩ := zck_use hf
  refine va_sld hx hb hX hbl hbA hI.2.2.2.1 (zin_in q) dL_law_843 ?_
  obtain ⟨μ84, v85, g84, hf⟩ := zbl_use hf
  refine z_fcallVl (u := zHo ao co o82 ++ wC ad cy σ82) (w := wM am cm) (As := [.int (xs (x4 + 1).toNatClampNeg)]) (rest := []) hC (zI.swap hI) (zKM hI.1) (cX12_text_met st l D am cm μ (xs (x4 + 1).toNatClampNeg) _ g84) (zgV zw78_23 zw79_0 zw79_1 zw1_5 zw79_2) rfl ⟨rfl, rfl⟩ 1 hdX12_text ⟨Nat.le_of_ble_eq_true rfl, Nat.le_of_ble_eq_true rfl⟩ rfl rfl (wM_e0 am cm μ) rfl hl rfl (Nat.le_of_ble_eq_true rfl) dL_law_844 ⟨by show cells + 1 ≤ 600128; omega, by show slots + 6 ≤ 7301064; omega⟩ (fun H locs hI => ?_)
  have hI : zLw st D ad cy am cm ao co μ84 o82 σ82 s H locs := zI.swap hI
  refine lv_lstore (lv' := [(6, .long v85), (5, .int v83), (4, .int x4), (3, .ref ao), (2, .ref (am 0)), (1, .ref (ad 0)), (0, .ref b)]) hx hb dL_law_847 hl (by decide) rfl (fun ls hl => ?_)
  refine lv_goto (tgt := 1418) hx hb dL_law_849 (by decide) ?_
  obtain ⟨v86, ev86⟩ : ∃ z : Int32, z = x4 + 8 := ⟨_, rfl⟩
  replace hf := zbv_use ev86 hf
  refine lv_iinc (v := v86) (lv' := [(4, .int v86), (6, .long v85), (5, .int v83), (3, .ref ao), (2, .ref (am 0)), (1, .ref (ad 0)), (0, .ref b)]) hx hb dL_law_1418 hl (k := 2) rfl (by rw [ev86]; rfl) (by decide) rfl (fun ls hl => ?_)
  refine lv_goto (tgt := 33) hx hb dL_law_1421 (by decide) ?_
  exact hk _ _ _ _ _ _ _ _ _ (by omega) (by omega) hI (lv_sub hl [0, 3, 4, 5, 6] rfl) hf
def fLaw_852 (xs : Nat → Int32) (L : Nat) (kn : zSt → (Nat → Int64) → zSt → Int32 → Option Int32) (μ : zSt) (o : Nat → Int64) (σ : zSt) (x4 : Int32) : Option Int32 :=
  zck (zin (x4 + 1) L) (zck (zin (x4 + 2) L) (if (xs (x4 + 2).toNatClampNeg) = 0 then zbh (fL_stop o σ (xs (x4 + 1).toNatClampNeg) 0) (fun o87 σ87 v88 =>
  zck (zin (x4 + 1) L) (zck (zin (x4 + 2) L) (if (xs (x4 + 2).toNatClampNeg) = 0 then zbi (fX12_stop μ (xs (x4 + 1).toNatClampNeg) 0) (fun μ89 v90 =>
  zbv (x4 + 8) (fun v91 => kn μ89 o87 σ87 v91)) else
  zbi (fX12_stop μ (xs (x4 + 1).toNatClampNeg) 1) (fun μ92 v93 =>
  zbv (x4 + 8) (fun v94 => kn μ92 o87 σ87 v94))))) else
  zbh (fL_stop o σ (xs (x4 + 1).toNatClampNeg) 1) (fun o95 σ95 v96 =>
  zck (zin (x4 + 1) L) (zck (zin (x4 + 2) L) (if (xs (x4 + 2).toNatClampNeg) = 0 then zbi (fX12_stop μ (xs (x4 + 1).toNatClampNeg) 0) (fun μ97 v98 =>
  zbv (x4 + 8) (fun v99 => kn μ97 o95 σ95 v99)) else
  zbi (fX12_stop μ (xs (x4 + 1).toNatClampNeg) 1) (fun μ100 v101 =>
  zbv (x4 + 8) (fun v102 => kn μ100 o95 σ95 v102)))))))
set_option maxRecDepth 20000 in
set_option maxHeartbeats 4000000 in
theorem bLaw_852 {p : Program} {l : Launch} {e : Env} {s : State} {m : MethodId} {below : List Frame} {meth : Method} {c : Code} {st : Nat → Nat} {D : va_G} {b L : Nat} {xs : Nat → Int32} {ad am : Nat → Nat} {cy cm : Nat → ClassId} {ao : Nat} {co : ClassId} (hC : zC p m c cL_law 8 s #[Value.ref b] wzL_law RL meth ret) (hst : l.stackTraces = false) (hX : va_X b L xs s s.heap) (hbl : b < s.heap.size) (hbA : ¬ (fun q : Nat => s.heap.size ≤ q) b) {n : Nat} {kn : zSt → (Nat → Int64) → zSt → Int32 → Option Int32} (hk : ∀ (H : Heap) (locs : List Loc) (μ : zSt) (o : Nat → Int64) (σ : zSt) (ls : Array Slot) (x4 : Int32) (cells slots : Nat), cells + n ≤ 600128 → slots + 6 * n ≤ 7301064 → zLw st D ad cy am cm ao co μ o σ s H locs → lv_has ls 8 [(4, .int x4), (3, .ref ao), (2, .ref (am 0)), (1, .ref (ad 0)), (0, .ref b)] → kn μ o σ x4 = some 1 → W p l e room_1 s m #[Value.ref b] below meth c H locs cells slots (lw_Z below #[Value.ref b] s) (F0 m 33 ls [])) {H : Heap} {locs : List Loc} {μ : zSt} {o : Nat → Int64} {σ : zSt} {ls : Array Slot} {x4 : Int32} {cells slots : Nat} (hc : cells + (n + 1) ≤ 600128) (hs : slots + 6 * (n + 1) ≤ 7301064) (hI : zLw st D ad cy am cm ao co μ o σ s H locs) (hl : lv_has ls 8 [(4, .int x4), (3, .ref ao), (2, .ref (am 0)), (1, .ref (ad 0)), (0, .ref b)]) (hf : fLaw_852 xs L kn μ o σ x4 = some 1) : W p l e room_1 s m #[Value.ref b] below meth c H locs cells slots (lw_Z below #[Value.ref b] s) (F0 m 852 ls []) := by
  have hx := hC.1
  have hb := hC.2.1
  unfold fLaw_852 at hf
  refine lv_aload_n hx hb dL_law_852 rfl (lv_at hl 3 rfl) ?_
  refine lv_aload_n hx hb dL_law_853 rfl (lv_at hl 4 rfl) ?_
  refine lv_iload hx hb dL_law_854 (lv_at hl 0 rfl) ?_
  refine lv_iconst (v := 1) hx hb dL_law_856 (by decide) ?_
  refine lv_iadd hx hb dL_law_857 ?_
  obtain ⟨q, hf⟩ := zck_use hf
  refine va_sld hx hb hX hbl hbA hI.2.2.2.1 (zin_in q) dL_law_858 ?_
  refine lv_aload_n hx hb dL_law_859 rfl (lv_at hl 4 rfl) ?_
  refine lv_iload hx hb dL_law_860 (lv_at hl 0 rfl) ?_
  refine lv_iconst (v := 2) hx hb dL_law_862 (by decide) ?_
  refine lv_iadd hx hb dL_law_863 ?_
  obtain ⟨q, hf⟩ := zck_use hf
  refine va_sld hx hb hX hbl hbA hI.2.2.2.1 (zin_in q) dL_law_864 ?_
  refine lv_if_eq (tgt := 872) hx hb dL_law_865 (by decide) (fun q => ?_) (fun q => ?_)
  · replace hf := zif_t q hf
    refine lv_iconst (v := 0) hx hb dL_law_872 (by decide) ?_
    refine lv_aload_n hx hb dL_law_873 rfl (lv_at hl 1 rfl) ?_
    obtain ⟨o87, σ87, v88, g87, hf⟩ := zbh_use hf
    refine z_fcallH (u := wM am cm μ) (w := fun x : zHs => zHo ao co x.1 ++ wC ad cy x.2) (x := (o, σ)) (As := [.ref (ad 0), .int (xs (x4 + 1).toNatClampNeg), .int 0, .ref ao]) (rest := []) hC hI (zKH hI.1) (cL_stop_met st l hst D ad cy ao co o σ (xs (x4 + 1).toNatClampNeg) 0 _ g87) (zgS zw79_3 zw79_4 zw1_10 zw79_5) rfl ⟨rfl, rfl⟩ 4 hdL_stop ⟨Nat.le_of_ble_eq_true rfl, Nat.le_of_ble_eq_true rfl⟩ rfl hl rfl (Nat.le_of_ble_eq_true rfl) dL_law_874 ⟨by show cells + 1 ≤ 600128; omega, by show slots + 6 ≤ 7301064; omega⟩ (fun H locs hI => ?_)
    have hI : zLw st D ad cy am cm ao co μ o87 σ87 s H locs := hI
    refine lv_istore (lv' := [(5, .int v88), (4, .int x4), (3, .ref ao), (2, .ref (am 0)), (1, .ref (ad 0)), (0, .ref b)]) hx hb dL_law_877 hl (by decide) rfl (fun ls hl => ?_)
    refine lv_aload_n hx hb dL_law_879 rfl (lv_at hl 3 rfl) ?_
    refine lv_aload_n hx hb dL_law_880 rfl (lv_at hl 5 rfl) ?_
    refine lv_iload hx hb dL_law_881 (lv_at hl 1 rfl) ?_
    refine lv_iconst (v := 1) hx hb dL_law_883 (by decide) ?_
    refine lv_iadd hx hb dL_law_884 ?_
    obtain ⟨q, hf⟩ := zck_use hf
    refine va_sld hx hb hX hbl hbA hI.2.2.2.1 (zin_in q) dL_law_885 ?_
    refine lv_aload_n hx hb dL_law_886 rfl (lv_at hl 5 rfl) ?_
    refine lv_iload hx hb dL_law_887 (lv_at hl 1 rfl) ?_
    refine lv_iconst (v := 2) hx hb dL_law_889 (by decide) ?_
    refine lv_iadd hx hb dL_law_890 ?_
    obtain ⟨q, hf⟩ := zck_use hf
    refine va_sld hx hb hX hbl hbA hI.2.2.2.1 (zin_in q) dL_law_891 ?_
    refine lv_if_eq (tgt := 899) hx hb dL_law_892 (by decide) (fun q => ?_) (fun q => ?_)
    · replace hf := zif_t q hf
      refine lv_iconst (v := 0) hx hb dL_law_899 (by decide) ?_
      obtain ⟨μ89, v90, g89, hf⟩ := zbi_use hf
      refine z_fcallVi (u := zHo ao co o87 ++ wC ad cy σ87) (w := wM am cm) (As := [.int (xs (x4 + 1).toNatClampNeg), .int 0]) (rest := []) hC (zI.swap hI) (zKM hI.1) (cX12_stop_met st l D am cm μ (xs (x4 + 1).toNatClampNeg) 0 _ g89) (zgV zw79_20 zw79_21 zw79_22 zw1_5 zw79_23) rfl ⟨rfl, rfl⟩ 2 hdX12_stop ⟨Nat.le_of_ble_eq_true rfl, Nat.le_of_ble_eq_true rfl⟩ rfl rfl (wM_e0 am cm μ) rfl hl rfl (Nat.le_of_ble_eq_true rfl) dL_law_900 ⟨by show cells + 1 ≤ 600128; omega, by show slots + 6 ≤ 7301064; omega⟩ (fun H locs hI => ?_)
      have hI : zLw st D ad cy am cm ao co μ89 o87 σ87 s H locs := zI.swap hI
      refine lv_istore (lv' := [(6, .int v90), (5, .int v88), (4, .int x4), (3, .ref ao), (2, .ref (am 0)), (1, .ref (ad 0)), (0, .ref b)]) hx hb dL_law_903 hl (by decide) rfl (fun ls hl => ?_)
      refine lv_goto (tgt := 1418) hx hb dL_law_905 (by decide) ?_
      obtain ⟨v91, ev91⟩ : ∃ z : Int32, z = x4 + 8 := ⟨_, rfl⟩
      replace hf := zbv_use ev91 hf
      refine lv_iinc (v := v91) (lv' := [(4, .int v91), (6, .int v90), (5, .int v88), (3, .ref ao), (2, .ref (am 0)), (1, .ref (ad 0)), (0, .ref b)]) hx hb dL_law_1418 hl (k := 2) rfl (by rw [ev91]; rfl) (by decide) rfl (fun ls hl => ?_)
      refine lv_goto (tgt := 33) hx hb dL_law_1421 (by decide) ?_
      exact hk _ _ _ _ _ _ _ _ _ (by omega) (by omega) hI (lv_sub hl [0, 3, 4, 5, 6] rfl) hf
    replace hf := zif_f q hf
    refine lv_iconst (v := 1) hx hb dL_law_895 (by decide) ?_
    refine lv_goto (tgt := 900) hx hb dL_law_896 (by decide) ?_
    obtain ⟨μ92, v93, g92, hf⟩ := zbi_use hf
    refine z_fcallVi (u := zHo ao co o87 ++ wC ad cy σ87) (w := wM am cm) (As := [.int (xs (x4 + 1).toNatClampNeg), .int 1]) (rest := []) hC (zI.swap hI) (zKM hI.1) (cX12_stop_met st l D am cm μ (xs (x4 + 1).toNatClampNeg) 1 _ g92) (zgV zw79_20 zw79_21 zw79_22 zw1_5 zw79_23) rfl ⟨rfl, rfl⟩ 2 hdX12_stop ⟨Nat.le_of_ble_eq_true rfl, Nat.le_of_ble_eq_true rfl⟩ rfl rfl (wM_e0 am cm μ) rfl hl rfl (Nat.le_of_ble_eq_true rfl) dL_law_900 ⟨by show cells + 1 ≤ 600128; omega, by show slots + 6 ≤ 7301064; omega⟩ (fun H locs hI => ?_)
    have hI : zLw st D ad cy am cm ao co μ92 o87 σ87 s H locs := zI.swap hI
    refine lv_istore (lv' := [(6, .int v93), (5, .int v88), (4, .int x4), (3, .ref ao), (2, .ref (am 0)), (1, .ref (ad 0)), (0, .ref b)]) hx hb dL_law_903 hl (by decide) rfl (fun ls hl => ?_)
    refine lv_goto (tgt := 1418) hx hb dL_law_905 (by decide) ?_
    obtain ⟨v94, ev94⟩ : ∃ z : Int32, z = x4 + 8 := ⟨_, rfl⟩
    replace hf := zbv_use ev94 hf
    refine lv_iinc (v := v94) (lv' := [(4, .int v94), (6, .int v93), (5, .int v88), (3, .ref ao), (2, .ref (am 0)), (1, .ref (ad 0)), (0, .ref b)]) hx hb dL_law_1418 hl (k := 2) rfl (by rw [ev94]; rfl) (by decide) rfl (fun ls hl => ?_)
    refine lv_goto (tgt := 33) hx hb dL_law_1421 (by decide) ?_
    exact hk _ _ _ _ _ _ _ _ _ (by omega) (by omega) hI (lv_sub hl [0, 3, 4, 5, 6] rfl) hf
  replace hf := zif_f q hf
  refine lv_iconst (v := 1) hx hb dL_law_868 (by decide) ?_
  refine lv_goto (tgt := 873) hx hb dL_law_869 (by decide) ?_
  refine lv_aload_n hx hb dL_law_873 rfl (lv_at hl 1 rfl) ?_
  obtain ⟨o95, σ95, v96, g95, hf⟩ := zbh_use hf
  refine z_fcallH (u := wM am cm μ) (w := fun x : zHs => zHo ao co x.1 ++ wC ad cy x.2) (x := (o, σ)) (As := [.ref (ad 0), .int (xs (x4 + 1).toNatClampNeg), .int 1, .ref ao]) (rest := []) hC hI (zKH hI.1) (cL_stop_met st l hst D ad cy ao co o σ (xs (x4 + 1).toNatClampNeg) 1 _ g95) (zgS zw79_3 zw79_4 zw1_10 zw79_5) rfl ⟨rfl, rfl⟩ 4 hdL_stop ⟨Nat.le_of_ble_eq_true rfl, Nat.le_of_ble_eq_true rfl⟩ rfl hl rfl (Nat.le_of_ble_eq_true rfl) dL_law_874 ⟨by show cells + 1 ≤ 600128; omega, by show slots + 6 ≤ 7301064; omega⟩ (fun H locs hI => ?_)
  have hI : zLw st D ad cy am cm ao co μ o95 σ95 s H locs := hI
  refine lv_istore (lv' := [(5, .int v96), (4, .int x4), (3, .ref ao), (2, .ref (am 0)), (1, .ref (ad 0)), (0, .ref b)]) hx hb dL_law_877 hl (by decide) rfl (fun ls hl => ?_)
  refine lv_aload_n hx hb dL_law_879 rfl (lv_at hl 3 rfl) ?_
  refine lv_aload_n hx hb dL_law_880 rfl (lv_at hl 5 rfl) ?_
  refine lv_iload hx hb dL_law_881 (lv_at hl 1 rfl) ?_
  refine lv_iconst (v := 1) hx hb dL_law_883 (by decide) ?_
  refine lv_iadd hx hb dL_law_884 ?_
  obtain ⟨q, hf⟩ := zck_use hf
  refine va_sld hx hb hX hbl hbA hI.2.2.2.1 (zin_in q) dL_law_885 ?_
  refine lv_aload_n hx hb dL_law_886 rfl (lv_at hl 5 rfl) ?_
  refine lv_iload hx hb dL_law_887 (lv_at hl 1 rfl) ?_
  refine lv_iconst (v := 2) hx hb dL_law_889 (by decide) ?_
  refine lv_iadd hx hb dL_law_890 ?_
  obtain ⟨q, hf⟩ := zck_use hf
  refine va_sld hx hb hX hbl hbA hI.2.2.2.1 (zin_in q) dL_law_891 ?_
  refine lv_if_eq (tgt := 899) hx hb dL_law_892 (by decide) (fun q => ?_) (fun q => ?_)
  · replace hf := zif_t q hf
    refine lv_iconst (v := 0) hx hb dL_law_899 (by decide) ?_
    obtain ⟨μ97, v98, g97, hf⟩ := zbi_use hf
    refine z_fcallVi (u := zHo ao co o95 ++ wC ad cy σ95) (w := wM am cm) (As := [.int (xs (x4 + 1).toNatClampNeg), .int 0]) (rest := []) hC (zI.swap hI) (zKM hI.1) (cX12_stop_met st l D am cm μ (xs (x4 + 1).toNatClampNeg) 0 _ g97) (zgV zw79_20 zw79_21 zw79_22 zw1_5 zw79_23) rfl ⟨rfl, rfl⟩ 2 hdX12_stop ⟨Nat.le_of_ble_eq_true rfl, Nat.le_of_ble_eq_true rfl⟩ rfl rfl (wM_e0 am cm μ) rfl hl rfl (Nat.le_of_ble_eq_true rfl) dL_law_900 ⟨by show cells + 1 ≤ 600128; omega, by show slots + 6 ≤ 7301064; omega⟩ (fun H locs hI => ?_)
    have hI : zLw st D ad cy am cm ao co μ97 o95 σ95 s H locs := zI.swap hI
    refine lv_istore (lv' := [(6, .int v98), (5, .int v96), (4, .int x4), (3, .ref ao), (2, .ref (am 0)), (1, .ref (ad 0)), (0, .ref b)]) hx hb dL_law_903 hl (by decide) rfl (fun ls hl => ?_)
    refine lv_goto (tgt := 1418) hx hb dL_law_905 (by decide) ?_
    obtain ⟨v99, ev99⟩ : ∃ z : Int32, z = x4 + 8 := ⟨_, rfl⟩
    replace hf := zbv_use ev99 hf
    refine lv_iinc (v := v99) (lv' := [(4, .int v99), (6, .int v98), (5, .int v96), (3, .ref ao), (2, .ref (am 0)), (1, .ref (ad 0)), (0, .ref b)]) hx hb dL_law_1418 hl (k := 2) rfl (by rw [ev99]; rfl) (by decide) rfl (fun ls hl => ?_)
    refine lv_goto (tgt := 33) hx hb dL_law_1421 (by decide) ?_
    exact hk _ _ _ _ _ _ _ _ _ (by omega) (by omega) hI (lv_sub hl [0, 3, 4, 5, 6] rfl) hf
  replace hf := zif_f q hf
  refine lv_iconst (v := 1) hx hb dL_law_895 (by decide) ?_
  refine lv_goto (tgt := 900) hx hb dL_law_896 (by decide) ?_
  obtain ⟨μ100, v101, g100, hf⟩ := zbi_use hf
  refine z_fcallVi (u := zHo ao co o95 ++ wC ad cy σ95) (w := wM am cm) (As := [.int (xs (x4 + 1).toNatClampNeg), .int 1]) (rest := []) hC (zI.swap hI) (zKM hI.1) (cX12_stop_met st l D am cm μ (xs (x4 + 1).toNatClampNeg) 1 _ g100) (zgV zw79_20 zw79_21 zw79_22 zw1_5 zw79_23) rfl ⟨rfl, rfl⟩ 2 hdX12_stop ⟨Nat.le_of_ble_eq_true rfl, Nat.le_of_ble_eq_true rfl⟩ rfl rfl (wM_e0 am cm μ) rfl hl rfl (Nat.le_of_ble_eq_true rfl) dL_law_900 ⟨by show cells + 1 ≤ 600128; omega, by show slots + 6 ≤ 7301064; omega⟩ (fun H locs hI => ?_)
  have hI : zLw st D ad cy am cm ao co μ100 o95 σ95 s H locs := zI.swap hI
  refine lv_istore (lv' := [(6, .int v101), (5, .int v96), (4, .int x4), (3, .ref ao), (2, .ref (am 0)), (1, .ref (ad 0)), (0, .ref b)]) hx hb dL_law_903 hl (by decide) rfl (fun ls hl => ?_)
  refine lv_goto (tgt := 1418) hx hb dL_law_905 (by decide) ?_
  obtain ⟨v102, ev102⟩ : ∃ z : Int32, z = x4 + 8 := ⟨_, rfl⟩
  replace hf := zbv_use ev102 hf
  refine lv_iinc (v := v102) (lv' := [(4, .int v102), (6, .int v101), (5, .int v96), (3, .ref ao), (2, .ref (am 0)), (1, .ref (ad 0)), (0, .ref b)]) hx hb dL_law_1418 hl (k := 2) rfl (by rw [ev102]; rfl) (by decide) rfl (fun ls hl => ?_)
  refine lv_goto (tgt := 33) hx hb dL_law_1421 (by decide) ?_
  exact hk _ _ _ _ _ _ _ _ _ (by omega) (by omega) hI (lv_sub hl [0, 3, 4, 5, 6] rfl) hf
def fLaw_908 (xs : Nat → Int32) (L : Nat) (kn : zSt → (Nat → Int64) → zSt → Int32 → Option Int32) (μ : zSt) (o : Nat → Int64) (σ : zSt) (x4 : Int32) : Option Int32 :=
  zbu (fX11_save σ ) (fun σ103 =>
  zbu (fX12_save μ ) (fun μ104 =>
  zbv (x4 + 8) (fun v105 => kn μ104 o σ103 v105)))
set_option maxRecDepth 20000 in
set_option maxHeartbeats 4000000 in
theorem bLaw_908 {p : Program} {l : Launch} {e : Env} {s : State} {m : MethodId} {below : List Frame} {meth : Method} {c : Code} {st : Nat → Nat} {D : va_G} {b L : Nat} {xs : Nat → Int32} {ad am : Nat → Nat} {cy cm : Nat → ClassId} {ao : Nat} {co : ClassId} (hC : zC p m c cL_law 8 s #[Value.ref b] wzL_law RL meth ret) (hst : l.stackTraces = false) (hX : va_X b L xs s s.heap) (hbl : b < s.heap.size) (hbA : ¬ (fun q : Nat => s.heap.size ≤ q) b) {n : Nat} {kn : zSt → (Nat → Int64) → zSt → Int32 → Option Int32} (hk : ∀ (H : Heap) (locs : List Loc) (μ : zSt) (o : Nat → Int64) (σ : zSt) (ls : Array Slot) (x4 : Int32) (cells slots : Nat), cells + n ≤ 600128 → slots + 6 * n ≤ 7301064 → zLw st D ad cy am cm ao co μ o σ s H locs → lv_has ls 8 [(4, .int x4), (3, .ref ao), (2, .ref (am 0)), (1, .ref (ad 0)), (0, .ref b)] → kn μ o σ x4 = some 1 → W p l e room_1 s m #[Value.ref b] below meth c H locs cells slots (lw_Z below #[Value.ref b] s) (F0 m 33 ls [])) {H : Heap} {locs : List Loc} {μ : zSt} {o : Nat → Int64} {σ : zSt} {ls : Array Slot} {x4 : Int32} {cells slots : Nat} (hc : cells + (n + 1) ≤ 600128) (hs : slots + 6 * (n + 1) ≤ 7301064) (hI : zLw st D ad cy am cm ao co μ o σ s H locs) (hl : lv_has ls 8 [(4, .int x4), (3, .ref ao), (2, .ref (am 0)), (1, .ref (ad 0)), (0, .ref b)]) (hf : fLaw_908 xs L kn μ o σ x4 = some 1) : W p l e room_1 s m #[Value.ref b] below meth c H locs cells slots (lw_Z below #[Value.ref b] s) (F0 m 908 ls []) := by
  have hx := hC.1
  have hb := hC.2.1
  unfold fLaw_908 at hf
  refine lv_aload_n hx hb dL_law_908 rfl (lv_at hl 3 rfl) ?_
  obtain ⟨σ103, g103, hf⟩ := zbu_use hf
  refine z_fcallVu (u := wM am cm μ ++ zHo ao co o) (w := wC ad cy) (As := []) (rest := []) hC (zI.al hI) (zKC hI.1) (cX11_save_met st l D ad cy σ  _ g103) (zgV zw80_1 zw80_2 zw80_3 zw1_2 zw80_4) rfl ⟨rfl, rfl⟩ 0 hdX11_save ⟨Nat.le_of_ble_eq_true rfl, Nat.le_of_ble_eq_true rfl⟩ rfl rfl (wC_e0 ad cy σ) rfl hl rfl (Nat.le_of_ble_eq_true rfl) dL_law_909 ⟨by show cells ≤ 600128; omega, by show slots ≤ 7301064; omega⟩ (fun H locs hI => ?_)
  have hI : zLw st D ad cy am cm ao co μ o σ103 s H locs := zI.ar hI
  refine lv_aload_n hx hb dL_law_912 rfl (lv_at hl 2 rfl) ?_
  obtain ⟨μ104, g104, hf⟩ := zbu_use hf
  refine z_fcallVu (u := zHo ao co o ++ wC ad cy σ103) (w := wM am cm) (As := []) (rest := []) hC (zI.swap hI) (zKM hI.1) (cX12_save_met st l D am cm μ  _ g104) (zgV zw82_12 zw82_13 zw82_14 zw1_5 zw82_15) rfl ⟨rfl, rfl⟩ 0 hdX12_save ⟨Nat.le_of_ble_eq_true rfl, Nat.le_of_ble_eq_true rfl⟩ rfl rfl (wM_e0 am cm μ) rfl hl rfl (Nat.le_of_ble_eq_true rfl) dL_law_913 ⟨by show cells ≤ 600128; omega, by show slots ≤ 7301064; omega⟩ (fun H locs hI => ?_)
  have hI : zLw st D ad cy am cm ao co μ104 o σ103 s H locs := zI.swap hI
  refine lv_goto (tgt := 1418) hx hb dL_law_916 (by decide) ?_
  obtain ⟨v105, ev105⟩ : ∃ z : Int32, z = x4 + 8 := ⟨_, rfl⟩
  replace hf := zbv_use ev105 hf
  refine lv_iinc (v := v105) (lv' := [(4, .int v105), (3, .ref ao), (2, .ref (am 0)), (1, .ref (ad 0)), (0, .ref b)]) hx hb dL_law_1418 hl (k := 0) rfl (by rw [ev105]; rfl) (by decide) rfl (fun ls hl => ?_)
  refine lv_goto (tgt := 33) hx hb dL_law_1421 (by decide) ?_
  exact hk _ _ _ _ _ _ _ _ _ (by omega) (by omega) hI (lv_sub hl [0, 1, 2, 3, 4] rfl) hf
