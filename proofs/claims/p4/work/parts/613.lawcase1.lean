def fLaw_638 (xs : Nat → Int32) (L : Nat) (kn : zSt → (Nat → Int64) → zSt → Int32 → Option Int32) (μ : zSt) (o : Nat → Int64) (σ : zSt) (x4 : Int32) : Option Int32 :=
  zck (zin (x4 + 1) L) (if (xs (x4 + 1).toNatClampNeg) = 0 then zbu (fX11_start σ 0) (fun σ49 =>
  zck (zin (x4 + 1) L) (if (xs (x4 + 1).toNatClampNeg) = 0 then zbu (fX12_start μ 0) (fun μ50 =>
  zbv (x4 + 8) (fun v51 => kn μ50 o σ49 v51)) else
  zbu (fX12_start μ 1) (fun μ52 =>
  zbv (x4 + 8) (fun v53 => kn μ52 o σ49 v53)))) else
  zbu (fX11_start σ 1) (fun σ54 =>
  zck (zin (x4 + 1) L) (if (xs (x4 + 1).toNatClampNeg) = 0 then zbu (fX12_start μ 0) (fun μ55 =>
  zbv (x4 + 8) (fun v56 => kn μ55 o σ54 v56)) else
  zbu (fX12_start μ 1) (fun μ57 =>
  zbv (x4 + 8) (fun v58 => kn μ57 o σ54 v58)))))
set_option maxRecDepth 20000 in
set_option maxHeartbeats 4000000 in
theorem bLaw_638 {p : Program} {l : Launch} {e : Env} {s : State} {m : MethodId} {below : List Frame} {meth : Method} {c : Code} {st : Nat → Nat} {D : va_G} {b L : Nat} {xs : Nat → Int32} {ad am : Nat → Nat} {cy cm : Nat → ClassId} {ao : Nat} {co : ClassId} (hC : zC p m c cL_law 8 s #[Value.ref b] wzL_law RL meth ret) (hst : l.stackTraces = false) (hX : va_X b L xs s s.heap) (hbl : b < s.heap.size) (hbA : ¬ (fun q : Nat => s.heap.size ≤ q) b) {n : Nat} {kn : zSt → (Nat → Int64) → zSt → Int32 → Option Int32} (hk : ∀ (H : Heap) (locs : List Loc) (μ : zSt) (o : Nat → Int64) (σ : zSt) (ls : Array Slot) (x4 : Int32) (cells slots : Nat), cells + n ≤ 600128 → slots + 6 * n ≤ 7301064 → zLw st D ad cy am cm ao co μ o σ s H locs → lv_has ls 8 [(4, .int x4), (3, .ref ao), (2, .ref (am 0)), (1, .ref (ad 0)), (0, .ref b)] → kn μ o σ x4 = some 1 → W p l e room_1 s m #[Value.ref b] below meth c H locs cells slots (lw_Z below #[Value.ref b] s) (F0 m 33 ls [])) {H : Heap} {locs : List Loc} {μ : zSt} {o : Nat → Int64} {σ : zSt} {ls : Array Slot} {x4 : Int32} {cells slots : Nat} (hc : cells + (n + 1) ≤ 600128) (hs : slots + 6 * (n + 1) ≤ 7301064) (hI : zLw st D ad cy am cm ao co μ o σ s H locs) (hl : lv_has ls 8 [(4, .int x4), (3, .ref ao), (2, .ref (am 0)), (1, .ref (ad 0)), (0, .ref b)]) (hf : fLaw_638 xs L kn μ o σ x4 = some 1) : W p l e room_1 s m #[Value.ref b] below meth c H locs cells slots (lw_Z below #[Value.ref b] s) (F0 m 638 ls []) := by
  have hx := hC.1
  have hb := hC.2.1
  unfold fLaw_638 at hf
  refine lv_aload_n hx hb dL_law_638 rfl (lv_at hl 3 rfl) ?_
  refine lv_aload_n hx hb dL_law_639 rfl (lv_at hl 4 rfl) ?_
  refine lv_iload hx hb dL_law_640 (lv_at hl 0 rfl) ?_
  refine lv_iconst (v := 1) hx hb dL_law_642 (by decide) ?_
  refine lv_iadd hx hb dL_law_643 ?_
  obtain ⟨q, hf⟩ := zck_use hf
  refine va_sld hx hb hX hbl hbA hI.2.2.2.1 (zin_in q) dL_law_644 ?_
  refine lv_if_eq (tgt := 652) hx hb dL_law_645 (by decide) (fun q => ?_) (fun q => ?_)
  · replace hf := zif_t q hf
    refine lv_iconst (v := 0) hx hb dL_law_652 (by decide) ?_
    obtain ⟨σ49, g49, hf⟩ := zbu_use hf
    refine z_fcallVu (u := wM am cm μ ++ zHo ao co o) (w := wC ad cy) (As := [.int 0]) (rest := []) hC (zI.al hI) (zKC hI.1) (cX11_start_met st l D ad cy σ 0 _ g49) (zgV zw67_23 zw68_0 zw68_1 zw1_2 zw68_2) rfl ⟨rfl, rfl⟩ 1 hdX11_start ⟨Nat.le_of_ble_eq_true rfl, Nat.le_of_ble_eq_true rfl⟩ rfl rfl (wC_e0 ad cy σ) rfl hl rfl (Nat.le_of_ble_eq_true rfl) dL_law_653 ⟨by show cells ≤ 600128; omega, by show slots ≤ 7301064; omega⟩ (fun H locs hI => ?_)
    have hI : zLw st D ad cy am cm ao co μ o σ49 s H locs := zI.ar hI
    refine lv_aload_n hx hb dL_law_656 rfl (lv_at hl 2 rfl) ?_
    refine lv_aload_n hx hb dL_law_657 rfl (lv_at hl 4 rfl) ?_
    refine lv_iload hx hb dL_law_658 (lv_at hl 0 rfl) ?_
    refine lv_iconst (v := 1) hx hb dL_law_660 (by decide) ?_
    refine lv_iadd hx hb dL_law_661 ?_
    obtain ⟨q, hf⟩ := zck_use hf
    refine va_sld hx hb hX hbl hbA hI.2.2.2.1 (zin_in q) dL_law_662 ?_
    refine lv_if_eq (tgt := 670) hx hb dL_law_663 (by decide) (fun q => ?_) (fun q => ?_)
    · replace hf := zif_t q hf
      refine lv_iconst (v := 0) hx hb dL_law_670 (by decide) ?_
      obtain ⟨μ50, g50, hf⟩ := zbu_use hf
      refine z_fcallVu (u := zHo ao co o ++ wC ad cy σ49) (w := wM am cm) (As := [.int 0]) (rest := []) hC (zI.swap hI) (zKM hI.1) (cX12_start_met st l D am cm μ 0 _ g50) (zgV zw68_7 zw68_8 zw68_9 zw1_5 zw68_10) rfl ⟨rfl, rfl⟩ 1 hdX12_start ⟨Nat.le_of_ble_eq_true rfl, Nat.le_of_ble_eq_true rfl⟩ rfl rfl (wM_e0 am cm μ) rfl hl rfl (Nat.le_of_ble_eq_true rfl) dL_law_671 ⟨by show cells ≤ 600128; omega, by show slots ≤ 7301064; omega⟩ (fun H locs hI => ?_)
      have hI : zLw st D ad cy am cm ao co μ50 o σ49 s H locs := zI.swap hI
      refine lv_goto (tgt := 1401) hx hb dL_law_674 (by decide) ?_
      obtain ⟨v51, ev51⟩ : ∃ z : Int32, z = x4 + 8 := ⟨_, rfl⟩
      replace hf := zbv_use ev51 hf
      refine lv_iinc (v := v51) (lv' := [(4, .int v51), (3, .ref ao), (2, .ref (am 0)), (1, .ref (ad 0)), (0, .ref b)]) hx hb dL_law_1401 hl (k := 0) rfl (by rw [ev51]; rfl) (by decide) rfl (fun ls hl => ?_)
      refine lv_goto (tgt := 33) hx hb dL_law_1404 (by decide) ?_
      exact hk _ _ _ _ _ _ _ _ _ (by omega) (by omega) hI (lv_sub hl [0, 1, 2, 3, 4] rfl) hf
    replace hf := zif_f q hf
    refine lv_iconst (v := 1) hx hb dL_law_666 (by decide) ?_
    refine lv_goto (tgt := 671) hx hb dL_law_667 (by decide) ?_
    obtain ⟨μ52, g52, hf⟩ := zbu_use hf
    refine z_fcallVu (u := zHo ao co o ++ wC ad cy σ49) (w := wM am cm) (As := [.int 1]) (rest := []) hC (zI.swap hI) (zKM hI.1) (cX12_start_met st l D am cm μ 1 _ g52) (zgV zw68_7 zw68_8 zw68_9 zw1_5 zw68_10) rfl ⟨rfl, rfl⟩ 1 hdX12_start ⟨Nat.le_of_ble_eq_true rfl, Nat.le_of_ble_eq_true rfl⟩ rfl rfl (wM_e0 am cm μ) rfl hl rfl (Nat.le_of_ble_eq_true rfl) dL_law_671 ⟨by show cells ≤ 600128; omega, by show slots ≤ 7301064; omega⟩ (fun H locs hI => ?_)
    have hI : zLw st D ad cy am cm ao co μ52 o σ49 s H locs := zI.swap hI
    refine lv_goto (tgt := 1401) hx hb dL_law_674 (by decide) ?_
    obtain ⟨v53, ev53⟩ : ∃ z : Int32, z = x4 + 8 := ⟨_, rfl⟩
    replace hf := zbv_use ev53 hf
    refine lv_iinc (v := v53) (lv' := [(4, .int v53), (3, .ref ao), (2, .ref (am 0)), (1, .ref (ad 0)), (0, .ref b)]) hx hb dL_law_1401 hl (k := 0) rfl (by rw [ev53]; rfl) (by decide) rfl (fun ls hl => ?_)
    refine lv_goto (tgt := 33) hx hb dL_law_1404 (by decide) ?_
    exact hk _ _ _ _ _ _ _ _ _ (by omega) (by omega) hI (lv_sub hl [0, 1, 2, 3, 4] rfl) hf
  replace hf := zif_f q hf
  refine lv_iconst (v := 1) hx hb dL_law_648 (by decide) ?_
  refine lv_goto (tgt := 653) hx hb dL_law_649 (by decide) ?_
  obtain ⟨σ54, g54, hf⟩ := zbu_use hf
  refine z_fcallVu (u := wM am cm μ ++ zHo ao co o) (w := wC ad cy) (As := [.int 1]) (rest := []) hC (zI.al hI) (zKC hI.1) (cX11_start_met st l D ad cy σ 1 _ g54) (zgV zw67_23 zw68_0 zw68_1 zw1_2 zw68_2) rfl ⟨rfl, rfl⟩ 1 hdX11_start ⟨Nat.le_of_ble_eq_true rfl, Nat.le_of_ble_eq_true rfl⟩ rfl rfl (wC_e0 ad cy σ) rfl hl rfl (Nat.le_of_ble_eq_true rfl) dL_law_653 ⟨by show cells ≤ 600128; omega, by show slots ≤ 7301064; omega⟩ (fun H locs hI => ?_)
  have hI : zLw st D ad cy am cm ao co μ o σ54 s H locs := zI.ar hI
  refine lv_aload_n hx hb dL_law_656 rfl (lv_at hl 2 rfl) ?_
  refine lv_aload_n hx hb dL_law_657 rfl (lv_at hl 4 rfl) ?_
  refine lv_iload hx hb dL_law_658 (lv_at hl 0 rfl) ?_
  refine lv_iconst (v := 1) hx hb dL_law_660 (by decide) ?_
  refine lv_iadd hx hb dL_law_661 ?_
  obtain ⟨q, hf⟩ := zck_use hf
  refine va_sld hx hb hX hbl hbA hI.2.2.2.1 (zin_in q) dL_law_662 ?_
  refine lv_if_eq (tgt := 670) hx hb dL_law_663 (by decide) (fun q => ?_) (fun q => ?_)
  · replace hf := zif_t q hf
    refine lv_iconst (v := 0) hx hb dL_law_670 (by decide) ?_
    obtain ⟨μ55, g55, hf⟩ := zbu_use hf
    refine z_fcallVu (u := zHo ao co o ++ wC ad cy σ54) (w := wM am cm) (As := [.int 0]) (rest := []) hC (zI.swap hI) (zKM hI.1) (cX12_start_met st l D am cm μ 0 _ g55) (zgV zw68_7 zw68_8 zw68_9 zw1_5 zw68_10) rfl ⟨rfl, rfl⟩ 1 hdX12_start ⟨Nat.le_of_ble_eq_true rfl, Nat.le_of_ble_eq_true rfl⟩ rfl rfl (wM_e0 am cm μ) rfl hl rfl (Nat.le_of_ble_eq_true rfl) dL_law_671 ⟨by show cells ≤ 600128; omega, by show slots ≤ 7301064; omega⟩ (fun H locs hI => ?_)
    have hI : zLw st D ad cy am cm ao co μ55 o σ54 s H locs := zI.swap hI
    refine lv_goto (tgt := 1401) hx hb dL_law_674 (by decide) ?_
    obtain ⟨v56, ev56⟩ : ∃ z : Int32, z = x4 + 8 := ⟨_, rfl⟩
    replace hf := zbv_use ev56 hf
    refine lv_iinc (v := v56) (lv' := [(4, .int v56), (3, .ref ao), (2, .ref (am 0)), (1, .ref (ad 0)), (0, .ref b)]) hx hb dL_law_1401 hl (k := 0) rfl (by rw [ev56]; rfl) (by decide) rfl (fun ls hl => ?_)
    refine lv_goto (tgt := 33) hx hb dL_law_1404 (by decide) ?_
    exact hk _ _ _ _ _ _ _ _ _ (by omega) (by omega) hI (lv_sub hl [0, 1, 2, 3, 4] rfl) hf
  replace hf := zif_f q hf
  refine lv_iconst (v := 1) hx hb dL_law_666 (by decide) ?_
  refine lv_goto (tgt := 671) hx hb dL_law_667 (by decide) ?_
  obtain ⟨μ57, g57, hf⟩ := zbu_use hf
  refine z_fcallVu (u := zHo ao co o ++ wC ad cy σ54) (w := wM am cm) (As := [.int 1]) (rest := []) hC (zI.swap hI) (zKM hI.1) (cX12_start_met st l D am cm μ 1 _ g57) (zgV zw68_7 zw68_8 zw68_9 zw1_5 zw68_10) rfl ⟨rfl, rfl⟩ 1 hdX12_start ⟨Nat.le_of_ble_eq_true rfl, Nat.le_of_ble_eq_true rfl⟩ rfl rfl (wM_e0 am cm μ) rfl hl rfl (Nat.le_of_ble_eq_true rfl) dL_law_671 ⟨by show cells ≤ 600128; omega, by show slots ≤ 7301064; omega⟩ (fun H locs hI => ?_)
  have hI : zLw st D ad cy am cm ao co μ57 o σ54 s H locs := zI.swap hI
  refine lv_goto (tgt := 1401) hx hb dL_law_674 (by decide) ?_
  obtain ⟨v58, ev58⟩ : ∃ z : Int32, z = x4 + 8 := ⟨_, rfl⟩
  replace hf := zbv_use ev58 hf
  refine lv_iinc (v := v58) (lv' := [(4, .int v58), (3, .ref ao), (2, .ref (am 0)), (1, .ref (ad 0)), (0, .ref b)]) hx hb dL_law_1401 hl (k := 0) rfl (by rw [ev58]; rfl) (by decide) rfl (fun ls hl => ?_)
  refine lv_goto (tgt := 33) hx hb dL_law_1404 (by decide) ?_
  exact hk _ _ _ _ _ _ _ _ _ (by omega) (by omega) hI (lv_sub hl [0, 1, 2, 3, 4] rfl) hf
def fLaw_677 (xs : Nat → Int32) (L : Nat) (kn : zSt → (Nat → Int64) → zSt → Int32 → Option Int32) (μ : zSt) (o : Nat → Int64) (σ : zSt) (x4 : Int32) : Option Int32 :=
  zck (zin (x4 + 1) L) (zck (zin (x4 + 2) L) (if (xs (x4 + 2).toNatClampNeg) = 0 then zbi (fL_line σ (xs (x4 + 1).toNatClampNeg) 0) (fun σ59 v60 =>
  zck (zin (x4 + 1) L) (zck (zin (x4 + 2) L) (if (xs (x4 + 2).toNatClampNeg) = 0 then zbu (fX12_line μ (xs (x4 + 1).toNatClampNeg) 0) (fun μ61 =>
  zbv (x4 + 8) (fun v62 => kn μ61 o σ59 v62)) else
  zbu (fX12_line μ (xs (x4 + 1).toNatClampNeg) 1) (fun μ63 =>
  zbv (x4 + 8) (fun v64 => kn μ63 o σ59 v64))))) else
  zbi (fL_line σ (xs (x4 + 1).toNatClampNeg) 1) (fun σ65 v66 =>
  zck (zin (x4 + 1) L) (zck (zin (x4 + 2) L) (if (xs (x4 + 2).toNatClampNeg) = 0 then zbu (fX12_line μ (xs (x4 + 1).toNatClampNeg) 0) (fun μ67 =>
  zbv (x4 + 8) (fun v68 => kn μ67 o σ65 v68)) else
  zbu (fX12_line μ (xs (x4 + 1).toNatClampNeg) 1) (fun μ69 =>
  zbv (x4 + 8) (fun v70 => kn μ69 o σ65 v70)))))))
set_option maxRecDepth 20000 in
set_option maxHeartbeats 4000000 in
theorem bLaw_677 {p : Program} {l : Launch} {e : Env} {s : State} {m : MethodId} {below : List Frame} {meth : Method} {c : Code} {st : Nat → Nat} {D : va_G} {b L : Nat} {xs : Nat → Int32} {ad am : Nat → Nat} {cy cm : Nat → ClassId} {ao : Nat} {co : ClassId} (hC : zC p m c cL_law 8 s #[Value.ref b] wzL_law RL meth ret) (hst : l.stackTraces = false) (hX : va_X b L xs s s.heap) (hbl : b < s.heap.size) (hbA : ¬ (fun q : Nat => s.heap.size ≤ q) b) {n : Nat} {kn : zSt → (Nat → Int64) → zSt → Int32 → Option Int32} (hk : ∀ (H : Heap) (locs : List Loc) (μ : zSt) (o : Nat → Int64) (σ : zSt) (ls : Array Slot) (x4 : Int32) (cells slots : Nat), cells + n ≤ 600128 → slots + 6 * n ≤ 7301064 → zLw st D ad cy am cm ao co μ o σ s H locs → lv_has ls 8 [(4, .int x4), (3, .ref ao), (2, .ref (am 0)), (1, .ref (ad 0)), (0, .ref b)] → kn μ o σ x4 = some 1 → W p l e room_1 s m #[Value.ref b] below meth c H locs cells slots (lw_Z below #[Value.ref b] s) (F0 m 33 ls [])) {H : Heap} {locs : List Loc} {μ : zSt} {o : Nat → Int64} {σ : zSt} {ls : Array Slot} {x4 : Int32} {cells slots : Nat} (hc : cells + (n + 1) ≤ 600128) (hs : slots + 6 * (n + 1) ≤ 7301064) (hI : zLw st D ad cy am cm ao co μ o σ s H locs) (hl : lv_has ls 8 [(4, .int x4), (3, .ref ao), (2, .ref (am 0)), (1, .ref (ad 0)), (0, .ref b)]) (hf : fLaw_677 xs L kn μ o σ x4 = some 1) : W p l e room_1 s m #[Value.ref b] below meth c H locs cells slots (lw_Z below #[Value.ref b] s) (F0 m 677 ls []) := by
  have hx := hC.1
  have hb := hC.2.1
  unfold fLaw_677 at hf
  refine lv_aload_n hx hb dL_law_677 rfl (lv_at hl 3 rfl) ?_
  refine lv_aload_n hx hb dL_law_678 rfl (lv_at hl 4 rfl) ?_
  refine lv_iload hx hb dL_law_679 (lv_at hl 0 rfl) ?_
  refine lv_iconst (v := 1) hx hb dL_law_681 (by decide) ?_
  refine lv_iadd hx hb dL_law_682 ?_
  obtain ⟨q, hf⟩ := zck_use hf
  refine va_sld hx hb hX hbl hbA hI.2.2.2.1 (zin_in q) dL_law_683 ?_
  refine lv_aload_n hx hb dL_law_684 rfl (lv_at hl 4 rfl) ?_
  refine lv_iload hx hb dL_law_685 (lv_at hl 0 rfl) ?_
  refine lv_iconst (v := 2) hx hb dL_law_687 (by decide) ?_
  refine lv_iadd hx hb dL_law_688 ?_
  obtain ⟨q, hf⟩ := zck_use hf
  refine va_sld hx hb hX hbl hbA hI.2.2.2.1 (zin_in q) dL_law_689 ?_
  refine lv_if_eq (tgt := 697) hx hb dL_law_690 (by decide) (fun q => ?_) (fun q => ?_)
  · replace hf := zif_t q hf
    refine lv_iconst (v := 0) hx hb dL_law_697 (by decide) ?_
    obtain ⟨σ59, v60, g59, hf⟩ := zbi_use hf
    refine z_fcallH (u := wM am cm μ ++ zHo ao co o) (w := wC ad cy) (x := σ) (As := [.ref (ad 0), .int (xs (x4 + 1).toNatClampNeg), .int 0]) (rest := []) hC (zI.al hI) (zKC hI.1) (cL_line_met st l hst D ad cy σ (xs (x4 + 1).toNatClampNeg) 0 _ g59) (zgS zw68_11 zw68_12 zw1_10 zw68_13) rfl ⟨rfl, rfl⟩ 3 hdL_line ⟨Nat.le_of_ble_eq_true rfl, Nat.le_of_ble_eq_true rfl⟩ rfl hl rfl (Nat.le_of_ble_eq_true rfl) dL_law_698 ⟨by show cells + 1 ≤ 600128; omega, by show slots + 6 ≤ 7301064; omega⟩ (fun H locs hI => ?_)
    have hI : zLw st D ad cy am cm ao co μ o σ59 s H locs := zI.ar hI
    refine lv_istore (lv' := [(5, .int v60), (4, .int x4), (3, .ref ao), (2, .ref (am 0)), (1, .ref (ad 0)), (0, .ref b)]) hx hb dL_law_701 hl (by decide) rfl (fun ls hl => ?_)
    refine lv_aload_n hx hb dL_law_703 rfl (lv_at hl 3 rfl) ?_
    refine lv_aload_n hx hb dL_law_704 rfl (lv_at hl 5 rfl) ?_
    refine lv_iload hx hb dL_law_705 (lv_at hl 1 rfl) ?_
    refine lv_iconst (v := 1) hx hb dL_law_707 (by decide) ?_
    refine lv_iadd hx hb dL_law_708 ?_
    obtain ⟨q, hf⟩ := zck_use hf
    refine va_sld hx hb hX hbl hbA hI.2.2.2.1 (zin_in q) dL_law_709 ?_
    refine lv_aload_n hx hb dL_law_710 rfl (lv_at hl 5 rfl) ?_
    refine lv_iload hx hb dL_law_711 (lv_at hl 1 rfl) ?_
    refine lv_iconst (v := 2) hx hb dL_law_713 (by decide) ?_
    refine lv_iadd hx hb dL_law_714 ?_
    obtain ⟨q, hf⟩ := zck_use hf
    refine va_sld hx hb hX hbl hbA hI.2.2.2.1 (zin_in q) dL_law_715 ?_
    refine lv_if_eq (tgt := 723) hx hb dL_law_716 (by decide) (fun q => ?_) (fun q => ?_)
    · replace hf := zif_t q hf
      refine lv_iconst (v := 0) hx hb dL_law_723 (by decide) ?_
      obtain ⟨μ61, g61, hf⟩ := zbu_use hf
      refine z_fcallVu (u := zHo ao co o ++ wC ad cy σ59) (w := wM am cm) (As := [.int (xs (x4 + 1).toNatClampNeg), .int 0]) (rest := []) hC (zI.swap hI) (zKM hI.1) (cX12_line_met st l D am cm μ (xs (x4 + 1).toNatClampNeg) 0 _ g61) (zgV zw68_22 zw68_23 zw69_0 zw1_5 zw69_1) rfl ⟨rfl, rfl⟩ 2 hdX12_line ⟨Nat.le_of_ble_eq_true rfl, Nat.le_of_ble_eq_true rfl⟩ rfl rfl (wM_e0 am cm μ) rfl hl rfl (Nat.le_of_ble_eq_true rfl) dL_law_724 ⟨by show cells + 1 ≤ 600128; omega, by show slots + 6 ≤ 7301064; omega⟩ (fun H locs hI => ?_)
      have hI : zLw st D ad cy am cm ao co μ61 o σ59 s H locs := zI.swap hI
      refine lv_goto (tgt := 1401) hx hb dL_law_727 (by decide) ?_
      obtain ⟨v62, ev62⟩ : ∃ z : Int32, z = x4 + 8 := ⟨_, rfl⟩
      replace hf := zbv_use ev62 hf
      refine lv_iinc (v := v62) (lv' := [(4, .int v62), (5, .int v60), (3, .ref ao), (2, .ref (am 0)), (1, .ref (ad 0)), (0, .ref b)]) hx hb dL_law_1401 hl (k := 1) rfl (by rw [ev62]; rfl) (by decide) rfl (fun ls hl => ?_)
      refine lv_goto (tgt := 33) hx hb dL_law_1404 (by decide) ?_
      exact hk _ _ _ _ _ _ _ _ _ (by omega) (by omega) hI (lv_sub hl [0, 2, 3, 4, 5] rfl) hf
    replace hf := zif_f q hf
    refine lv_iconst (v := 1) hx hb dL_law_719 (by decide) ?_
    refine lv_goto (tgt := 724) hx hb dL_law_720 (by decide) ?_
    obtain ⟨μ63, g63, hf⟩ := zbu_use hf
    refine z_fcallVu (u := zHo ao co o ++ wC ad cy σ59) (w := wM am cm) (As := [.int (xs (x4 + 1).toNatClampNeg), .int 1]) (rest := []) hC (zI.swap hI) (zKM hI.1) (cX12_line_met st l D am cm μ (xs (x4 + 1).toNatClampNeg) 1 _ g63) (zgV zw68_22 zw68_23 zw69_0 zw1_5 zw69_1) rfl ⟨rfl, rfl⟩ 2 hdX12_line ⟨Nat.le_of_ble_eq_true rfl, Nat.le_of_ble_eq_true rfl⟩ rfl rfl (wM_e0 am cm μ) rfl hl rfl (Nat.le_of_ble_eq_true rfl) dL_law_724 ⟨by show cells + 1 ≤ 600128; omega, by show slots + 6 ≤ 7301064; omega⟩ (fun H locs hI => ?_)
    have hI : zLw st D ad cy am cm ao co μ63 o σ59 s H locs := zI.swap hI
    refine lv_goto (tgt := 1401) hx hb dL_law_727 (by decide) ?_
    obtain ⟨v64, ev64⟩ : ∃ z : Int32, z = x4 + 8 := ⟨_, rfl⟩
    replace hf := zbv_use ev64 hf
    refine lv_iinc (v := v64) (lv' := [(4, .int v64), (5, .int v60), (3, .ref ao), (2, .ref (am 0)), (1, .ref (ad 0)), (0, .ref b)]) hx hb dL_law_1401 hl (k := 1) rfl (by rw [ev64]; rfl) (by decide) rfl (fun ls hl => ?_)
    refine lv_goto (tgt := 33) hx hb dL_law_1404 (by decide) ?_
    exact hk _ _ _ _ _ _ _ _ _ (by omega) (by omega) hI (lv_sub hl [0, 2, 3, 4, 5] rfl) hf
  replace hf := zif_f q hf
  refine lv_iconst (v := 1) hx hb dL_law_693 (by decide) ?_
  refine lv_goto (tgt := 698) hx hb dL_law_694 (by decide) ?_
  obtain ⟨σ65, v66, g65, hf⟩ := zbi_use hf
  refine z_fcallH (u := wM am cm μ ++ zHo ao co o) (w := wC ad cy) (x := σ) (As := [.ref (ad 0), .int (xs (x4 + 1).toNatClampNeg), .int 1]) (rest := []) hC (zI.al hI) (zKC hI.1) (cL_line_met st l hst D ad cy σ (xs (x4 + 1).toNatClampNeg) 1 _ g65) (zgS zw68_11 zw68_12 zw1_10 zw68_13) rfl ⟨rfl, rfl⟩ 3 hdL_line ⟨Nat.le_of_ble_eq_true rfl, Nat.le_of_ble_eq_true rfl⟩ rfl hl rfl (Nat.le_of_ble_eq_true rfl) dL_law_698 ⟨by show cells + 1 ≤ 600128; omega, by show slots + 6 ≤ 7301064; omega⟩ (fun H locs hI => ?_)
  have hI : zLw st D ad cy am cm ao co μ o σ65 s H locs := zI.ar hI
  refine lv_istore (lv' := [(5, .int v66), (4, .int x4), (3, .ref ao), (2, .ref (am 0)), (1, .ref (ad 0)), (0, .ref b)]) hx hb dL_law_701 hl (by decide) rfl (fun ls hl => ?_)
  refine lv_aload_n hx hb dL_law_703 rfl (lv_at hl 3 rfl) ?_
  refine lv_aload_n hx hb dL_law_704 rfl (lv_at hl 5 rfl) ?_
  refine lv_iload hx hb dL_law_705 (lv_at hl 1 rfl) ?_
  refine lv_iconst (v := 1) hx hb dL_law_707 (by decide) ?_
  refine lv_iadd hx hb dL_law_708 ?_
  obtain ⟨q, hf⟩ := zck_use hf
  refine va_sld hx hb hX hbl hbA hI.2.2.2.1 (zin_in q) dL_law_709 ?_
  refine lv_aload_n hx hb dL_law_710 rfl (lv_at hl 5 rfl) ?_
  refine lv_iload hx hb dL_law_711 (lv_at hl 1 rfl) ?_
  refine lv_iconst (v := 2) hx hb dL_law_713 (by decide) ?_
  refine lv_iadd hx hb dL_law_714 ?_
  obtain ⟨q, hf⟩ := zck_use hf
  refine va_sld hx hb hX hbl hbA hI.2.2.2.1 (zin_in q) dL_law_715 ?_
  refine lv_if_eq (tgt := 723) hx hb dL_law_716 (by decide) (fun q => ?_) (fun q => ?_)
  · replace hf := zif_t q hf
    refine lv_iconst (v := 0) hx hb dL_law_723 (by decide) ?_
    obtain ⟨μ67, g67, hf⟩ := zbu_use hf
    refine z_fcallVu (u := zHo ao co o ++ wC ad cy σ65) (w := wM am cm) (As := [.int (xs (x4 + 1).toNatClampNeg), .int 0]) (rest := []) hC (zI.swap hI) (zKM hI.1) (cX12_line_met st l D am cm μ (xs (x4 + 1).toNatClampNeg) 0 _ g67) (zgV zw68_22 zw68_23 zw69_0 zw1_5 zw69_1) rfl ⟨rfl, rfl⟩ 2 hdX12_line ⟨Nat.le_of_ble_eq_true rfl, Nat.le_of_ble_eq_true rfl⟩ rfl rfl (wM_e0 am cm μ) rfl hl rfl (Nat.le_of_ble_eq_true rfl) dL_law_724 ⟨by show cells + 1 ≤ 600128; omega, by show slots + 6 ≤ 7301064; omega⟩ (fun H locs hI => ?_)
    have hI : zLw st D ad cy am cm ao co μ67 o σ65 s H locs := zI.swap hI
    refine lv_goto (tgt := 1401) hx hb dL_law_727 (by decide) ?_
    obtain ⟨v68, ev68⟩ : ∃ z : Int32, z = x4 + 8 := ⟨_, rfl⟩
    replace hf := zbv_use ev68 hf
    refine lv_iinc (v := v68) (lv' := [(4, .int v68), (5, .int v66), (3, .ref ao), (2, .ref (am 0)), (1, .ref (ad 0)), (0, .ref b)]) hx hb dL_law_1401 hl (k := 1) rfl (by rw [ev68]; rfl) (by decide) rfl (fun ls hl => ?_)
    refine lv_goto (tgt := 33) hx hb dL_law_1404 (by decide) ?_
    exact hk _ _ _ _ _ _ _ _ _ (by omega) (by omega) hI (lv_sub hl [0, 2, 3, 4, 5] rfl) hf
  replace hf := zif_f q hf
  refine lv_iconst (v := 1) hx hb dL_law_719 (by decide) ?_
  refine lv_goto (tgt := 724) hx hb dL_law_720 (by decide) ?_
  obtain ⟨μ69, g69, hf⟩ := zbu_use hf
  refine z_fcallVu (u := zHo ao co o ++ wC ad cy σ65) (w := wM am cm) (As := [.int (xs (x4 + 1).toNatClampNeg), .int 1]) (rest := []) hC (zI.swap hI) (zKM hI.1) (cX12_line_met st l D am cm μ (xs (x4 + 1).toNatClampNeg) 1 _ g69) (zgV zw68_22 zw68_23 zw69_0 zw1_5 zw69_1) rfl ⟨rfl, rfl⟩ 2 hdX12_line ⟨Nat.le_of_ble_eq_true rfl, Nat.le_of_ble_eq_true rfl⟩ rfl rfl (wM_e0 am cm μ) rfl hl rfl (Nat.le_of_ble_eq_true rfl) dL_law_724 ⟨by show cells + 1 ≤ 600128; omega, by show slots + 6 ≤ 7301064; omega⟩ (fun H locs hI => ?_)
  have hI : zLw st D ad cy am cm ao co μ69 o σ65 s H locs := zI.swap hI
  refine lv_goto (tgt := 1401) hx hb dL_law_727 (by decide) ?_
  obtain ⟨v70, ev70⟩ : ∃ z : Int32, z = x4 + 8 := ⟨_, rfl⟩
  replace hf := zbv_use ev70 hf
  refine lv_iinc (v := v70) (lv' := [(4, .int v70), (5, .int v66), (3, .ref ao), (2, .ref (am 0)), (1, .ref (ad 0)), (0, .ref b)]) hx hb dL_law_1401 hl (k := 1) rfl (by rw [ev70]; rfl) (by decide) rfl (fun ls hl => ?_)
  refine lv_goto (tgt := 33) hx hb dL_law_1404 (by decide) ?_
  exact hk _ _ _ _ _ _ _ _ _ (by omega) (by omega) hI (lv_sub hl [0, 2, 3, 4, 5] rfl) hf
def fLaw_730 (xs : Nat → Int32) (L : Nat) (kn : zSt → (Nat → Int64) → zSt → Int32 → Option Int32) (μ : zSt) (o : Nat → Int64) (σ : zSt) (x4 : Int32) : Option Int32 :=
  zck (zin (x4 + 1) L) (zck (zin (x4 + 2) L) (zck (zin (x4 + 3) L) (zbh (fL_plan o σ (xs (x4 + 1).toNatClampNeg) (xs (x4 + 2).toNatClampNeg) (xs (x4 + 3).toNatClampNeg)) (fun o71 σ71 v72 =>
  zck (zin (x4 + 1) L) (zck (zin (x4 + 2) L) (zck (zin (x4 + 3) L) (zbi (fX12_plan μ (xs (x4 + 1).toNatClampNeg) (xs (x4 + 2).toNatClampNeg) (xs (x4 + 3).toNatClampNeg)) (fun μ73 v74 =>
  zbv (x4 + 8) (fun v75 => kn μ73 o71 σ71 v75)))))))))
set_option maxRecDepth 20000 in
set_option maxHeartbeats 4000000 in
theorem bLaw_730 {p : Program} {l : Launch} {e : Env} {s : State} {m : MethodId} {below : List Frame} {meth : Method} {c : Code} {st : Nat → Nat} {D : va_G} {b L : Nat} {xs : Nat → Int32} {ad am : Nat → Nat} {cy cm : Nat → ClassId} {ao : Nat} {co : ClassId} (hC : zC p m c cL_law 8 s #[Value.ref b] wzL_law RL meth ret) (hst : l.stackTraces = false) (hX : va_X b L xs s s.heap) (hbl : b < s.heap.size) (hbA : ¬ (fun q : Nat => s.heap.size ≤ q) b) {n : Nat} {kn : zSt → (Nat → Int64) → zSt → Int32 → Option Int32} (hk : ∀ (H : Heap) (locs : List Loc) (μ : zSt) (o : Nat → Int64) (σ : zSt) (ls : Array Slot) (x4 : Int32) (cells slots : Nat), cells + n ≤ 600128 → slots + 6 * n ≤ 7301064 → zLw st D ad cy am cm ao co μ o σ s H locs → lv_has ls 8 [(4, .int x4), (3, .ref ao), (2, .ref (am 0)), (1, .ref (ad 0)), (0, .ref b)] → kn μ o σ x4 = some 1 → W p l e room_1 s m #[Value.ref b] below meth c H locs cells slots (lw_Z below #[Value.ref b] s) (F0 m 33 ls [])) {H : Heap} {locs : List Loc} {μ : zSt} {o : Nat → Int64} {σ : zSt} {ls : Array Slot} {x4 : Int32} {cells slots : Nat} (hc : cells + (n + 1) ≤ 600128) (hs : slots + 6 * (n + 1) ≤ 7301064) (hI : zLw st D ad cy am cm ao co μ o σ s H locs) (hl : lv_has ls 8 [(4, .int x4), (3, .ref ao), (2, .ref (am 0)), (1, .ref (ad 0)), (0, .ref b)]) (hf : fLaw_730 xs L kn μ o σ x4 = some 1) : W p l e room_1 s m #[Value.ref b] below meth c H locs cells slots (lw_Z below #[Value.ref b] s) (F0 m 730 ls []) := by
  have hx := hC.1
  have hb := hC.2.1
  unfold fLaw_730 at hf
  refine lv_aload_n hx hb dL_law_730 rfl (lv_at hl 3 rfl) ?_
  refine lv_aload_n hx hb dL_law_731 rfl (lv_at hl 4 rfl) ?_
  refine lv_iload hx hb dL_law_732 (lv_at hl 0 rfl) ?_
  refine lv_iconst (v := 1) hx hb dL_law_734 (by decide) ?_
  refine lv_iadd hx hb dL_law_735 ?_
  obtain ⟨q, hf⟩ := zck_use hf
  refine va_sld hx hb hX hbl hbA hI.2.2.2.1 (zin_in q) dL_law_736 ?_
  refine lv_aload_n hx hb dL_law_737 rfl (lv_at hl 4 rfl) ?_
  refine lv_iload hx hb dL_law_738 (lv_at hl 0 rfl) ?_
  refine lv_iconst (v := 2) hx hb dL_law_740 (by decide) ?_
  refine lv_iadd hx hb dL_law_741 ?_
  obtain ⟨q, hf⟩ := zck_use hf
  refine va_sld hx hb hX hbl hbA hI.2.2.2.1 (zin_in q) dL_law_742 ?_
  refine lv_aload_n hx hb dL_law_743 rfl (lv_at hl 4 rfl) ?_
  refine lv_iload hx hb dL_law_744 (lv_at hl 0 rfl) ?_
  refine lv_iconst (v := 3) hx hb dL_law_746 (by decide) ?_
  refine lv_iadd hx hb dL_law_747 ?_
  obtain ⟨q, hf⟩ := zck_use hf
  refine va_sld hx hb hX hbl hbA hI.2.2.2.1 (zin_in q) dL_law_748 ?_
  refine lv_aload_n hx hb dL_law_749 rfl (lv_at hl 1 rfl) ?_
  obtain ⟨o71, σ71, v72, g71, hf⟩ := zbh_use hf
  refine z_fcallH (u := wM am cm μ) (w := fun x : zHs => zHo ao co x.1 ++ wC ad cy x.2) (x := (o, σ)) (As := [.ref (ad 0), .int (xs (x4 + 1).toNatClampNeg), .int (xs (x4 + 2).toNatClampNeg), .int (xs (x4 + 3).toNatClampNeg), .ref ao]) (rest := []) hC hI (zKH hI.1) (cL_plan_met st l hst D ad cy ao co o σ (xs (x4 + 1).toNatClampNeg) (xs (x4 + 2).toNatClampNeg) (xs (x4 + 3).toNatClampNeg) _ g71) (zgS zw69_2 zw69_3 zw1_10 zw69_4) rfl ⟨rfl, rfl⟩ 5 hdL_plan ⟨Nat.le_of_ble_eq_true rfl, Nat.le_of_ble_eq_true rfl⟩ rfl hl rfl (Nat.le_of_ble_eq_true rfl) dL_law_750 ⟨by show cells + 1 ≤ 600128; omega, by show slots + 6 ≤ 7301064; omega⟩ (fun H locs hI => ?_)
  have hI : zLw st D ad cy am cm ao co μ o71 σ71 s H locs := hI
  refine lv_istore (lv' := [(5, .int v72), (4, .int x4), (3, .ref ao), (2, .ref (am 0)), (1, .ref (ad 0)), (0, .ref b)]) hx hb dL_law_753 hl (by decide) rfl (fun ls hl => ?_)
  refine lv_aload_n hx hb dL_law_755 rfl (lv_at hl 3 rfl) ?_
  refine lv_aload_n hx hb dL_law_756 rfl (lv_at hl 5 rfl) ?_
  refine lv_iload hx hb dL_law_757 (lv_at hl 1 rfl) ?_
  refine lv_iconst (v := 1) hx hb dL_law_759 (by decide) ?_
  refine lv_iadd hx hb dL_law_760 ?_
  obtain ⟨q, hf⟩ := zck_use hf
  refine va_sld hx hb hX hbl hbA hI.2.2.2.1 (zin_in q) dL_law_761 ?_
  refine lv_aload_n hx hb dL_law_762 rfl (lv_at hl 5 rfl) ?_
  refine lv_iload hx hb dL_law_763 (lv_at hl 1 rfl) ?_
  refine lv_iconst (v := 2) hx hb dL_law_765 (by decide) ?_
  refine lv_iadd hx hb dL_law_766 ?_
  obtain ⟨q, hf⟩ := zck_use hf
  refine va_sld hx hb hX hbl hbA hI.2.2.2.1 (zin_in q) dL_law_767 ?_
  refine lv_aload_n hx hb dL_law_768 rfl (lv_at hl 5 rfl) ?_
  refine lv_iload hx hb dL_law_769 (lv_at hl 1 rfl) ?_
  refine lv_iconst (v := 3) hx hb dL_law_771 (by decide) ?_
  refine lv_iadd hx hb dL_law_772 ?_
  obtain ⟨q, hf⟩ := zck_use hf
  refine va_sld hx hb hX hbl hbA hI.2.2.2.1 (zin_in q) dL_law_773 ?_
  obtain ⟨μ73, v74, g73, hf⟩ := zbi_use hf
  refine z_fcallVi (u := zHo ao co o71 ++ wC ad cy σ71) (w := wM am cm) (As := [.int (xs (x4 + 1).toNatClampNeg), .int (xs (x4 + 2).toNatClampNeg), .int (xs (x4 + 3).toNatClampNeg)]) (rest := []) hC (zI.swap hI) (zKM hI.1) (cX12_plan_met st l D am cm μ (xs (x4 + 1).toNatClampNeg) (xs (x4 + 2).toNatClampNeg) (xs (x4 + 3).toNatClampNeg) _ g73) (zgV zw69_21 zw69_22 zw69_23 zw1_5 zw70_0) rfl ⟨rfl, rfl⟩ 3 hdX12_plan ⟨Nat.le_of_ble_eq_true rfl, Nat.le_of_ble_eq_true rfl⟩ rfl rfl (wM_e0 am cm μ) rfl hl rfl (Nat.le_of_ble_eq_true rfl) dL_law_774 ⟨by show cells + 1 ≤ 600128; omega, by show slots + 6 ≤ 7301064; omega⟩ (fun H locs hI => ?_)
  have hI : zLw st D ad cy am cm ao co μ73 o71 σ71 s H locs := zI.swap hI
  refine lv_istore (lv' := [(6, .int v74), (5, .int v72), (4, .int x4), (3, .ref ao), (2, .ref (am 0)), (1, .ref (ad 0)), (0, .ref b)]) hx hb dL_law_777 hl (by decide) rfl (fun ls hl => ?_)
  refine lv_goto (tgt := 1401) hx hb dL_law_779 (by decide) ?_
  obtain ⟨v75, ev75⟩ : ∃ z : Int32, z = x4 + 8 := ⟨_, rfl⟩
  replace hf := zbv_use ev75 hf
  refine lv_iinc (v := v75) (lv' := [(4, .int v75), (6, .int v74), (5, .int v72), (3, .ref ao), (2, .ref (am 0)), (1, .ref (ad 0)), (0, .ref b)]) hx hb dL_law_1401 hl (k := 2) rfl (by rw [ev75]; rfl) (by decide) rfl (fun ls hl => ?_)
  refine lv_goto (tgt := 33) hx hb dL_law_1404 (by decide) ?_
  exact hk _ _ _ _ _ _ _ _ _ (by omega) (by omega) hI (lv_sub hl [0, 3, 4, 5, 6] rfl) hf
def fLaw_782 (xs : Nat → Int32) (L : Nat) (kn : zSt → (Nat → Int64) → zSt → Int32 → Option Int32) (μ : zSt) (o : Nat → Int64) (σ : zSt) (x4 : Int32) : Option Int32 :=
  zck (zin (x4 + 1) L) (zbi (fX11_tell σ (xs (x4 + 1).toNatClampNeg)) (fun σ76 v77 =>
  zck (zin (x4 + 1) L) (zbi (fX12_tell μ (xs (x4 + 1).toNatClampNeg)) (fun μ78 v79 =>
  zbv (x4 + 8) (fun v80 => kn μ78 o σ76 v80)))))
set_option maxRecDepth 20000 in
set_option maxHeartbeats 4000000 in
theorem bLaw_782 {p : Program} {l : Launch} {e : Env} {s : State} {m : MethodId} {below : List Frame} {meth : Method} {c : Code} {st : Nat → Nat} {D : va_G} {b L : Nat} {xs : Nat → Int32} {ad am : Nat → Nat} {cy cm : Nat → ClassId} {ao : Nat} {co : ClassId} (hC : zC p m c cL_law 8 s #[Value.ref b] wzL_law RL meth ret) (hst : l.stackTraces = false) (hX : va_X b L xs s s.heap) (hbl : b < s.heap.size) (hbA : ¬ (fun q : Nat => s.heap.size ≤ q) b) {n : Nat} {kn : zSt → (Nat → Int64) → zSt → Int32 → Option Int32} (hk : ∀ (H : Heap) (locs : List Loc) (μ : zSt) (o : Nat → Int64) (σ : zSt) (ls : Array Slot) (x4 : Int32) (cells slots : Nat), cells + n ≤ 600128 → slots + 6 * n ≤ 7301064 → zLw st D ad cy am cm ao co μ o σ s H locs → lv_has ls 8 [(4, .int x4), (3, .ref ao), (2, .ref (am 0)), (1, .ref (ad 0)), (0, .ref b)] → kn μ o σ x4 = some 1 → W p l e room_1 s m #[Value.ref b] below meth c H locs cells slots (lw_Z below #[Value.ref b] s) (F0 m 33 ls [])) {H : Heap} {locs : List Loc} {μ : zSt} {o : Nat → Int64} {σ : zSt} {ls : Array Slot} {x4 : Int32} {cells slots : Nat} (hc : cells + (n + 1) ≤ 600128) (hs : slots + 6 * (n + 1) ≤ 7301064) (hI : zLw st D ad cy am cm ao co μ o σ s H locs) (hl : lv_has ls 8 [(4, .int x4), (3, .ref ao), (2, .ref (am 0)), (1, .ref (ad 0)), (0, .ref b)]) (hf : fLaw_782 xs L kn μ o σ x4 = some 1) : W p l e room_1 s m #[Value.ref b] below meth c H locs cells slots (lw_Z below #[Value.ref b] s) (F0 m 782 ls []) := by
  have hx := hC.1
  have hb := hC.2.1
  unfold fLaw_782 at hf
  refine lv_aload_n hx hb dL_law_782 rfl (lv_at hl 3 rfl) ?_
  refine lv_aload_n hx hb dL_law_783 rfl (lv_at hl 4 rfl) ?_
  refine lv_iload hx hb dL_law_784 (lv_at hl 0 rfl) ?_
  refine lv_iconst (v := 1) hx hb dL_law_786 (by decide) ?_
  refine lv_iadd hx hb dL_law_787 ?_
  obtain ⟨q, hf⟩ := zck_use hf
  refine va_sld hx hb hX hbl hbA hI.2.2.2.1 (zin_in q) dL_law_788 ?_
  obtain ⟨σ76, v77, g76, hf⟩ := zbi_use hf
  refine z_fcallVi (u := wM am cm μ ++ zHo ao co o) (w := wC ad cy) (As := [.int (xs (x4 + 1).toNatClampNeg)]) (rest := []) hC (zI.al hI) (zKC hI.1) (cX11_tell_met st l D ad cy σ (xs (x4 + 1).toNatClampNeg) _ g76) (zgV zw70_1 zw70_2 zw70_3 zw1_2 zw70_4) rfl ⟨rfl, rfl⟩ 1 hdX11_tell ⟨Nat.le_of_ble_eq_true rfl, Nat.le_of_ble_eq_true rfl⟩ rfl rfl (wC_e0 ad cy σ) rfl hl rfl (Nat.le_of_ble_eq_true rfl) dL_law_789 ⟨by show cells ≤ 600128; omega, by show slots ≤ 7301064; omega⟩ (fun H locs hI => ?_)
  have hI : zLw st D ad cy am cm ao co μ o σ76 s H locs := zI.ar hI
  refine lv_pop hx hb dL_law_792 rfl ?_
  refine lv_aload_n hx hb dL_law_793 rfl (lv_at hl 2 rfl) ?_
  refine lv_aload_n hx hb dL_law_794 rfl (lv_at hl 4 rfl) ?_
  refine lv_iload hx hb dL_law_795 (lv_at hl 0 rfl) ?_
  refine lv_iconst (v := 1) hx hb dL_law_797 (by decide) ?_
  refine lv_iadd hx hb dL_law_798 ?_
  obtain ⟨q, hf⟩ := zck_use hf
  refine va_sld hx hb hX hbl hbA hI.2.2.2.1 (zin_in q) dL_law_799 ?_
  obtain ⟨μ78, v79, g78, hf⟩ := zbi_use hf
  refine z_fcallVi (u := zHo ao co o ++ wC ad cy σ76) (w := wM am cm) (As := [.int (xs (x4 + 1).toNatClampNeg)]) (rest := []) hC (zI.swap hI) (zKM hI.1) (cX12_tell_met st l D am cm μ (xs (x4 + 1).toNatClampNeg) _ g78) (zgV zw74_10 zw74_11 zw74_12 zw1_5 zw74_13) rfl ⟨rfl, rfl⟩ 1 hdX12_tell ⟨Nat.le_of_ble_eq_true rfl, Nat.le_of_ble_eq_true rfl⟩ rfl rfl (wM_e0 am cm μ) rfl hl rfl (Nat.le_of_ble_eq_true rfl) dL_law_800 ⟨by show cells ≤ 600128; omega, by show slots ≤ 7301064; omega⟩ (fun H locs hI => ?_)
  have hI : zLw st D ad cy am cm ao co μ78 o σ76 s H locs := zI.swap hI
  refine lv_pop hx hb dL_law_803 rfl ?_
  refine lv_goto (tgt := 1401) hx hb dL_law_804 (by decide) ?_
  obtain ⟨v80, ev80⟩ : ∃ z : Int32, z = x4 + 8 := ⟨_, rfl⟩
  replace hf := zbv_use ev80 hf
  refine lv_iinc (v := v80) (lv' := [(4, .int v80), (3, .ref ao), (2, .ref (am 0)), (1, .ref (ad 0)), (0, .ref b)]) hx hb dL_law_1401 hl (k := 0) rfl (by rw [ev80]; rfl) (by decide) rfl (fun ls hl => ?_)
  refine lv_goto (tgt := 33) hx hb dL_law_1404 (by decide) ?_
  exact hk _ _ _ _ _ _ _ _ _ (by omega) (by omega) hI (lv_sub hl [0, 1, 2, 3, 4] rfl) hf
def fLaw_807 (xs : Nat → Int32) (L : Nat) (kn : zSt → (Nat → Int64) → zSt → Int32 → Option Int32) (μ : zSt) (o : Nat → Int64) (σ : zSt) (x4 : Int32) : Option Int32 :=
  zck (zin (x4 + 1) L) (zbh (fL_text o σ (xs (x4 + 1).toNatClampNeg)) (fun o81 σ81 v82 =>
  zck (zin (x4 + 1) L) (zbl (fX12_text μ (xs (x4 + 1).toNatClampNeg)) (fun μ83 v84 =>
  zbv (x4 + 8) (fun v85 => kn μ83 o81 σ81 v85)))))
set_option maxRecDepth 20000 in
set_option maxHeartbeats 4000000 in
theorem bLaw_807 {p : Program} {l : Launch} {e : Env} {s : State} {m : MethodId} {below : List Frame} {meth : Method} {c : Code} {st : Nat → Nat} {D : va_G} {b L : Nat} {xs : Nat → Int32} {ad am : Nat → Nat} {cy cm : Nat → ClassId} {ao : Nat} {co : ClassId} (hC : zC p m c cL_law 8 s #[Value.ref b] wzL_law RL meth ret) (hst : l.stackTraces = false) (hX : va_X b L xs s s.heap) (hbl : b < s.heap.size) (hbA : ¬ (fun q : Nat => s.heap.size ≤ q) b) {n : Nat} {kn : zSt → (Nat → Int64) → zSt → Int32 → Option Int32} (hk : ∀ (H : Heap) (locs : List Loc) (μ : zSt) (o : Nat → Int64) (σ : zSt) (ls : Array Slot) (x4 : Int32) (cells slots : Nat), cells + n ≤ 600128 → slots + 6 * n ≤ 7301064 → zLw st D ad cy am cm ao co μ o σ s H locs → lv_has ls 8 [(4, .int x4), (3, .ref ao), (2, .ref (am 0)), (1, .ref (ad 0)), (0, .ref b)] → kn μ o σ x4 = some 1 → W p l e room_1 s m #[Value.ref b] below meth c H locs cells slots (lw_Z below #[Value.ref b] s) (F0 m 33 ls [])) {H : Heap} {locs : List Loc} {μ : zSt} {o : Nat → Int64} {σ : zSt} {ls : Array Slot} {x4 : Int32} {cells slots : Nat} (hc : cells + (n + 1) ≤ 600128) (hs : slots + 6 * (n + 1) ≤ 7301064) (hI : zLw st D ad cy am cm ao co μ o σ s H locs) (hl : lv_has ls 8 [(4, .int x4), (3, .ref ao), (2, .ref (am 0)), (1, .ref (ad 0)), (0, .ref b)]) (hf : fLaw_807 xs L kn μ o σ x4 = some 1) : W p l e room_1 s m #[Value.ref b] below meth c H locs cells slots (lw_Z below #[Value.ref b] s) (F0 m 807 ls []) := by
  have hx := hC.1
  have hb := hC.2.1
  unfold fLaw_807 at hf
  refine lv_aload_n hx hb dL_law_807 rfl (lv_at hl 3 rfl) ?_
  refine lv_aload_n hx hb dL_law_808 rfl (lv_at hl 4 rfl) ?_
  refine lv_iload hx hb dL_law_809 (lv_at hl 0 rfl) ?_
  refine lv_iconst (v := 1) hx hb dL_law_811 (by decide) ?_
  refine lv_iadd hx hb dL_law_812 ?_
  obtain ⟨q, hf⟩ := zck_use hf
  refine va_sld hx hb hX hbl hbA hI.2.2.2.1 (zin_in q) dL_law_813 ?_
  refine lv_aload_n hx hb dL_law_814 rfl (lv_at hl 1 rfl) ?_
  obtain ⟨o81, σ81, v82, g81, hf⟩ := zbh_use hf
  refine z_fcallH (u := wM am cm μ) (w := fun x : zHs => zHo ao co x.1 ++ wC ad cy x.2) (x := (o, σ)) (As := [.ref (ad 0), .int (xs (x4 + 1).toNatClampNeg), .ref ao]) (rest := []) hC hI (zKH hI.1) (cL_text_met st l hst D ad cy ao co o σ (xs (x4 + 1).toNatClampNeg) _ g81) (zgS zw78_8 zw78_9 zw1_10 zw78_10) rfl ⟨rfl, rfl⟩ 3 hdL_text ⟨Nat.le_of_ble_eq_true rfl, Nat.le_of_ble_eq_true rfl⟩ rfl hl rfl (Nat.le_of_ble_eq_true rfl) dL_law_815 ⟨by show cells + 1 ≤ 600128; omega, by show slots + 6 ≤ 7301064; omega⟩ (fun H locs hI => ?_)
  have hI : zLw st D ad cy am cm ao co μ o81 σ81 s H locs := hI
  refine lv_istore (lv' := [(5, .int v82), (4, .int x4), (3, .ref ao), (2, .ref (am 0)), (1, .ref (ad 0)), (0, .ref b)]) hx hb dL_law_818 hl (by decide) rfl (fun ls hl => ?_)
  refine lv_aload_n hx hb dL_law_820 rfl (lv_at hl 3 rfl) ?_
  refine lv_aload_n hx hb dL_law_821 rfl (lv_at hl 5 rfl) ?_
  refine lv_iload hx hb dL_law_822 (lv_at hl 1 rfl) ?_
  refine lv_iconst (v := 1) hx hb dL_law_824 (by decide) ?_
  refine lv_iadd hx hb dL_law_825 ?_
  obtain ⟨q, hf⟩ := zck_use hf
  refine va_sld hx hb hX hbl hbA hI.2.2.2.1 (zin_in q) dL_law_826 ?_
  obtain ⟨μ83, v84, g83, hf⟩ := zbl_use hf
  refine z_fcallVl (u := zHo ao co o81 ++ wC ad cy σ81) (w := wM am cm) (As := [.int (xs (x4 + 1).toNatClampNeg)]) (rest := []) hC (zI.swap hI) (zKM hI.1) (cX12_text_met st l D am cm μ (xs (x4 + 1).toNatClampNeg) _ g83) (zgV zw78_23 zw79_0 zw79_1 zw1_5 zw79_2) rfl ⟨rfl, rfl⟩ 1 hdX12_text ⟨Nat.le_of_ble_eq_true rfl, Nat.le_of_ble_eq_true rfl⟩ rfl rfl (wM_e0 am cm μ) rfl hl rfl (Nat.le_of_ble_eq_true rfl) dL_law_827 ⟨by show cells + 1 ≤ 600128; omega, by show slots + 6 ≤ 7301064; omega⟩ (fun H locs hI => ?_)
  have hI : zLw st D ad cy am cm ao co μ83 o81 σ81 s H locs := zI.swap hI
  refine lv_lstore (lv' := [(6, .long v84), (5, .int v82), (4, .int x4), (3, .ref ao), (2, .ref (am 0)), (1, .ref (ad 0)), (0, .ref b)]) hx hb dL_law_830 hl (by decide) rfl (fun ls hl => ?_)
  refine lv_goto (tgt := 1401) hx hb dL_law_832 (by decide) ?_
  obtain ⟨v85, ev85⟩ : ∃ z : Int32, z = x4 + 8 := ⟨_, rfl⟩
  replace hf := zbv_use ev85 hf
  refine lv_iinc (v := v85) (lv' := [(4, .int v85), (6, .long v84), (5, .int v82), (3, .ref ao), (2, .ref (am 0)), (1, .ref (ad 0)), (0, .ref b)]) hx hb dL_law_1401 hl (k := 2) rfl (by rw [ev85]; rfl) (by decide) rfl (fun ls hl => ?_)
  refine lv_goto (tgt := 33) hx hb dL_law_1404 (by decide) ?_
  exact hk _ _ _ _ _ _ _ _ _ (by omega) (by omega) hI (lv_sub hl [0, 3, 4, 5, 6] rfl) hf
def fLaw_835 (xs : Nat → Int32) (L : Nat) (kn : zSt → (Nat → Int64) → zSt → Int32 → Option Int32) (μ : zSt) (o : Nat → Int64) (σ : zSt) (x4 : Int32) : Option Int32 :=
  zck (zin (x4 + 1) L) (zck (zin (x4 + 2) L) (if (xs (x4 + 2).toNatClampNeg) = 0 then zbh (fL_stop o σ (xs (x4 + 1).toNatClampNeg) 0) (fun o86 σ86 v87 =>
  zck (zin (x4 + 1) L) (zck (zin (x4 + 2) L) (if (xs (x4 + 2).toNatClampNeg) = 0 then zbi (fX12_stop μ (xs (x4 + 1).toNatClampNeg) 0) (fun μ88 v89 =>
  zbv (x4 + 8) (fun v90 => kn μ88 o86 σ86 v90)) else
  zbi (fX12_stop μ (xs (x4 + 1).toNatClampNeg) 1) (fun μ91 v92 =>
  zbv (x4 + 8) (fun v93 => kn μ91 o86 σ86 v93))))) else
  zbh (fL_stop o σ (xs (x4 + 1).toNatClampNeg) 1) (fun o94 σ94 v95 =>
  zck (zin (x4 + 1) L) (zck (zin (x4 + 2) L) (if (xs (x4 + 2).toNatClampNeg) = 0 then zbi (fX12_stop μ (xs (x4 + 1).toNatClampNeg) 0) (fun μ96 v97 =>
  zbv (x4 + 8) (fun v98 => kn μ96 o94 σ94 v98)) else
  zbi (fX12_stop μ (xs (x4 + 1).toNatClampNeg) 1) (fun μ99 v100 =>
  zbv (x4 + 8) (fun v101 => kn μ99 o94 σ94 v101)))))))
set_option maxRecDepth 20000 in
set_option maxHeartbeats 4000000 in
theorem bLaw_835 {p : Program} {l : Launch} {e : Env} {s : State} {m : MethodId} {below : List Frame} {meth : Method} {c : Code} {st : Nat → Nat} {D : va_G} {b L : Nat} {xs : Nat → Int32} {ad am : Nat → Nat} {cy cm : Nat → ClassId} {ao : Nat} {co : ClassId} (hC : zC p m c cL_law 8 s #[Value.ref b] wzL_law RL meth ret) (hst : l.stackTraces = false) (hX : va_X b L xs s s.heap) (hbl : b < s.heap.size) (hbA : ¬ (fun q : Nat => s.heap.size ≤ q) b) {n : Nat} {kn : zSt → (Nat → Int64) → zSt → Int32 → Option Int32} (hk : ∀ (H : Heap) (locs : List Loc) (μ : zSt) (o : Nat → Int64) (σ : zSt) (ls : Array Slot) (x4 : Int32) (cells slots : Nat), cells + n ≤ 600128 → slots + 6 * n ≤ 7301064 → zLw st D ad cy am cm ao co μ o σ s H locs → lv_has ls 8 [(4, .int x4), (3, .ref ao), (2, .ref (am 0)), (1, .ref (ad 0)), (0, .ref b)] → kn μ o σ x4 = some 1 → W p l e room_1 s m #[Value.ref b] below meth c H locs cells slots (lw_Z below #[Value.ref b] s) (F0 m 33 ls [])) {H : Heap} {locs : List Loc} {μ : zSt} {o : Nat → Int64} {σ : zSt} {ls : Array Slot} {x4 : Int32} {cells slots : Nat} (hc : cells + (n + 1) ≤ 600128) (hs : slots + 6 * (n + 1) ≤ 7301064) (hI : zLw st D ad cy am cm ao co μ o σ s H locs) (hl : lv_has ls 8 [(4, .int x4), (3, .ref ao), (2, .ref (am 0)), (1, .ref (ad 0)), (0, .ref b)]) (hf : fLaw_835 xs L kn μ o σ x4 = some 1) : W p l e room_1 s m #[Value.ref b] below meth c H locs cells slots (lw_Z below #[Value.ref b] s) (F0 m 835 ls []) := by
  have hx := hC.1
  have hb := hC.2.1
  unfold fLaw_835 at hf
  refine lv_aload_n hx hb dL_law_835 rfl (lv_at hl 3 rfl) ?_
  refine lv_aload_n hx hb dL_law_836 rfl (lv_at hl 4 rfl) ?_
  refine lv_iload hx hb dL_law_837 (lv_at hl 0 rfl) ?_
  refine lv_iconst (v := 1) hx hb dL_law_839 (by decide) ?_
  refine lv_iadd hx hb dL_law_840 ?_
  obtain ⟨q, hf⟩ := zck_use hf
  refine va_sld hx hb hX hbl hbA hI.2.2.2.1 (zin_in q) dL_law_841 ?_
  refine lv_aload_n hx hb dL_law_842 rfl (lv_at hl 4 rfl) ?_
  refine lv_iload hx hb dL_law_843 (lv_at hl 0 rfl) ?_
  refine lv_iconst (v := 2) hx hb dL_law_845 (by decide) ?_
  refine lv_iadd hx hb dL_law_846 ?_
  obtain ⟨q, hf⟩ := zck_use hf
  refine va_sld hx hb hX hbl hbA hI.2.2.2.1 (zin_in q) dL_law_847 ?_
  refine lv_if_eq (tgt := 855) hx hb dL_law_848 (by decide) (fun q => ?_) (fun q => ?_)
  · replace hf := zif_t q hf
    refine lv_iconst (v := 0) hx hb dL_law_855 (by decide) ?_
    refine lv_aload_n hx hb dL_law_856 rfl (lv_at hl 1 rfl) ?_
    obtain ⟨o86, σ86, v87, g86, hf⟩ := zbh_use hf
    refine z_fcallH (u := wM am cm μ) (w := fun x : zHs => zHo ao co x.1 ++ wC ad cy x.2) (x := (o, σ)) (As := [.ref (ad 0), .int (xs (x4 + 1).toNatClampNeg), .int 0, .ref ao]) (rest := []) hC hI (zKH hI.1) (cL_stop_met st l hst D ad cy ao co o σ (xs (x4 + 1).toNatClampNeg) 0 _ g86) (zgS zw79_3 zw79_4 zw1_10 zw79_5) rfl ⟨rfl, rfl⟩ 4 hdL_stop ⟨Nat.le_of_ble_eq_true rfl, Nat.le_of_ble_eq_true rfl⟩ rfl hl rfl (Nat.le_of_ble_eq_true rfl) dL_law_857 ⟨by show cells + 1 ≤ 600128; omega, by show slots + 6 ≤ 7301064; omega⟩ (fun H locs hI => ?_)
    have hI : zLw st D ad cy am cm ao co μ o86 σ86 s H locs := hI
    refine lv_istore (lv' := [(5, .int v87), (4, .int x4), (3, .ref ao), (2, .ref (am 0)), (1, .ref (ad 0)), (0, .ref b)]) hx hb dL_law_860 hl (by decide) rfl (fun ls hl => ?_)
    refine lv_aload_n hx hb dL_law_862 rfl (lv_at hl 3 rfl) ?_
    refine lv_aload_n hx hb dL_law_863 rfl (lv_at hl 5 rfl) ?_
    refine lv_iload hx hb dL_law_864 (lv_at hl 1 rfl) ?_
    refine lv_iconst (v := 1) hx hb dL_law_866 (by decide) ?_
    refine lv_iadd hx hb dL_law_867 ?_
    obtain ⟨q, hf⟩ := zck_use hf
    refine va_sld hx hb hX hbl hbA hI.2.2.2.1 (zin_in q) dL_law_868 ?_
    refine lv_aload_n hx hb dL_law_869 rfl (lv_at hl 5 rfl) ?_
    refine lv_iload hx hb dL_law_870 (lv_at hl 1 rfl) ?_
    refine lv_iconst (v := 2) hx hb dL_law_872 (by decide) ?_
    refine lv_iadd hx hb dL_law_873 ?_
    obtain ⟨q, hf⟩ := zck_use hf
    refine va_sld hx hb hX hbl hbA hI.2.2.2.1 (zin_in q) dL_law_874 ?_
    refine lv_if_eq (tgt := 882) hx hb dL_law_875 (by decide) (fun q => ?_) (fun q => ?_)
    · replace hf := zif_t q hf
      refine lv_iconst (v := 0) hx hb dL_law_882 (by decide) ?_
      obtain ⟨μ88, v89, g88, hf⟩ := zbi_use hf
      refine z_fcallVi (u := zHo ao co o86 ++ wC ad cy σ86) (w := wM am cm) (As := [.int (xs (x4 + 1).toNatClampNeg), .int 0]) (rest := []) hC (zI.swap hI) (zKM hI.1) (cX12_stop_met st l D am cm μ (xs (x4 + 1).toNatClampNeg) 0 _ g88) (zgV zw79_20 zw79_21 zw79_22 zw1_5 zw79_23) rfl ⟨rfl, rfl⟩ 2 hdX12_stop ⟨Nat.le_of_ble_eq_true rfl, Nat.le_of_ble_eq_true rfl⟩ rfl rfl (wM_e0 am cm μ) rfl hl rfl (Nat.le_of_ble_eq_true rfl) dL_law_883 ⟨by show cells + 1 ≤ 600128; omega, by show slots + 6 ≤ 7301064; omega⟩ (fun H locs hI => ?_)
      have hI : zLw st D ad cy am cm ao co μ88 o86 σ86 s H locs := zI.swap hI
      refine lv_istore (lv' := [(6, .int v89), (5, .int v87), (4, .int x4), (3, .ref ao), (2, .ref (am 0)), (1, .ref (ad 0)), (0, .ref b)]) hx hb dL_law_886 hl (by decide) rfl (fun ls hl => ?_)
      refine lv_goto (tgt := 1401) hx hb dL_law_888 (by decide) ?_
      obtain ⟨v90, ev90⟩ : ∃ z : Int32, z = x4 + 8 := ⟨_, rfl⟩
      replace hf := zbv_use ev90 hf
      refine lv_iinc (v := v90) (lv' := [(4, .int v90), (6, .int v89), (5, .int v87), (3, .ref ao), (2, .ref (am 0)), (1, .ref (ad 0)), (0, .ref b)]) hx hb dL_law_1401 hl (k := 2) rfl (by rw [ev90]; rfl) (by decide) rfl (fun ls hl => ?_)
      refine lv_goto (tgt := 33) hx hb dL_law_1404 (by decide) ?_
      exact hk _ _ _ _ _ _ _ _ _ (by omega) (by omega) hI (lv_sub hl [0, 3, 4, 5, 6] rfl) hf
    replace hf := zif_f q hf
    refine lv_iconst (v := 1) hx hb dL_law_878 (by decide) ?_
    refine lv_goto (tgt := 883) hx hb dL_law_879 (by decide) ?_
    obtain ⟨μ91, v92, g91, hf⟩ := zbi_use hf
    refine z_fcallVi (u := zHo ao co o86 ++ wC ad cy σ86) (w := wM am cm) (As := [.int (xs (x4 + 1).toNatClampNeg), .int 1]) (rest := []) hC (zI.swap hI) (zKM hI.1) (cX12_stop_met st l D am cm μ (xs (x4 + 1).toNatClampNeg) 1 _ g91) (zgV zw79_20 zw79_21 zw79_22 zw1_5 zw79_23) rfl ⟨rfl, rfl⟩ 2 hdX12_stop ⟨Nat.le_of_ble_eq_true rfl, Nat.le_of_ble_eq_true rfl⟩ rfl rfl (wM_e0 am cm μ) rfl hl rfl (Nat.le_of_ble_eq_true rfl) dL_law_883 ⟨by show cells + 1 ≤ 600128; omega, by show slots + 6 ≤ 7301064; omega⟩ (fun H locs hI => ?_)
    have hI : zLw st D ad cy am cm ao co μ91 o86 σ86 s H locs := zI.swap hI
    refine lv_istore (lv' := [(6, .int v92), (5, .int v87), (4, .int x4), (3, .ref ao), (2, .ref (am 0)), (1, .ref (ad 0)), (0, .ref b)]) hx hb dL_law_886 hl (by decide) rfl (fun ls hl => ?_)
    refine lv_goto (tgt := 1401) hx hb dL_law_888 (by decide) ?_
    obtain ⟨v93, ev93⟩ : ∃ z : Int32, z = x4 + 8 := ⟨_, rfl⟩
    replace hf := zbv_use ev93 hf
    refine lv_iinc (v := v93) (lv' := [(4, .int v93), (6, .int v92), (5, .int v87), (3, .ref ao), (2, .ref (am 0)), (1, .ref (ad 0)), (0, .ref b)]) hx hb dL_law_1401 hl (k := 2) rfl (by rw [ev93]; rfl) (by decide) rfl (fun ls hl => ?_)
    refine lv_goto (tgt := 33) hx hb dL_law_1404 (by decide) ?_
    exact hk _ _ _ _ _ _ _ _ _ (by omega) (by omega) hI (lv_sub hl [0, 3, 4, 5, 6] rfl) hf
  replace hf := zif_f q hf
  refine lv_iconst (v := 1) hx hb dL_law_851 (by decide) ?_
  refine lv_goto (tgt := 856) hx hb dL_law_852 (by decide) ?_
  refine lv_aload_n hx hb dL_law_856 rfl (lv_at hl 1 rfl) ?_
  obtain ⟨o94, σ94, v95, g94, hf⟩ := zbh_use hf
  refine z_fcallH (u := wM am cm μ) (w := fun x : zHs => zHo ao co x.1 ++ wC ad cy x.2) (x := (o, σ)) (As := [.ref (ad 0), .int (xs (x4 + 1).toNatClampNeg), .int 1, .ref ao]) (rest := []) hC hI (zKH hI.1) (cL_stop_met st l hst D ad cy ao co o σ (xs (x4 + 1).toNatClampNeg) 1 _ g94) (zgS zw79_3 zw79_4 zw1_10 zw79_5) rfl ⟨rfl, rfl⟩ 4 hdL_stop ⟨Nat.le_of_ble_eq_true rfl, Nat.le_of_ble_eq_true rfl⟩ rfl hl rfl (Nat.le_of_ble_eq_true rfl) dL_law_857 ⟨by show cells + 1 ≤ 600128; omega, by show slots + 6 ≤ 7301064; omega⟩ (fun H locs hI => ?_)
  have hI : zLw st D ad cy am cm ao co μ o94 σ94 s H locs := hI
  refine lv_istore (lv' := [(5, .int v95), (4, .int x4), (3, .ref ao), (2, .ref (am 0)), (1, .ref (ad 0)), (0, .ref b)]) hx hb dL_law_860 hl (by decide) rfl (fun ls hl => ?_)
  refine lv_aload_n hx hb dL_law_862 rfl (lv_at hl 3 rfl) ?_
  refine lv_aload_n hx hb dL_law_863 rfl (lv_at hl 5 rfl) ?_
  refine lv_iload hx hb dL_law_864 (lv_at hl 1 rfl) ?_
  refine lv_iconst (v := 1) hx hb dL_law_866 (by decide) ?_
  refine lv_iadd hx hb dL_law_867 ?_
  obtain ⟨q, hf⟩ := zck_use hf
  refine va_sld hx hb hX hbl hbA hI.2.2.2.1 (zin_in q) dL_law_868 ?_
  refine lv_aload_n hx hb dL_law_869 rfl (lv_at hl 5 rfl) ?_
  refine lv_iload hx hb dL_law_870 (lv_at hl 1 rfl) ?_
  refine lv_iconst (v := 2) hx hb dL_law_872 (by decide) ?_
  refine lv_iadd hx hb dL_law_873 ?_
  obtain ⟨q, hf⟩ := zck_use hf
  refine va_sld hx hb hX hbl hbA hI.2.2.2.1 (zin_in q) dL_law_874 ?_
  refine lv_if_eq (tgt := 882) hx hb dL_law_875 (by decide) (fun q => ?_) (fun q => ?_)
  · replace hf := zif_t q hf
    refine lv_iconst (v := 0) hx hb dL_law_882 (by decide) ?_
    obtain ⟨μ96, v97, g96, hf⟩ := zbi_use hf
    refine z_fcallVi (u := zHo ao co o94 ++ wC ad cy σ94) (w := wM am cm) (As := [.int (xs (x4 + 1).toNatClampNeg), .int 0]) (rest := []) hC (zI.swap hI) (zKM hI.1) (cX12_stop_met st l D am cm μ (xs (x4 + 1).toNatClampNeg) 0 _ g96) (zgV zw79_20 zw79_21 zw79_22 zw1_5 zw79_23) rfl ⟨rfl, rfl⟩ 2 hdX12_stop ⟨Nat.le_of_ble_eq_true rfl, Nat.le_of_ble_eq_true rfl⟩ rfl rfl (wM_e0 am cm μ) rfl hl rfl (Nat.le_of_ble_eq_true rfl) dL_law_883 ⟨by show cells + 1 ≤ 600128; omega, by show slots + 6 ≤ 7301064; omega⟩ (fun H locs hI => ?_)
    have hI : zLw st D ad cy am cm ao co μ96 o94 σ94 s H locs := zI.swap hI
    refine lv_istore (lv' := [(6, .int v97), (5, .int v95), (4, .int x4), (3, .ref ao), (2, .ref (am 0)), (1, .ref (ad 0)), (0, .ref b)]) hx hb dL_law_886 hl (by decide) rfl (fun ls hl => ?_)
    refine lv_goto (tgt := 1401) hx hb dL_law_888 (by decide) ?_
    obtain ⟨v98, ev98⟩ : ∃ z : Int32, z = x4 + 8 := ⟨_, rfl⟩
    replace hf := zbv_use ev98 hf
    refine lv_iinc (v := v98) (lv' := [(4, .int v98), (6, .int v97), (5, .int v95), (3, .ref ao), (2, .ref (am 0)), (1, .ref (ad 0)), (0, .ref b)]) hx hb dL_law_1401 hl (k := 2) rfl (by rw [ev98]; rfl) (by decide) rfl (fun ls hl => ?_)
    refine lv_goto (tgt := 33) hx hb dL_law_1404 (by decide) ?_
    exact hk _ _ _ _ _ _ _ _ _ (by omega) (by omega) hI (lv_sub hl [0, 3, 4, 5, 6] rfl) hf
  replace hf := zif_f q hf
  refine lv_iconst (v := 1) hx hb dL_law_878 (by decide) ?_
  refine lv_goto (tgt := 883) hx hb dL_law_879 (by decide) ?_
  obtain ⟨μ99, v100, g99, hf⟩ := zbi_use hf
  refine z_fcallVi (u := zHo ao co o94 ++ wC ad cy σ94) (w := wM am cm) (As := [.int (xs (x4 + 1).toNatClampNeg), .int 1]) (rest := []) hC (zI.swap hI) (zKM hI.1) (cX12_stop_met st l D am cm μ (xs (x4 + 1).toNatClampNeg) 1 _ g99) (zgV zw79_20 zw79_21 zw79_22 zw1_5 zw79_23) rfl ⟨rfl, rfl⟩ 2 hdX12_stop ⟨Nat.le_of_ble_eq_true rfl, Nat.le_of_ble_eq_true rfl⟩ rfl rfl (wM_e0 am cm μ) rfl hl rfl (Nat.le_of_ble_eq_true rfl) dL_law_883 ⟨by show cells + 1 ≤ 600128; omega, by show slots + 6 ≤ 7301064; omega⟩ (fun H locs hI => ?_)
  have hI : zLw st D ad cy am cm ao co μ99 o94 σ94 s H locs := zI.swap hI
  refine lv_istore (lv' := [(6, .int v100), (5, .int v95), (4, .int x4), (3, .ref ao), (2, .ref (am 0)), (1, .ref (ad 0)), (0, .ref b)]) hx hb dL_law_886 hl (by decide) rfl (fun ls hl => ?_)
  refine lv_goto (tgt := 1401) hx hb dL_law_888 (by decide) ?_
  obtain ⟨v101, ev101⟩ : ∃ z : Int32, z = x4 + 8 := ⟨_, rfl⟩
  replace hf := zbv_use ev101 hf
  refine lv_iinc (v := v101) (lv' := [(4, .int v101), (6, .int v100), (5, .int v95), (3, .ref ao), (2, .ref (am 0)), (1, .ref (ad 0)), (0, .ref b)]) hx hb dL_law_1401 hl (k := 2) rfl (by rw [ev101]; rfl) (by decide) rfl (fun ls hl => ?_)
  refine lv_goto (tgt := 33) hx hb dL_law_1404 (by decide) ?_
  exact hk _ _ _ _ _ _ _ _ _ (by omega) (by omega) hI (lv_sub hl [0, 3, 4, 5, 6] rfl) hf
def fLaw_891 (xs : Nat → Int32) (L : Nat) (kn : zSt → (Nat → Int64) → zSt → Int32 → Option Int32) (μ : zSt) (o : Nat → Int64) (σ : zSt) (x4 : Int32) : Option Int32 :=
  zbu (fX11_save σ ) (fun σ102 =>
  zbu (fX12_save μ ) (fun μ103 =>
  zbv (x4 + 8) (fun v104 => kn μ103 o σ102 v104)))
set_option maxRecDepth 20000 in
set_option maxHeartbeats 4000000 in
theorem bLaw_891 {p : Program} {l : Launch} {e : Env} {s : State} {m : MethodId} {below : List Frame} {meth : Method} {c : Code} {st : Nat → Nat} {D : va_G} {b L : Nat} {xs : Nat → Int32} {ad am : Nat → Nat} {cy cm : Nat → ClassId} {ao : Nat} {co : ClassId} (hC : zC p m c cL_law 8 s #[Value.ref b] wzL_law RL meth ret) (hst : l.stackTraces = false) (hX : va_X b L xs s s.heap) (hbl : b < s.heap.size) (hbA : ¬ (fun q : Nat => s.heap.size ≤ q) b) {n : Nat} {kn : zSt → (Nat → Int64) → zSt → Int32 → Option Int32} (hk : ∀ (H : Heap) (locs : List Loc) (μ : zSt) (o : Nat → Int64) (σ : zSt) (ls : Array Slot) (x4 : Int32) (cells slots : Nat), cells + n ≤ 600128 → slots + 6 * n ≤ 7301064 → zLw st D ad cy am cm ao co μ o σ s H locs → lv_has ls 8 [(4, .int x4), (3, .ref ao), (2, .ref (am 0)), (1, .ref (ad 0)), (0, .ref b)] → kn μ o σ x4 = some 1 → W p l e room_1 s m #[Value.ref b] below meth c H locs cells slots (lw_Z below #[Value.ref b] s) (F0 m 33 ls [])) {H : Heap} {locs : List Loc} {μ : zSt} {o : Nat → Int64} {σ : zSt} {ls : Array Slot} {x4 : Int32} {cells slots : Nat} (hc : cells + (n + 1) ≤ 600128) (hs : slots + 6 * (n + 1) ≤ 7301064) (hI : zLw st D ad cy am cm ao co μ o σ s H locs) (hl : lv_has ls 8 [(4, .int x4), (3, .ref ao), (2, .ref (am 0)), (1, .ref (ad 0)), (0, .ref b)]) (hf : fLaw_891 xs L kn μ o σ x4 = some 1) : W p l e room_1 s m #[Value.ref b] below meth c H locs cells slots (lw_Z below #[Value.ref b] s) (F0 m 891 ls []) := by
  have hx := hC.1
  have hb := hC.2.1
  unfold fLaw_891 at hf
  refine lv_aload_n hx hb dL_law_891 rfl (lv_at hl 3 rfl) ?_
  obtain ⟨σ102, g102, hf⟩ := zbu_use hf
  refine z_fcallVu (u := wM am cm μ ++ zHo ao co o) (w := wC ad cy) (As := []) (rest := []) hC (zI.al hI) (zKC hI.1) (cX11_save_met st l D ad cy σ  _ g102) (zgV zw80_1 zw80_2 zw80_3 zw1_2 zw80_4) rfl ⟨rfl, rfl⟩ 0 hdX11_save ⟨Nat.le_of_ble_eq_true rfl, Nat.le_of_ble_eq_true rfl⟩ rfl rfl (wC_e0 ad cy σ) rfl hl rfl (Nat.le_of_ble_eq_true rfl) dL_law_892 ⟨by show cells ≤ 600128; omega, by show slots ≤ 7301064; omega⟩ (fun H locs hI => ?_)
  have hI : zLw st D ad cy am cm ao co μ o σ102 s H locs := zI.ar hI
  refine lv_aload_n hx hb dL_law_895 rfl (lv_at hl 2 rfl) ?_
  obtain ⟨μ103, g103, hf⟩ := zbu_use hf
  refine z_fcallVu (u := zHo ao co o ++ wC ad cy σ102) (w := wM am cm) (As := []) (rest := []) hC (zI.swap hI) (zKM hI.1) (cX12_save_met st l D am cm μ  _ g103) (zgV zw82_12 zw82_13 zw82_14 zw1_5 zw82_15) rfl ⟨rfl, rfl⟩ 0 hdX12_save ⟨Nat.le_of_ble_eq_true rfl, Nat.le_of_ble_eq_true rfl⟩ rfl rfl (wM_e0 am cm μ) rfl hl rfl (Nat.le_of_ble_eq_true rfl) dL_law_896 ⟨by show cells ≤ 600128; omega, by show slots ≤ 7301064; omega⟩ (fun H locs hI => ?_)
  have hI : zLw st D ad cy am cm ao co μ103 o σ102 s H locs := zI.swap hI
  refine lv_goto (tgt := 1401) hx hb dL_law_899 (by decide) ?_
  obtain ⟨v104, ev104⟩ : ∃ z : Int32, z = x4 + 8 := ⟨_, rfl⟩
  replace hf := zbv_use ev104 hf
  refine lv_iinc (v := v104) (lv' := [(4, .int v104), (3, .ref ao), (2, .ref (am 0)), (1, .ref (ad 0)), (0, .ref b)]) hx hb dL_law_1401 hl (k := 0) rfl (by rw [ev104]; rfl) (by decide) rfl (fun ls hl => ?_)
  refine lv_goto (tgt := 33) hx hb dL_law_1404 (by decide) ?_
  exact hk _ _ _ _ _ _ _ _ _ (by omega) (by omega) hI (lv_sub hl [0, 1, 2, 3, 4] rfl) hf
def fLaw_902 (xs : Nat → Int32) (L : Nat) (kn : zSt → (Nat → Int64) → zSt → Int32 → Option Int32) (μ : zSt) (o : Nat → Int64) (σ : zSt) (x4 : Int32) : Option Int32 :=
  zbi (fL_restore σ ) (fun σ105 v106 =>
  zbu (fX12_restore μ ) (fun μ107 =>
  zbv (x4 + 8) (fun v108 => kn μ107 o σ105 v108)))
set_option maxRecDepth 20000 in
set_option maxHeartbeats 4000000 in
theorem bLaw_902 {p : Program} {l : Launch} {e : Env} {s : State} {m : MethodId} {below : List Frame} {meth : Method} {c : Code} {st : Nat → Nat} {D : va_G} {b L : Nat} {xs : Nat → Int32} {ad am : Nat → Nat} {cy cm : Nat → ClassId} {ao : Nat} {co : ClassId} (hC : zC p m c cL_law 8 s #[Value.ref b] wzL_law RL meth ret) (hst : l.stackTraces = false) (hX : va_X b L xs s s.heap) (hbl : b < s.heap.size) (hbA : ¬ (fun q : Nat => s.heap.size ≤ q) b) {n : Nat} {kn : zSt → (Nat → Int64) → zSt → Int32 → Option Int32} (hk : ∀ (H : Heap) (locs : List Loc) (μ : zSt) (o : Nat → Int64) (σ : zSt) (ls : Array Slot) (x4 : Int32) (cells slots : Nat), cells + n ≤ 600128 → slots + 6 * n ≤ 7301064 → zLw st D ad cy am cm ao co μ o σ s H locs → lv_has ls 8 [(4, .int x4), (3, .ref ao), (2, .ref (am 0)), (1, .ref (ad 0)), (0, .ref b)] → kn μ o σ x4 = some 1 → W p l e room_1 s m #[Value.ref b] below meth c H locs cells slots (lw_Z below #[Value.ref b] s) (F0 m 33 ls [])) {H : Heap} {locs : List Loc} {μ : zSt} {o : Nat → Int64} {σ : zSt} {ls : Array Slot} {x4 : Int32} {cells slots : Nat} (hc : cells + (n + 1) ≤ 600128) (hs : slots + 6 * (n + 1) ≤ 7301064) (hI : zLw st D ad cy am cm ao co μ o σ s H locs) (hl : lv_has ls 8 [(4, .int x4), (3, .ref ao), (2, .ref (am 0)), (1, .ref (ad 0)), (0, .ref b)]) (hf : fLaw_902 xs L kn μ o σ x4 = some 1) : W p l e room_1 s m #[Value.ref b] below meth c H locs cells slots (lw_Z below #[Value.ref b] s) (F0 m 902 ls []) := by
  have hx := hC.1
  have hb := hC.2.1
  unfold fLaw_902 at hf
  refine lv_aload_n hx hb dL_law_902 rfl (lv_at hl 3 rfl) ?_
  obtain ⟨σ105, v106, g105, hf⟩ := zbi_use hf
  refine z_fcallH (u := wM am cm μ ++ zHo ao co o) (w := wC ad cy) (x := σ) (As := [.ref (ad 0)]) (rest := []) hC (zI.al hI) (zKC hI.1) (cL_restore_met st l hst D ad cy σ  _ g105) (zgS zw82_16 zw82_17 zw1_10 zw82_18) rfl ⟨rfl, rfl⟩ 1 hdL_restore ⟨Nat.le_of_ble_eq_true rfl, Nat.le_of_ble_eq_true rfl⟩ rfl hl rfl (Nat.le_of_ble_eq_true rfl) dL_law_903 ⟨by show cells + 1 ≤ 600128; omega, by show slots + 6 ≤ 7301064; omega⟩ (fun H locs hI => ?_)
  have hI : zLw st D ad cy am cm ao co μ o σ105 s H locs := zI.ar hI
  refine lv_istore (lv' := [(5, .int v106), (4, .int x4), (3, .ref ao), (2, .ref (am 0)), (1, .ref (ad 0)), (0, .ref b)]) hx hb dL_law_906 hl (by decide) rfl (fun ls hl => ?_)
  refine lv_aload_n hx hb dL_law_908 rfl (lv_at hl 3 rfl) ?_
  obtain ⟨μ107, g107, hf⟩ := zbu_use hf
  refine z_fcallVu (u := zHo ao co o ++ wC ad cy σ105) (w := wM am cm) (As := []) (rest := []) hC (zI.swap hI) (zKM hI.1) (cX12_restore_met st l D am cm μ  _ g107) (zgV zw84_16 zw84_17 zw84_18 zw1_5 zw84_19) rfl ⟨rfl, rfl⟩ 0 hdX12_restore ⟨Nat.le_of_ble_eq_true rfl, Nat.le_of_ble_eq_true rfl⟩ rfl rfl (wM_e0 am cm μ) rfl hl rfl (Nat.le_of_ble_eq_true rfl) dL_law_909 ⟨by show cells + 1 ≤ 600128; omega, by show slots + 6 ≤ 7301064; omega⟩ (fun H locs hI => ?_)
  have hI : zLw st D ad cy am cm ao co μ107 o σ105 s H locs := zI.swap hI
  refine lv_goto (tgt := 1401) hx hb dL_law_912 (by decide) ?_
  obtain ⟨v108, ev108⟩ : ∃ z : Int32, z = x4 + 8 := ⟨_, rfl⟩
  replace hf := zbv_use ev108 hf
  refine lv_iinc (v := v108) (lv' := [(4, .int v108), (5, .int v106), (3, .ref ao), (2, .ref (am 0)), (1, .ref (ad 0)), (0, .ref b)]) hx hb dL_law_1401 hl (k := 1) rfl (by rw [ev108]; rfl) (by decide) rfl (fun ls hl => ?_)
  refine lv_goto (tgt := 33) hx hb dL_law_1404 (by decide) ?_
  exact hk _ _ _ _ _ _ _ _ _ (by omega) (by omega) hI (lv_sub hl [0, 2, 3, 4, 5] rfl) hf
