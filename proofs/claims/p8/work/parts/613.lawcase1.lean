def fLaw_618 (xs : Nat → Int32) (L : Nat) (kn : zSt → (Nat → Int64) → zSt → Int32 → Option Int32) (μ : zSt) (o : Nat → Int64) (σ : zSt) (x4 : Int32) : Option Int32 :=
  zck (zin (x4 + 1) L) (zck (zin (x4 + 2) L) (zbi (fL_press σ (xs (x4 + 1).toNatClampNeg) (xs (x4 + 2).toNatClampNeg)) (fun σ46 v47 =>
  zck (zin (x4 + 1) L) (zck (zin (x4 + 2) L) (zbu (fX12_press μ (xs (x4 + 1).toNatClampNeg) (xs (x4 + 2).toNatClampNeg)) (fun μ48 =>
  zbv (x4 + 8) (fun v49 => kn μ48 o σ46 v49)))))))
set_option maxRecDepth 20000 in
set_option maxHeartbeats 4000000 in
theorem bLaw_618 {p : Program} {l : Launch} {e : Env} {s : State} {m : MethodId} {below : List Frame} {meth : Method} {c : Code} {st : Nat → Nat} {D : va_G} {b L : Nat} {xs : Nat → Int32} {ad am : Nat → Nat} {cy cm : Nat → ClassId} {ao : Nat} {co : ClassId} (hC : zC p m c cL_law 8 s #[Value.ref b] wzL_law RL meth ret) (hst : l.stackTraces = false) (hX : va_X b L xs s s.heap) (hbl : b < s.heap.size) (hbA : ¬ (fun q : Nat => s.heap.size ≤ q) b) {n : Nat} {kn : zSt → (Nat → Int64) → zSt → Int32 → Option Int32} (hk : ∀ (H : Heap) (locs : List Loc) (μ : zSt) (o : Nat → Int64) (σ : zSt) (ls : Array Slot) (x4 : Int32) (cells slots : Nat), cells + n ≤ 600128 → slots + 6 * n ≤ 7301064 → zLw st D ad cy am cm ao co μ o σ s H locs → lv_has ls 8 [(4, .int x4), (3, .ref ao), (2, .ref (am 0)), (1, .ref (ad 0)), (0, .ref b)] → kn μ o σ x4 = some 1 → W p l e room_1 s m #[Value.ref b] below meth c H locs cells slots (lw_Z below #[Value.ref b] s) (F0 m 33 ls [])) {H : Heap} {locs : List Loc} {μ : zSt} {o : Nat → Int64} {σ : zSt} {ls : Array Slot} {x4 : Int32} {cells slots : Nat} (hc : cells + (n + 1) ≤ 600128) (hs : slots + 6 * (n + 1) ≤ 7301064) (hI : zLw st D ad cy am cm ao co μ o σ s H locs) (hl : lv_has ls 8 [(4, .int x4), (3, .ref ao), (2, .ref (am 0)), (1, .ref (ad 0)), (0, .ref b)]) (hf : fLaw_618 xs L kn μ o σ x4 = some 1) : W p l e room_1 s m #[Value.ref b] below meth c H locs cells slots (lw_Z below #[Value.ref b] s) (F0 m 618 ls []) := by
  have hx := hC.1
  have hb := hC.2.1
  unfold fLaw_618 at hf
  refine lv_aload_n hx hb dL_law_618 rfl (lv_at hl 3 rfl) ?_
  refine lv_aload_n hx hb dL_law_619 rfl (lv_at hl 4 rfl) ?_
  refine lv_iload hx hb dL_law_620 (lv_at hl 0 rfl) ?_
  refine lv_iconst (v := 1) hx hb dL_law_622 (by decide) ?_
  refine lv_iadd hx hb dL_law_623 ?_
  obtain ⟨q, hf⟩ := zck_use hf
  refine va_sld hx hb hX hbl hbA hI.2.2.2.1 (zin_in q) dL_law_624 ?_
  refine lv_aload_n hx hb dL_law_625 rfl (lv_at hl 4 rfl) ?_
  refine lv_iload hx hb dL_law_626 (lv_at hl 0 rfl) ?_
  refine lv_iconst (v := 2) hx hb dL_law_628 (by decide) ?_
  refine lv_iadd hx hb dL_law_629 ?_
  obtain ⟨q, hf⟩ := zck_use hf
  refine va_sld hx hb hX hbl hbA hI.2.2.2.1 (zin_in q) dL_law_630 ?_
  obtain ⟨σ46, v47, g46, hf⟩ := zbi_use hf
  refine z_fcallH (u := wM am cm μ ++ zHo ao co o) (w := wC ad cy) (x := σ) (As := [.ref (ad 0), .int (xs (x4 + 1).toNatClampNeg), .int (xs (x4 + 2).toNatClampNeg)]) (rest := []) hC (zI.al hI) (zKC hI.1) (cL_press_met st l hst D ad cy σ (xs (x4 + 1).toNatClampNeg) (xs (x4 + 2).toNatClampNeg) _ g46) (zgS zw67_7 zw67_8 zw1_10 zw67_9) rfl ⟨rfl, rfl⟩ 3 hdL_press ⟨Nat.le_of_ble_eq_true rfl, Nat.le_of_ble_eq_true rfl⟩ rfl hl rfl (Nat.le_of_ble_eq_true rfl) dL_law_631 ⟨by show cells + 1 ≤ 600128; omega, by show slots + 6 ≤ 7301064; omega⟩ (fun H locs hI => ?_)
  have hI : zLw st D ad cy am cm ao co μ o σ46 s H locs := zI.ar hI
  refine lv_istore (lv' := [(5, .int v47), (4, .int x4), (3, .ref ao), (2, .ref (am 0)), (1, .ref (ad 0)), (0, .ref b)]) hx hb dL_law_634 hl (by decide) rfl (fun ls hl => ?_)
  refine lv_aload_n hx hb dL_law_636 rfl (lv_at hl 3 rfl) ?_
  refine lv_aload_n hx hb dL_law_637 rfl (lv_at hl 5 rfl) ?_
  refine lv_iload hx hb dL_law_638 (lv_at hl 1 rfl) ?_
  refine lv_iconst (v := 1) hx hb dL_law_640 (by decide) ?_
  refine lv_iadd hx hb dL_law_641 ?_
  obtain ⟨q, hf⟩ := zck_use hf
  refine va_sld hx hb hX hbl hbA hI.2.2.2.1 (zin_in q) dL_law_642 ?_
  refine lv_aload_n hx hb dL_law_643 rfl (lv_at hl 5 rfl) ?_
  refine lv_iload hx hb dL_law_644 (lv_at hl 1 rfl) ?_
  refine lv_iconst (v := 2) hx hb dL_law_646 (by decide) ?_
  refine lv_iadd hx hb dL_law_647 ?_
  obtain ⟨q, hf⟩ := zck_use hf
  refine va_sld hx hb hX hbl hbA hI.2.2.2.1 (zin_in q) dL_law_648 ?_
  obtain ⟨μ48, g48, hf⟩ := zbu_use hf
  refine z_fcallVu (u := zHo ao co o ++ wC ad cy σ46) (w := wM am cm) (As := [.int (xs (x4 + 1).toNatClampNeg), .int (xs (x4 + 2).toNatClampNeg)]) (rest := []) hC (zI.swap hI) (zKM hI.1) (cX12_press_met st l D am cm μ (xs (x4 + 1).toNatClampNeg) (xs (x4 + 2).toNatClampNeg) _ g48) (zgV zw67_18 zw67_19 zw67_20 zw1_5 zw67_21) rfl ⟨rfl, rfl⟩ 2 hdX12_press ⟨Nat.le_of_ble_eq_true rfl, Nat.le_of_ble_eq_true rfl⟩ rfl rfl (wM_e0 am cm μ) rfl hl rfl (Nat.le_of_ble_eq_true rfl) dL_law_649 ⟨by show cells + 1 ≤ 600128; omega, by show slots + 6 ≤ 7301064; omega⟩ (fun H locs hI => ?_)
  have hI : zLw st D ad cy am cm ao co μ48 o σ46 s H locs := zI.swap hI
  refine lv_goto (tgt := 1418) hx hb dL_law_652 (by decide) ?_
  obtain ⟨v49, ev49⟩ : ∃ z : Int32, z = x4 + 8 := ⟨_, rfl⟩
  replace hf := zbv_use ev49 hf
  refine lv_iinc (v := v49) (lv' := [(4, .int v49), (5, .int v47), (3, .ref ao), (2, .ref (am 0)), (1, .ref (ad 0)), (0, .ref b)]) hx hb dL_law_1418 hl (k := 1) rfl (by rw [ev49]; rfl) (by decide) rfl (fun ls hl => ?_)
  refine lv_goto (tgt := 33) hx hb dL_law_1421 (by decide) ?_
  exact hk _ _ _ _ _ _ _ _ _ (by omega) (by omega) hI (lv_sub hl [0, 2, 3, 4, 5] rfl) hf
def fLaw_655 (xs : Nat → Int32) (L : Nat) (kn : zSt → (Nat → Int64) → zSt → Int32 → Option Int32) (μ : zSt) (o : Nat → Int64) (σ : zSt) (x4 : Int32) : Option Int32 :=
  zck (zin (x4 + 1) L) (if (xs (x4 + 1).toNatClampNeg) = 0 then zbu (fX11_start σ 0) (fun σ50 =>
  zck (zin (x4 + 1) L) (if (xs (x4 + 1).toNatClampNeg) = 0 then zbu (fX12_start μ 0) (fun μ51 =>
  zbv (x4 + 8) (fun v52 => kn μ51 o σ50 v52)) else
  zbu (fX12_start μ 1) (fun μ53 =>
  zbv (x4 + 8) (fun v54 => kn μ53 o σ50 v54)))) else
  zbu (fX11_start σ 1) (fun σ55 =>
  zck (zin (x4 + 1) L) (if (xs (x4 + 1).toNatClampNeg) = 0 then zbu (fX12_start μ 0) (fun μ56 =>
  zbv (x4 + 8) (fun v57 => kn μ56 o σ55 v57)) else
  zbu (fX12_start μ 1) (fun μ58 =>
  zbv (x4 + 8) (fun v59 => kn μ58 o σ55 v59)))))
set_option maxRecDepth 20000 in
set_option maxHeartbeats 4000000 in
theorem bLaw_655 {p : Program} {l : Launch} {e : Env} {s : State} {m : MethodId} {below : List Frame} {meth : Method} {c : Code} {st : Nat → Nat} {D : va_G} {b L : Nat} {xs : Nat → Int32} {ad am : Nat → Nat} {cy cm : Nat → ClassId} {ao : Nat} {co : ClassId} (hC : zC p m c cL_law 8 s #[Value.ref b] wzL_law RL meth ret) (hst : l.stackTraces = false) (hX : va_X b L xs s s.heap) (hbl : b < s.heap.size) (hbA : ¬ (fun q : Nat => s.heap.size ≤ q) b) {n : Nat} {kn : zSt → (Nat → Int64) → zSt → Int32 → Option Int32} (hk : ∀ (H : Heap) (locs : List Loc) (μ : zSt) (o : Nat → Int64) (σ : zSt) (ls : Array Slot) (x4 : Int32) (cells slots : Nat), cells + n ≤ 600128 → slots + 6 * n ≤ 7301064 → zLw st D ad cy am cm ao co μ o σ s H locs → lv_has ls 8 [(4, .int x4), (3, .ref ao), (2, .ref (am 0)), (1, .ref (ad 0)), (0, .ref b)] → kn μ o σ x4 = some 1 → W p l e room_1 s m #[Value.ref b] below meth c H locs cells slots (lw_Z below #[Value.ref b] s) (F0 m 33 ls [])) {H : Heap} {locs : List Loc} {μ : zSt} {o : Nat → Int64} {σ : zSt} {ls : Array Slot} {x4 : Int32} {cells slots : Nat} (hc : cells + (n + 1) ≤ 600128) (hs : slots + 6 * (n + 1) ≤ 7301064) (hI : zLw st D ad cy am cm ao co μ o σ s H locs) (hl : lv_has ls 8 [(4, .int x4), (3, .ref ao), (2, .ref (am 0)), (1, .ref (ad 0)), (0, .ref b)]) (hf : fLaw_655 xs L kn μ o σ x4 = some 1) : W p l e room_1 s m #[Value.ref b] below meth c H locs cells slots (lw_Z below #[Value.ref b] s) (F0 m 655 ls []) := by
  have hx := hC.1
  have hb := hC.2.1
  unfold fLaw_655 at hf
  refine lv_aload_n hx hb dL_law_655 rfl (lv_at hl 3 rfl) ?_
  refine lv_aload_n hx hb dL_law_656 rfl (lv_at hl 4 rfl) ?_
  refine lv_iload hx hb dL_law_657 (lv_at hl 0 rfl) ?_
  refine lv_iconst (v := 1) hx hb dL_law_659 (by decide) ?_
  refine lv_iadd hx hb dL_law_660 ?_
  obtain ⟨q, hf⟩ := zck_use hf
  refine va_sld hx hb hX hbl hbA hI.2.2.2.1 (zin_in q) dL_law_661 ?_
  refine lv_if_eq (tgt := 669) hx hb dL_law_662 (by decide) (fun q => ?_) (fun q => ?_)
  · replace hf := zif_t q hf
    refine lv_iconst (v := 0) hx hb dL_law_669 (by decide) ?_
    obtain ⟨σ50, g50, hf⟩ := zbu_use hf
    refine z_fcallVu (u := wM am cm μ ++ zHo ao co o) (w := wC ad cy) (As := [.int 0]) (rest := []) hC (zI.al hI) (zKC hI.1) (cX11_start_met st l D ad cy σ 0 _ g50) (zgV zw67_23 zw68_0 zw68_1 zw1_2 zw68_2) rfl ⟨rfl, rfl⟩ 1 hdX11_start ⟨Nat.le_of_ble_eq_true rfl, Nat.le_of_ble_eq_true rfl⟩ rfl rfl (wC_e0 ad cy σ) rfl hl rfl (Nat.le_of_ble_eq_true rfl) dL_law_670 ⟨by show cells ≤ 600128; omega, by show slots ≤ 7301064; omega⟩ (fun H locs hI => ?_)
    have hI : zLw st D ad cy am cm ao co μ o σ50 s H locs := zI.ar hI
    refine lv_aload_n hx hb dL_law_673 rfl (lv_at hl 2 rfl) ?_
    refine lv_aload_n hx hb dL_law_674 rfl (lv_at hl 4 rfl) ?_
    refine lv_iload hx hb dL_law_675 (lv_at hl 0 rfl) ?_
    refine lv_iconst (v := 1) hx hb dL_law_677 (by decide) ?_
    refine lv_iadd hx hb dL_law_678 ?_
    obtain ⟨q, hf⟩ := zck_use hf
    refine va_sld hx hb hX hbl hbA hI.2.2.2.1 (zin_in q) dL_law_679 ?_
    refine lv_if_eq (tgt := 687) hx hb dL_law_680 (by decide) (fun q => ?_) (fun q => ?_)
    · replace hf := zif_t q hf
      refine lv_iconst (v := 0) hx hb dL_law_687 (by decide) ?_
      obtain ⟨μ51, g51, hf⟩ := zbu_use hf
      refine z_fcallVu (u := zHo ao co o ++ wC ad cy σ50) (w := wM am cm) (As := [.int 0]) (rest := []) hC (zI.swap hI) (zKM hI.1) (cX12_start_met st l D am cm μ 0 _ g51) (zgV zw68_7 zw68_8 zw68_9 zw1_5 zw68_10) rfl ⟨rfl, rfl⟩ 1 hdX12_start ⟨Nat.le_of_ble_eq_true rfl, Nat.le_of_ble_eq_true rfl⟩ rfl rfl (wM_e0 am cm μ) rfl hl rfl (Nat.le_of_ble_eq_true rfl) dL_law_688 ⟨by show cells ≤ 600128; omega, by show slots ≤ 7301064; omega⟩ (fun H locs hI => ?_)
      have hI : zLw st D ad cy am cm ao co μ51 o σ50 s H locs := zI.swap hI
      refine lv_goto (tgt := 1418) hx hb dL_law_691 (by decide) ?_
      obtain ⟨v52, ev52⟩ : ∃ z : Int32, z = x4 + 8 := ⟨_, rfl⟩
      replace hf := zbv_use ev52 hf
      refine lv_iinc (v := v52) (lv' := [(4, .int v52), (3, .ref ao), (2, .ref (am 0)), (1, .ref (ad 0)), (0, .ref b)]) hx hb dL_law_1418 hl (k := 0) rfl (by rw [ev52]; rfl) (by decide) rfl (fun ls hl => ?_)
      refine lv_goto (tgt := 33) hx hb dL_law_1421 (by decide) ?_
      exact hk _ _ _ _ _ _ _ _ _ (by omega) (by omega) hI (lv_sub hl [0, 1, 2, 3, 4] rfl) hf
    replace hf := zif_f q hf
    refine lv_iconst (v := 1) hx hb dL_law_683 (by decide) ?_
    refine lv_goto (tgt := 688) hx hb dL_law_684 (by decide) ?_
    obtain ⟨μ53, g53, hf⟩ := zbu_use hf
    refine z_fcallVu (u := zHo ao co o ++ wC ad cy σ50) (w := wM am cm) (As := [.int 1]) (rest := []) hC (zI.swap hI) (zKM hI.1) (cX12_start_met st l D am cm μ 1 _ g53) (zgV zw68_7 zw68_8 zw68_9 zw1_5 zw68_10) rfl ⟨rfl, rfl⟩ 1 hdX12_start ⟨Nat.le_of_ble_eq_true rfl, Nat.le_of_ble_eq_true rfl⟩ rfl rfl (wM_e0 am cm μ) rfl hl rfl (Nat.le_of_ble_eq_true rfl) dL_law_688 ⟨by show cells ≤ 600128; omega, by show slots ≤ 7301064; omega⟩ (fun H locs hI => ?_)
    have hI : zLw st D ad cy am cm ao co μ53 o σ50 s H locs := zI.swap hI
    refine lv_goto (tgt := 1418) hx hb dL_law_691 (by decide) ?_
    obtain ⟨v54, ev54⟩ : ∃ z : Int32, z = x4 + 8 := ⟨_, rfl⟩
    replace hf := zbv_use ev54 hf
    refine lv_iinc (v := v54) (lv' := [(4, .int v54), (3, .ref ao), (2, .ref (am 0)), (1, .ref (ad 0)), (0, .ref b)]) hx hb dL_law_1418 hl (k := 0) rfl (by rw [ev54]; rfl) (by decide) rfl (fun ls hl => ?_)
    refine lv_goto (tgt := 33) hx hb dL_law_1421 (by decide) ?_
    exact hk _ _ _ _ _ _ _ _ _ (by omega) (by omega) hI (lv_sub hl [0, 1, 2, 3, 4] rfl) hf
  replace hf := zif_f q hf
  refine lv_iconst (v := 1) hx hb dL_law_665 (by decide) ?_
  refine lv_goto (tgt := 670) hx hb dL_law_666 (by decide) ?_
  obtain ⟨σ55, g55, hf⟩ := zbu_use hf
  refine z_fcallVu (u := wM am cm μ ++ zHo ao co o) (w := wC ad cy) (As := [.int 1]) (rest := []) hC (zI.al hI) (zKC hI.1) (cX11_start_met st l D ad cy σ 1 _ g55) (zgV zw67_23 zw68_0 zw68_1 zw1_2 zw68_2) rfl ⟨rfl, rfl⟩ 1 hdX11_start ⟨Nat.le_of_ble_eq_true rfl, Nat.le_of_ble_eq_true rfl⟩ rfl rfl (wC_e0 ad cy σ) rfl hl rfl (Nat.le_of_ble_eq_true rfl) dL_law_670 ⟨by show cells ≤ 600128; omega, by show slots ≤ 7301064; omega⟩ (fun H locs hI => ?_)
  have hI : zLw st D ad cy am cm ao co μ o σ55 s H locs := zI.ar hI
  refine lv_aload_n hx hb dL_law_673 rfl (lv_at hl 2 rfl) ?_
  refine lv_aload_n hx hb dL_law_674 rfl (lv_at hl 4 rfl) ?_
  refine lv_iload hx hb dL_law_675 (lv_at hl 0 rfl) ?_
  refine lv_iconst (v := 1) hx hb dL_law_677 (by decide) ?_
  refine lv_iadd hx hb dL_law_678 ?_
  obtain ⟨q, hf⟩ := zck_use hf
  refine va_sld hx hb hX hbl hbA hI.2.2.2.1 (zin_in q) dL_law_679 ?_
  refine lv_if_eq (tgt := 687) hx hb dL_law_680 (by decide) (fun q => ?_) (fun q => ?_)
  · replace hf := zif_t q hf
    refine lv_iconst (v := 0) hx hb dL_law_687 (by decide) ?_
    obtain ⟨μ56, g56, hf⟩ := zbu_use hf
    refine z_fcallVu (u := zHo ao co o ++ wC ad cy σ55) (w := wM am cm) (As := [.int 0]) (rest := []) hC (zI.swap hI) (zKM hI.1) (cX12_start_met st l D am cm μ 0 _ g56) (zgV zw68_7 zw68_8 zw68_9 zw1_5 zw68_10) rfl ⟨rfl, rfl⟩ 1 hdX12_start ⟨Nat.le_of_ble_eq_true rfl, Nat.le_of_ble_eq_true rfl⟩ rfl rfl (wM_e0 am cm μ) rfl hl rfl (Nat.le_of_ble_eq_true rfl) dL_law_688 ⟨by show cells ≤ 600128; omega, by show slots ≤ 7301064; omega⟩ (fun H locs hI => ?_)
    have hI : zLw st D ad cy am cm ao co μ56 o σ55 s H locs := zI.swap hI
    refine lv_goto (tgt := 1418) hx hb dL_law_691 (by decide) ?_
    obtain ⟨v57, ev57⟩ : ∃ z : Int32, z = x4 + 8 := ⟨_, rfl⟩
    replace hf := zbv_use ev57 hf
    refine lv_iinc (v := v57) (lv' := [(4, .int v57), (3, .ref ao), (2, .ref (am 0)), (1, .ref (ad 0)), (0, .ref b)]) hx hb dL_law_1418 hl (k := 0) rfl (by rw [ev57]; rfl) (by decide) rfl (fun ls hl => ?_)
    refine lv_goto (tgt := 33) hx hb dL_law_1421 (by decide) ?_
    exact hk _ _ _ _ _ _ _ _ _ (by omega) (by omega) hI (lv_sub hl [0, 1, 2, 3, 4] rfl) hf
  replace hf := zif_f q hf
  refine lv_iconst (v := 1) hx hb dL_law_683 (by decide) ?_
  refine lv_goto (tgt := 688) hx hb dL_law_684 (by decide) ?_
  obtain ⟨μ58, g58, hf⟩ := zbu_use hf
  refine z_fcallVu (u := zHo ao co o ++ wC ad cy σ55) (w := wM am cm) (As := [.int 1]) (rest := []) hC (zI.swap hI) (zKM hI.1) (cX12_start_met st l D am cm μ 1 _ g58) (zgV zw68_7 zw68_8 zw68_9 zw1_5 zw68_10) rfl ⟨rfl, rfl⟩ 1 hdX12_start ⟨Nat.le_of_ble_eq_true rfl, Nat.le_of_ble_eq_true rfl⟩ rfl rfl (wM_e0 am cm μ) rfl hl rfl (Nat.le_of_ble_eq_true rfl) dL_law_688 ⟨by show cells ≤ 600128; omega, by show slots ≤ 7301064; omega⟩ (fun H locs hI => ?_)
  have hI : zLw st D ad cy am cm ao co μ58 o σ55 s H locs := zI.swap hI
  refine lv_goto (tgt := 1418) hx hb dL_law_691 (by decide) ?_
  obtain ⟨v59, ev59⟩ : ∃ z : Int32, z = x4 + 8 := ⟨_, rfl⟩
  replace hf := zbv_use ev59 hf
  refine lv_iinc (v := v59) (lv' := [(4, .int v59), (3, .ref ao), (2, .ref (am 0)), (1, .ref (ad 0)), (0, .ref b)]) hx hb dL_law_1418 hl (k := 0) rfl (by rw [ev59]; rfl) (by decide) rfl (fun ls hl => ?_)
  refine lv_goto (tgt := 33) hx hb dL_law_1421 (by decide) ?_
  exact hk _ _ _ _ _ _ _ _ _ (by omega) (by omega) hI (lv_sub hl [0, 1, 2, 3, 4] rfl) hf
def fLaw_694 (xs : Nat → Int32) (L : Nat) (kn : zSt → (Nat → Int64) → zSt → Int32 → Option Int32) (μ : zSt) (o : Nat → Int64) (σ : zSt) (x4 : Int32) : Option Int32 :=
  zck (zin (x4 + 1) L) (zck (zin (x4 + 2) L) (if (xs (x4 + 2).toNatClampNeg) = 0 then zbi (fL_line σ (xs (x4 + 1).toNatClampNeg) 0) (fun σ60 v61 =>
  zck (zin (x4 + 1) L) (zck (zin (x4 + 2) L) (if (xs (x4 + 2).toNatClampNeg) = 0 then zbu (fX12_line μ (xs (x4 + 1).toNatClampNeg) 0) (fun μ62 =>
  zbv (x4 + 8) (fun v63 => kn μ62 o σ60 v63)) else
  zbu (fX12_line μ (xs (x4 + 1).toNatClampNeg) 1) (fun μ64 =>
  zbv (x4 + 8) (fun v65 => kn μ64 o σ60 v65))))) else
  zbi (fL_line σ (xs (x4 + 1).toNatClampNeg) 1) (fun σ66 v67 =>
  zck (zin (x4 + 1) L) (zck (zin (x4 + 2) L) (if (xs (x4 + 2).toNatClampNeg) = 0 then zbu (fX12_line μ (xs (x4 + 1).toNatClampNeg) 0) (fun μ68 =>
  zbv (x4 + 8) (fun v69 => kn μ68 o σ66 v69)) else
  zbu (fX12_line μ (xs (x4 + 1).toNatClampNeg) 1) (fun μ70 =>
  zbv (x4 + 8) (fun v71 => kn μ70 o σ66 v71)))))))
set_option maxRecDepth 20000 in
set_option maxHeartbeats 4000000 in
theorem bLaw_694 {p : Program} {l : Launch} {e : Env} {s : State} {m : MethodId} {below : List Frame} {meth : Method} {c : Code} {st : Nat → Nat} {D : va_G} {b L : Nat} {xs : Nat → Int32} {ad am : Nat → Nat} {cy cm : Nat → ClassId} {ao : Nat} {co : ClassId} (hC : zC p m c cL_law 8 s #[Value.ref b] wzL_law RL meth ret) (hst : l.stackTraces = false) (hX : va_X b L xs s s.heap) (hbl : b < s.heap.size) (hbA : ¬ (fun q : Nat => s.heap.size ≤ q) b) {n : Nat} {kn : zSt → (Nat → Int64) → zSt → Int32 → Option Int32} (hk : ∀ (H : Heap) (locs : List Loc) (μ : zSt) (o : Nat → Int64) (σ : zSt) (ls : Array Slot) (x4 : Int32) (cells slots : Nat), cells + n ≤ 600128 → slots + 6 * n ≤ 7301064 → zLw st D ad cy am cm ao co μ o σ s H locs → lv_has ls 8 [(4, .int x4), (3, .ref ao), (2, .ref (am 0)), (1, .ref (ad 0)), (0, .ref b)] → kn μ o σ x4 = some 1 → W p l e room_1 s m #[Value.ref b] below meth c H locs cells slots (lw_Z below #[Value.ref b] s) (F0 m 33 ls [])) {H : Heap} {locs : List Loc} {μ : zSt} {o : Nat → Int64} {σ : zSt} {ls : Array Slot} {x4 : Int32} {cells slots : Nat} (hc : cells + (n + 1) ≤ 600128) (hs : slots + 6 * (n + 1) ≤ 7301064) (hI : zLw st D ad cy am cm ao co μ o σ s H locs) (hl : lv_has ls 8 [(4, .int x4), (3, .ref ao), (2, .ref (am 0)), (1, .ref (ad 0)), (0, .ref b)]) (hf : fLaw_694 xs L kn μ o σ x4 = some 1) : W p l e room_1 s m #[Value.ref b] below meth c H locs cells slots (lw_Z below #[Value.ref b] s) (F0 m 694 ls []) := by
  have hx := hC.1
  have hb := hC.2.1
  unfold fLaw_694 at hf
  refine lv_aload_n hx hb dL_law_694 rfl (lv_at hl 3 rfl) ?_
  refine lv_aload_n hx hb dL_law_695 rfl (lv_at hl 4 rfl) ?_
  refine lv_iload hx hb dL_law_696 (lv_at hl 0 rfl) ?_
  refine lv_iconst (v := 1) hx hb dL_law_698 (by decide) ?_
  refine lv_iadd hx hb dL_law_699 ?_
  obtain ⟨q, hf⟩ := zck_use hf
  refine va_sld hx hb hX hbl hbA hI.2.2.2.1 (zin_in q) dL_law_700 ?_
  refine lv_aload_n hx hb dL_law_701 rfl (lv_at hl 4 rfl) ?_
  refine lv_iload hx hb dL_law_702 (lv_at hl 0 rfl) ?_
  refine lv_iconst (v := 2) hx hb dL_law_704 (by decide) ?_
  refine lv_iadd hx hb dL_law_705 ?_
  obtain ⟨q, hf⟩ := zck_use hf
  refine va_sld hx hb hX hbl hbA hI.2.2.2.1 (zin_in q) dL_law_706 ?_
  refine lv_if_eq (tgt := 714) hx hb dL_law_707 (by decide) (fun q => ?_) (fun q => ?_)
  · replace hf := zif_t q hf
    refine lv_iconst (v := 0) hx hb dL_law_714 (by decide) ?_
    obtain ⟨σ60, v61, g60, hf⟩ := zbi_use hf
    refine z_fcallH (u := wM am cm μ ++ zHo ao co o) (w := wC ad cy) (x := σ) (As := [.ref (ad 0), .int (xs (x4 + 1).toNatClampNeg), .int 0]) (rest := []) hC (zI.al hI) (zKC hI.1) (cL_line_met st l hst D ad cy σ (xs (x4 + 1).toNatClampNeg) 0 _ g60) (zgS zw68_11 zw68_12 zw1_10 zw68_13) rfl ⟨rfl, rfl⟩ 3 hdL_line ⟨Nat.le_of_ble_eq_true rfl, Nat.le_of_ble_eq_true rfl⟩ rfl hl rfl (Nat.le_of_ble_eq_true rfl) dL_law_715 ⟨by show cells + 1 ≤ 600128; omega, by show slots + 6 ≤ 7301064; omega⟩ (fun H locs hI => ?_)
    have hI : zLw st D ad cy am cm ao co μ o σ60 s H locs := zI.ar hI
    refine lv_istore (lv' := [(5, .int v61), (4, .int x4), (3, .ref ao), (2, .ref (am 0)), (1, .ref (ad 0)), (0, .ref b)]) hx hb dL_law_718 hl (by decide) rfl (fun ls hl => ?_)
    refine lv_aload_n hx hb dL_law_720 rfl (lv_at hl 3 rfl) ?_
    refine lv_aload_n hx hb dL_law_721 rfl (lv_at hl 5 rfl) ?_
    refine lv_iload hx hb dL_law_722 (lv_at hl 1 rfl) ?_
    refine lv_iconst (v := 1) hx hb dL_law_724 (by decide) ?_
    refine lv_iadd hx hb dL_law_725 ?_
    obtain ⟨q, hf⟩ := zck_use hf
    refine va_sld hx hb hX hbl hbA hI.2.2.2.1 (zin_in q) dL_law_726 ?_
    refine lv_aload_n hx hb dL_law_727 rfl (lv_at hl 5 rfl) ?_
    refine lv_iload hx hb dL_law_728 (lv_at hl 1 rfl) ?_
    refine lv_iconst (v := 2) hx hb dL_law_730 (by decide) ?_
    refine lv_iadd hx hb dL_law_731 ?_
    obtain ⟨q, hf⟩ := zck_use hf
    refine va_sld hx hb hX hbl hbA hI.2.2.2.1 (zin_in q) dL_law_732 ?_
    refine lv_if_eq (tgt := 740) hx hb dL_law_733 (by decide) (fun q => ?_) (fun q => ?_)
    · replace hf := zif_t q hf
      refine lv_iconst (v := 0) hx hb dL_law_740 (by decide) ?_
      obtain ⟨μ62, g62, hf⟩ := zbu_use hf
      refine z_fcallVu (u := zHo ao co o ++ wC ad cy σ60) (w := wM am cm) (As := [.int (xs (x4 + 1).toNatClampNeg), .int 0]) (rest := []) hC (zI.swap hI) (zKM hI.1) (cX12_line_met st l D am cm μ (xs (x4 + 1).toNatClampNeg) 0 _ g62) (zgV zw68_22 zw68_23 zw69_0 zw1_5 zw69_1) rfl ⟨rfl, rfl⟩ 2 hdX12_line ⟨Nat.le_of_ble_eq_true rfl, Nat.le_of_ble_eq_true rfl⟩ rfl rfl (wM_e0 am cm μ) rfl hl rfl (Nat.le_of_ble_eq_true rfl) dL_law_741 ⟨by show cells + 1 ≤ 600128; omega, by show slots + 6 ≤ 7301064; omega⟩ (fun H locs hI => ?_)
      have hI : zLw st D ad cy am cm ao co μ62 o σ60 s H locs := zI.swap hI
      refine lv_goto (tgt := 1418) hx hb dL_law_744 (by decide) ?_
      obtain ⟨v63, ev63⟩ : ∃ z : Int32, z = x4 + 8 := ⟨_, rfl⟩
      replace hf := zbv_use ev63 hf
      refine lv_iinc (v := v63) (lv' := [(4, .int v63), (5, .int v61), (3, .ref ao), (2, .ref (am 0)), (1, .ref (ad 0)), (0, .ref b)]) hx hb dL_law_1418 hl (k := 1) rfl (by rw [ev63]; rfl) (by decide) rfl (fun ls hl => ?_)
      refine lv_goto (tgt := 33) hx hb dL_law_1421 (by decide) ?_
      exact hk _ _ _ _ _ _ _ _ _ (by omega) (by omega) hI (lv_sub hl [0, 2, 3, 4, 5] rfl) hf
    replace hf := zif_f q hf
    refine lv_iconst (v := 1) hx hb dL_law_736 (by decide) ?_
    refine lv_goto (tgt := 741) hx hb dL_law_737 (by decide) ?_
    obtain ⟨μ64, g64, hf⟩ := zbu_use hf
    refine z_fcallVu (u := zHo ao co o ++ wC ad cy σ60) (w := wM am cm) (As := [.int (xs (x4 + 1).toNatClampNeg), .int 1]) (rest := []) hC (zI.swap hI) (zKM hI.1) (cX12_line_met st l D am cm μ (xs (x4 + 1).toNatClampNeg) 1 _ g64) (zgV zw68_22 zw68_23 zw69_0 zw1_5 zw69_1) rfl ⟨rfl, rfl⟩ 2 hdX12_line ⟨Nat.le_of_ble_eq_true rfl, Nat.le_of_ble_eq_true rfl⟩ rfl rfl (wM_e0 am cm μ) rfl hl rfl (Nat.le_of_ble_eq_true rfl) dL_law_741 ⟨by show cells + 1 ≤ 600128; omega, by show slots + 6 ≤ 7301064; omega⟩ (fun H locs hI => ?_)
    have hI : zLw st D ad cy am cm ao co μ64 o σ60 s H locs := zI.swap hI
    refine lv_goto (tgt := 1418) hx hb dL_law_744 (by decide) ?_
    obtain ⟨v65, ev65⟩ : ∃ z : Int32, z = x4 + 8 := ⟨_, rfl⟩
    replace hf := zbv_use ev65 hf
    refine lv_iinc (v := v65) (lv' := [(4, .int v65), (5, .int v61), (3, .ref ao), (2, .ref (am 0)), (1, .ref (ad 0)), (0, .ref b)]) hx hb dL_law_1418 hl (k := 1) rfl (by rw [ev65]; rfl) (by decide) rfl (fun ls hl => ?_)
    refine lv_goto (tgt := 33) hx hb dL_law_1421 (by decide) ?_
    exact hk _ _ _ _ _ _ _ _ _ (by omega) (by omega) hI (lv_sub hl [0, 2, 3, 4, 5] rfl) hf
  replace hf := zif_f q hf
  refine lv_iconst (v := 1) hx hb dL_law_710 (by decide) ?_
  refine lv_goto (tgt := 715) hx hb dL_law_711 (by decide) ?_
  obtain ⟨σ66, v67, g66, hf⟩ := zbi_use hf
  refine z_fcallH (u := wM am cm μ ++ zHo ao co o) (w := wC ad cy) (x := σ) (As := [.ref (ad 0), .int (xs (x4 + 1).toNatClampNeg), .int 1]) (rest := []) hC (zI.al hI) (zKC hI.1) (cL_line_met st l hst D ad cy σ (xs (x4 + 1).toNatClampNeg) 1 _ g66) (zgS zw68_11 zw68_12 zw1_10 zw68_13) rfl ⟨rfl, rfl⟩ 3 hdL_line ⟨Nat.le_of_ble_eq_true rfl, Nat.le_of_ble_eq_true rfl⟩ rfl hl rfl (Nat.le_of_ble_eq_true rfl) dL_law_715 ⟨by show cells + 1 ≤ 600128; omega, by show slots + 6 ≤ 7301064; omega⟩ (fun H locs hI => ?_)
  have hI : zLw st D ad cy am cm ao co μ o σ66 s H locs := zI.ar hI
  refine lv_istore (lv' := [(5, .int v67), (4, .int x4), (3, .ref ao), (2, .ref (am 0)), (1, .ref (ad 0)), (0, .ref b)]) hx hb dL_law_718 hl (by decide) rfl (fun ls hl => ?_)
  refine lv_aload_n hx hb dL_law_720 rfl (lv_at hl 3 rfl) ?_
  refine lv_aload_n hx hb dL_law_721 rfl (lv_at hl 5 rfl) ?_
  refine lv_iload hx hb dL_law_722 (lv_at hl 1 rfl) ?_
  refine lv_iconst (v := 1) hx hb dL_law_724 (by decide) ?_
  refine lv_iadd hx hb dL_law_725 ?_
  obtain ⟨q, hf⟩ := zck_use hf
  refine va_sld hx hb hX hbl hbA hI.2.2.2.1 (zin_in q) dL_law_726 ?_
  refine lv_aload_n hx hb dL_law_727 rfl (lv_at hl 5 rfl) ?_
  refine lv_iload hx hb dL_law_728 (lv_at hl 1 rfl) ?_
  refine lv_iconst (v := 2) hx hb dL_law_730 (by decide) ?_
  refine lv_iadd hx hb dL_law_731 ?_
  obtain ⟨q, hf⟩ := zck_use hf
  refine va_sld hx hb hX hbl hbA hI.2.2.2.1 (zin_in q) dL_law_732 ?_
  refine lv_if_eq (tgt := 740) hx hb dL_law_733 (by decide) (fun q => ?_) (fun q => ?_)
  · replace hf := zif_t q hf
    refine lv_iconst (v := 0) hx hb dL_law_740 (by decide) ?_
    obtain ⟨μ68, g68, hf⟩ := zbu_use hf
    refine z_fcallVu (u := zHo ao co o ++ wC ad cy σ66) (w := wM am cm) (As := [.int (xs (x4 + 1).toNatClampNeg), .int 0]) (rest := []) hC (zI.swap hI) (zKM hI.1) (cX12_line_met st l D am cm μ (xs (x4 + 1).toNatClampNeg) 0 _ g68) (zgV zw68_22 zw68_23 zw69_0 zw1_5 zw69_1) rfl ⟨rfl, rfl⟩ 2 hdX12_line ⟨Nat.le_of_ble_eq_true rfl, Nat.le_of_ble_eq_true rfl⟩ rfl rfl (wM_e0 am cm μ) rfl hl rfl (Nat.le_of_ble_eq_true rfl) dL_law_741 ⟨by show cells + 1 ≤ 600128; omega, by show slots + 6 ≤ 7301064; omega⟩ (fun H locs hI => ?_)
    have hI : zLw st D ad cy am cm ao co μ68 o σ66 s H locs := zI.swap hI
    refine lv_goto (tgt := 1418) hx hb dL_law_744 (by decide) ?_
    obtain ⟨v69, ev69⟩ : ∃ z : Int32, z = x4 + 8 := ⟨_, rfl⟩
    replace hf := zbv_use ev69 hf
    refine lv_iinc (v := v69) (lv' := [(4, .int v69), (5, .int v67), (3, .ref ao), (2, .ref (am 0)), (1, .ref (ad 0)), (0, .ref b)]) hx hb dL_law_1418 hl (k := 1) rfl (by rw [ev69]; rfl) (by decide) rfl (fun ls hl => ?_)
    refine lv_goto (tgt := 33) hx hb dL_law_1421 (by decide) ?_
    exact hk _ _ _ _ _ _ _ _ _ (by omega) (by omega) hI (lv_sub hl [0, 2, 3, 4, 5] rfl) hf
  replace hf := zif_f q hf
  refine lv_iconst (v := 1) hx hb dL_law_736 (by decide) ?_
  refine lv_goto (tgt := 741) hx hb dL_law_737 (by decide) ?_
  obtain ⟨μ70, g70, hf⟩ := zbu_use hf
  refine z_fcallVu (u := zHo ao co o ++ wC ad cy σ66) (w := wM am cm) (As := [.int (xs (x4 + 1).toNatClampNeg), .int 1]) (rest := []) hC (zI.swap hI) (zKM hI.1) (cX12_line_met st l D am cm μ (xs (x4 + 1).toNatClampNeg) 1 _ g70) (zgV zw68_22 zw68_23 zw69_0 zw1_5 zw69_1) rfl ⟨rfl, rfl⟩ 2 hdX12_line ⟨Nat.le_of_ble_eq_true rfl, Nat.le_of_ble_eq_true rfl⟩ rfl rfl (wM_e0 am cm μ) rfl hl rfl (Nat.le_of_ble_eq_true rfl) dL_law_741 ⟨by show cells + 1 ≤ 600128; omega, by show slots + 6 ≤ 7301064; omega⟩ (fun H locs hI => ?_)
  have hI : zLw st D ad cy am cm ao co μ70 o σ66 s H locs := zI.swap hI
  refine lv_goto (tgt := 1418) hx hb dL_law_744 (by decide) ?_
  obtain ⟨v71, ev71⟩ : ∃ z : Int32, z = x4 + 8 := ⟨_, rfl⟩
  replace hf := zbv_use ev71 hf
  refine lv_iinc (v := v71) (lv' := [(4, .int v71), (5, .int v67), (3, .ref ao), (2, .ref (am 0)), (1, .ref (ad 0)), (0, .ref b)]) hx hb dL_law_1418 hl (k := 1) rfl (by rw [ev71]; rfl) (by decide) rfl (fun ls hl => ?_)
  refine lv_goto (tgt := 33) hx hb dL_law_1421 (by decide) ?_
  exact hk _ _ _ _ _ _ _ _ _ (by omega) (by omega) hI (lv_sub hl [0, 2, 3, 4, 5] rfl) hf
def fLaw_747 (xs : Nat → Int32) (L : Nat) (kn : zSt → (Nat → Int64) → zSt → Int32 → Option Int32) (μ : zSt) (o : Nat → Int64) (σ : zSt) (x4 : Int32) : Option Int32 :=
  zck (zin (x4 + 1) L) (zck (zin (x4 + 2) L) (zck (zin (x4 + 3) L) (zbh (fL_plan o σ (xs (x4 + 1).toNatClampNeg) (xs (x4 + 2).toNatClampNeg) (xs (x4 + 3).toNatClampNeg)) (fun o72 σ72 v73 =>
  zck (zin (x4 + 1) L) (zck (zin (x4 + 2) L) (zck (zin (x4 + 3) L) (zbi (fX12_plan μ (xs (x4 + 1).toNatClampNeg) (xs (x4 + 2).toNatClampNeg) (xs (x4 + 3).toNatClampNeg)) (fun μ74 v75 =>
  zbv (x4 + 8) (fun v76 => kn μ74 o72 σ72 v76)))))))))
set_option maxRecDepth 20000 in
set_option maxHeartbeats 4000000 in
theorem bLaw_747 {p : Program} {l : Launch} {e : Env} {s : State} {m : MethodId} {below : List Frame} {meth : Method} {c : Code} {st : Nat → Nat} {D : va_G} {b L : Nat} {xs : Nat → Int32} {ad am : Nat → Nat} {cy cm : Nat → ClassId} {ao : Nat} {co : ClassId} (hC : zC p m c cL_law 8 s #[Value.ref b] wzL_law RL meth ret) (hst : l.stackTraces = false) (hX : va_X b L xs s s.heap) (hbl : b < s.heap.size) (hbA : ¬ (fun q : Nat => s.heap.size ≤ q) b) {n : Nat} {kn : zSt → (Nat → Int64) → zSt → Int32 → Option Int32} (hk : ∀ (H : Heap) (locs : List Loc) (μ : zSt) (o : Nat → Int64) (σ : zSt) (ls : Array Slot) (x4 : Int32) (cells slots : Nat), cells + n ≤ 600128 → slots + 6 * n ≤ 7301064 → zLw st D ad cy am cm ao co μ o σ s H locs → lv_has ls 8 [(4, .int x4), (3, .ref ao), (2, .ref (am 0)), (1, .ref (ad 0)), (0, .ref b)] → kn μ o σ x4 = some 1 → W p l e room_1 s m #[Value.ref b] below meth c H locs cells slots (lw_Z below #[Value.ref b] s) (F0 m 33 ls [])) {H : Heap} {locs : List Loc} {μ : zSt} {o : Nat → Int64} {σ : zSt} {ls : Array Slot} {x4 : Int32} {cells slots : Nat} (hc : cells + (n + 1) ≤ 600128) (hs : slots + 6 * (n + 1) ≤ 7301064) (hI : zLw st D ad cy am cm ao co μ o σ s H locs) (hl : lv_has ls 8 [(4, .int x4), (3, .ref ao), (2, .ref (am 0)), (1, .ref (ad 0)), (0, .ref b)]) (hf : fLaw_747 xs L kn μ o σ x4 = some 1) : W p l e room_1 s m #[Value.ref b] below meth c H locs cells slots (lw_Z below #[Value.ref b] s) (F0 m 747 ls []) := by
  have hx := hC.1
  have hb := hC.2.1
  unfold fLaw_747 at hf
  refine lv_aload_n hx hb dL_law_747 rfl (lv_at hl 3 rfl) ?_
  refine lv_aload_n hx hb dL_law_748 rfl (lv_at hl 4 rfl) ?_
  refine lv_iload hx hb dL_law_749 (lv_at hl 0 rfl) ?_
  refine lv_iconst (v := 1) hx hb dL_law_751 (by decide) ?_
  refine lv_iadd hx hb dL_law_752 ?_
  obtain ⟨q, hf⟩ := zck_use hf
  refine va_sld hx hb hX hbl hbA hI.2.2.2.1 (zin_in q) dL_law_753 ?_
  refine lv_aload_n hx hb dL_law_754 rfl (lv_at hl 4 rfl) ?_
  refine lv_iload hx hb dL_law_755 (lv_at hl 0 rfl) ?_
  refine lv_iconst (v := 2) hx hb dL_law_757 (by decide) ?_
  refine lv_iadd hx hb dL_law_758 ?_
  obtain ⟨q, hf⟩ := zck_use hf
  refine va_sld hx hb hX hbl hbA hI.2.2.2.1 (zin_in q) dL_law_759 ?_
  refine lv_aload_n hx hb dL_law_760 rfl (lv_at hl 4 rfl) ?_
  refine lv_iload hx hb dL_law_761 (lv_at hl 0 rfl) ?_
  refine lv_iconst (v := 3) hx hb dL_law_763 (by decide) ?_
  refine lv_iadd hx hb dL_law_764 ?_
  obtain ⟨q, hf⟩ := zck_use hf
  refine va_sld hx hb hX hbl hbA hI.2.2.2.1 (zin_in q) dL_law_765 ?_
  refine lv_aload_n hx hb dL_law_766 rfl (lv_at hl 1 rfl) ?_
  obtain ⟨o72, σ72, v73, g72, hf⟩ := zbh_use hf
  refine z_fcallH (u := wM am cm μ) (w := fun x : zHs => zHo ao co x.1 ++ wC ad cy x.2) (x := (o, σ)) (As := [.ref (ad 0), .int (xs (x4 + 1).toNatClampNeg), .int (xs (x4 + 2).toNatClampNeg), .int (xs (x4 + 3).toNatClampNeg), .ref ao]) (rest := []) hC hI (zKH hI.1) (cL_plan_met st l hst D ad cy ao co o σ (xs (x4 + 1).toNatClampNeg) (xs (x4 + 2).toNatClampNeg) (xs (x4 + 3).toNatClampNeg) _ g72) (zgS zw69_2 zw69_3 zw1_10 zw69_4) rfl ⟨rfl, rfl⟩ 5 hdL_plan ⟨Nat.le_of_ble_eq_true rfl, Nat.le_of_ble_eq_true rfl⟩ rfl hl rfl (Nat.le_of_ble_eq_true rfl) dL_law_767 ⟨by show cells + 1 ≤ 600128; omega, by show slots + 6 ≤ 7301064; omega⟩ (fun H locs hI => ?_)
  have hI : zLw st D ad cy am cm ao co μ o72 σ72 s H locs := hI
  refine lv_istore (lv' := [(5, .int v73), (4, .int x4), (3, .ref ao), (2, .ref (am 0)), (1, .ref (ad 0)), (0, .ref b)]) hx hb dL_law_770 hl (by decide) rfl (fun ls hl => ?_)
  refine lv_aload_n hx hb dL_law_772 rfl (lv_at hl 3 rfl) ?_
  refine lv_aload_n hx hb dL_law_773 rfl (lv_at hl 5 rfl) ?_
  refine lv_iload hx hb dL_law_774 (lv_at hl 1 rfl) ?_
  refine lv_iconst (v := 1) hx hb dL_law_776 (by decide) ?_
  refine lv_iadd hx hb dL_law_777 ?_
  obtain ⟨q, hf⟩ := zck_use hf
  refine va_sld hx hb hX hbl hbA hI.2.2.2.1 (zin_in q) dL_law_778 ?_
  refine lv_aload_n hx hb dL_law_779 rfl (lv_at hl 5 rfl) ?_
  refine lv_iload hx hb dL_law_780 (lv_at hl 1 rfl) ?_
  refine lv_iconst (v := 2) hx hb dL_law_782 (by decide) ?_
  refine lv_iadd hx hb dL_law_783 ?_
  obtain ⟨q, hf⟩ := zck_use hf
  refine va_sld hx hb hX hbl hbA hI.2.2.2.1 (zin_in q) dL_law_784 ?_
  refine lv_aload_n hx hb dL_law_785 rfl (lv_at hl 5 rfl) ?_
  refine lv_iload hx hb dL_law_786 (lv_at hl 1 rfl) ?_
  refine lv_iconst (v := 3) hx hb dL_law_788 (by decide) ?_
  refine lv_iadd hx hb dL_law_789 ?_
  obtain ⟨q, hf⟩ := zck_use hf
  refine va_sld hx hb hX hbl hbA hI.2.2.2.1 (zin_in q) dL_law_790 ?_
  obtain ⟨μ74, v75, g74, hf⟩ := zbi_use hf
  refine z_fcallVi (u := zHo ao co o72 ++ wC ad cy σ72) (w := wM am cm) (As := [.int (xs (x4 + 1).toNatClampNeg), .int (xs (x4 + 2).toNatClampNeg), .int (xs (x4 + 3).toNatClampNeg)]) (rest := []) hC (zI.swap hI) (zKM hI.1) (cX12_plan_met st l D am cm μ (xs (x4 + 1).toNatClampNeg) (xs (x4 + 2).toNatClampNeg) (xs (x4 + 3).toNatClampNeg) _ g74) (zgV zw69_21 zw69_22 zw69_23 zw1_5 zw70_0) rfl ⟨rfl, rfl⟩ 3 hdX12_plan ⟨Nat.le_of_ble_eq_true rfl, Nat.le_of_ble_eq_true rfl⟩ rfl rfl (wM_e0 am cm μ) rfl hl rfl (Nat.le_of_ble_eq_true rfl) dL_law_791 ⟨by show cells + 1 ≤ 600128; omega, by show slots + 6 ≤ 7301064; omega⟩ (fun H locs hI => ?_)
  have hI : zLw st D ad cy am cm ao co μ74 o72 σ72 s H locs := zI.swap hI
  refine lv_istore (lv' := [(6, .int v75), (5, .int v73), (4, .int x4), (3, .ref ao), (2, .ref (am 0)), (1, .ref (ad 0)), (0, .ref b)]) hx hb dL_law_794 hl (by decide) rfl (fun ls hl => ?_)
  refine lv_goto (tgt := 1418) hx hb dL_law_796 (by decide) ?_
  obtain ⟨v76, ev76⟩ : ∃ z : Int32, z = x4 + 8 := ⟨_, rfl⟩
  replace hf := zbv_use ev76 hf
  refine lv_iinc (v := v76) (lv' := [(4, .int v76), (6, .int v75), (5, .int v73), (3, .ref ao), (2, .ref (am 0)), (1, .ref (ad 0)), (0, .ref b)]) hx hb dL_law_1418 hl (k := 2) rfl (by rw [ev76]; rfl) (by decide) rfl (fun ls hl => ?_)
  refine lv_goto (tgt := 33) hx hb dL_law_1421 (by decide) ?_
  exact hk _ _ _ _ _ _ _ _ _ (by omega) (by omega) hI (lv_sub hl [0, 3, 4, 5, 6] rfl) hf
def fLaw_799 (xs : Nat → Int32) (L : Nat) (kn : zSt → (Nat → Int64) → zSt → Int32 → Option Int32) (μ : zSt) (o : Nat → Int64) (σ : zSt) (x4 : Int32) : Option Int32 :=
  zck (zin (x4 + 1) L) (zbi (fX11_tell σ (xs (x4 + 1).toNatClampNeg)) (fun σ77 v78 =>
  zck (zin (x4 + 1) L) (zbi (fX12_tell μ (xs (x4 + 1).toNatClampNeg)) (fun μ79 v80 =>
  zbv (x4 + 8) (fun v81 => kn μ79 o σ77 v81)))))
set_option maxRecDepth 20000 in
set_option maxHeartbeats 4000000 in
theorem bLaw_799 {p : Program} {l : Launch} {e : Env} {s : State} {m : MethodId} {below : List Frame} {meth : Method} {c : Code} {st : Nat → Nat} {D : va_G} {b L : Nat} {xs : Nat → Int32} {ad am : Nat → Nat} {cy cm : Nat → ClassId} {ao : Nat} {co : ClassId} (hC : zC p m c cL_law 8 s #[Value.ref b] wzL_law RL meth ret) (hst : l.stackTraces = false) (hX : va_X b L xs s s.heap) (hbl : b < s.heap.size) (hbA : ¬ (fun q : Nat => s.heap.size ≤ q) b) {n : Nat} {kn : zSt → (Nat → Int64) → zSt → Int32 → Option Int32} (hk : ∀ (H : Heap) (locs : List Loc) (μ : zSt) (o : Nat → Int64) (σ : zSt) (ls : Array Slot) (x4 : Int32) (cells slots : Nat), cells + n ≤ 600128 → slots + 6 * n ≤ 7301064 → zLw st D ad cy am cm ao co μ o σ s H locs → lv_has ls 8 [(4, .int x4), (3, .ref ao), (2, .ref (am 0)), (1, .ref (ad 0)), (0, .ref b)] → kn μ o σ x4 = some 1 → W p l e room_1 s m #[Value.ref b] below meth c H locs cells slots (lw_Z below #[Value.ref b] s) (F0 m 33 ls [])) {H : Heap} {locs : List Loc} {μ : zSt} {o : Nat → Int64} {σ : zSt} {ls : Array Slot} {x4 : Int32} {cells slots : Nat} (hc : cells + (n + 1) ≤ 600128) (hs : slots + 6 * (n + 1) ≤ 7301064) (hI : zLw st D ad cy am cm ao co μ o σ s H locs) (hl : lv_has ls 8 [(4, .int x4), (3, .ref ao), (2, .ref (am 0)), (1, .ref (ad 0)), (0, .ref b)]) (hf : fLaw_799 xs L kn μ o σ x4 = some 1) : W p l e room_1 s m #[Value.ref b] below meth c H locs cells slots (lw_Z below #[Value.ref b] s) (F0 m 799 ls []) := by
  have hx := hC.1
  have hb := hC.2.1
  unfold fLaw_799 at hf
  refine lv_aload_n hx hb dL_law_799 rfl (lv_at hl 3 rfl) ?_
  refine lv_aload_n hx hb dL_law_800 rfl (lv_at hl 4 rfl) ?_
  refine lv_iload hx hb dL_law_801 (lv_at hl 0 rfl) ?_
  refine lv_iconst (v := 1) hx hb dL_law_803 (by decide) ?_
  refine lv_iadd hx hb dL_law_804 ?_
  obtain ⟨q, hf⟩ := zck_use hf
  refine va_sld hx hb hX hbl hbA hI.2.2.2.1 (zin_in q) dL_law_805 ?_
  obtain ⟨σ77, v78, g77, hf⟩ := zbi_use hf
  refine z_fcallVi (u := wM am cm μ ++ zHo ao co o) (w := wC ad cy) (As := [.int (xs (x4 + 1).toNatClampNeg)]) (rest := []) hC (zI.al hI) (zKC hI.1) (cX11_tell_met st l D ad cy σ (xs (x4 + 1).toNatClampNeg) _ g77) (zgV zw70_1 zw70_2 zw70_3 zw1_2 zw70_4) rfl ⟨rfl, rfl⟩ 1 hdX11_tell ⟨Nat.le_of_ble_eq_true rfl, Nat.le_of_ble_eq_true rfl⟩ rfl rfl (wC_e0 ad cy σ) rfl hl rfl (Nat.le_of_ble_eq_true rfl) dL_law_806 ⟨by show cells ≤ 600128; omega, by show slots ≤ 7301064; omega⟩ (fun H locs hI => ?_)
  have hI : zLw st D ad cy am cm ao co μ o σ77 s H locs := zI.ar hI
  refine lv_pop hx hb dL_law_809 rfl ?_
  refine lv_aload_n hx hb dL_law_810 rfl (lv_at hl 2 rfl) ?_
  refine lv_aload_n hx hb dL_law_811 rfl (lv_at hl 4 rfl) ?_
  refine lv_iload hx hb dL_law_812 (lv_at hl 0 rfl) ?_
  refine lv_iconst (v := 1) hx hb dL_law_814 (by decide) ?_
  refine lv_iadd hx hb dL_law_815 ?_
  obtain ⟨q, hf⟩ := zck_use hf
  refine va_sld hx hb hX hbl hbA hI.2.2.2.1 (zin_in q) dL_law_816 ?_
  obtain ⟨μ79, v80, g79, hf⟩ := zbi_use hf
  refine z_fcallVi (u := zHo ao co o ++ wC ad cy σ77) (w := wM am cm) (As := [.int (xs (x4 + 1).toNatClampNeg)]) (rest := []) hC (zI.swap hI) (zKM hI.1) (cX12_tell_met st l D am cm μ (xs (x4 + 1).toNatClampNeg) _ g79) (zgV zw74_10 zw74_11 zw74_12 zw1_5 zw74_13) rfl ⟨rfl, rfl⟩ 1 hdX12_tell ⟨Nat.le_of_ble_eq_true rfl, Nat.le_of_ble_eq_true rfl⟩ rfl rfl (wM_e0 am cm μ) rfl hl rfl (Nat.le_of_ble_eq_true rfl) dL_law_817 ⟨by show cells ≤ 600128; omega, by show slots ≤ 7301064; omega⟩ (fun H locs hI => ?_)
  have hI : zLw st D ad cy am cm ao co μ79 o σ77 s H locs := zI.swap hI
  refine lv_pop hx hb dL_law_820 rfl ?_
  refine lv_goto (tgt := 1418) hx hb dL_law_821 (by decide) ?_
  obtain ⟨v81, ev81⟩ : ∃ z : Int32, z = x4 + 8 := ⟨_, rfl⟩
  replace hf := zbv_use ev81 hf
  refine lv_iinc (v := v81) (lv' := [(4, .int v81), (3, .ref ao), (2, .ref (am 0)), (1, .ref (ad 0)), (0, .ref b)]) hx hb dL_law_1418 hl (k := 0) rfl (by rw [ev81]; rfl) (by decide) rfl (fun ls hl => ?_)
  refine lv_goto (tgt := 33) hx hb dL_law_1421 (by decide) ?_
  exact hk _ _ _ _ _ _ _ _ _ (by omega) (by omega) hI (lv_sub hl [0, 1, 2, 3, 4] rfl) hf
def fLaw_824 (xs : Nat → Int32) (L : Nat) (kn : zSt → (Nat → Int64) → zSt → Int32 → Option Int32) (μ : zSt) (o : Nat → Int64) (σ : zSt) (x4 : Int32) : Option Int32 :=
  zck (zin (x4 + 1) L) (zbh (fL_text o σ (xs (x4 + 1).toNatClampNeg)) (fun o82 σ82 v83 =>
  zck (zin (x4 + 1) L) (zbl (fX12_text μ (xs (x4 + 1).toNatClampNeg)) (fun μ84 v85 =>
  zbv (x4 + 8) (fun v86 => kn μ84 o82 σ82 v86)))))
set_option maxRecDepth 20000 in
set_option maxHeartbeats 4000000 in
theorem bLaw_824 {p : Program} {l : Launch} {e : Env} {s : State} {m : MethodId} {below : List Frame} {meth : Method} {c : Code} {st : Nat → Nat} {D : va_G} {b L : Nat} {xs : Nat → Int32} {ad am : Nat → Nat} {cy cm : Nat → ClassId} {ao : Nat} {co : ClassId} (hC : zC p m c cL_law 8 s #[Value.ref b] wzL_law RL meth ret) (hst : l.stackTraces = false) (hX : va_X b L xs s s.heap) (hbl : b < s.heap.size) (hbA : ¬ (fun q : Nat => s.heap.size ≤ q) b) {n : Nat} {kn : zSt → (Nat → Int64) → zSt → Int32 → Option Int32} (hk : ∀ (H : Heap) (locs : List Loc) (μ : zSt) (o : Nat → Int64) (σ : zSt) (ls : Array Slot) (x4 : Int32) (cells slots : Nat), cells + n ≤ 600128 → slots + 6 * n ≤ 7301064 → zLw st D ad cy am cm ao co μ o σ s H locs → lv_has ls 8 [(4, .int x4), (3, .ref ao), (2, .ref (am 0)), (1, .ref (ad 0)), (0, .ref b)] → kn μ o σ x4 = some 1 → W p l e room_1 s m #[Value.ref b] below meth c H locs cells slots (lw_Z below #[Value.ref b] s) (F0 m 33 ls [])) {H : Heap} {locs : List Loc} {μ : zSt} {o : Nat → Int64} {σ : zSt} {ls : Array Slot} {x4 : Int32} {cells slots : Nat} (hc : cells + (n + 1) ≤ 600128) (hs : slots + 6 * (n + 1) ≤ 7301064) (hI : zLw st D ad cy am cm ao co μ o σ s H locs) (hl : lv_has ls 8 [(4, .int x4), (3, .ref ao), (2, .ref (am 0)), (1, .ref (ad 0)), (0, .ref b)]) (hf : fLaw_824 xs L kn μ o σ x4 = some 1) : W p l e room_1 s m #[Value.ref b] below meth c H locs cells slots (lw_Z below #[Value.ref b] s) (F0 m 824 ls []) := by
  have hx := hC.1
  have hb := hC.2.1
  unfold fLaw_824 at hf
  refine lv_aload_n hx hb dL_law_824 rfl (lv_at hl 3 rfl) ?_
  refine lv_aload_n hx hb dL_law_825 rfl (lv_at hl 4 rfl) ?_
  refine lv_iload hx hb dL_law_826 (lv_at hl 0 rfl) ?_
  refine lv_iconst (v := 1) hx hb dL_law_828 (by decide) ?_
  refine lv_iadd hx hb dL_law_829 ?_
  obtain ⟨q, hf⟩ := zck_use hf
  refine va_sld hx hb hX hbl hbA hI.2.2.2.1 (zin_in q) dL_law_830 ?_
  refine lv_aload_n hx hb dL_law_831 rfl (lv_at hl 1 rfl) ?_
  obtain ⟨o82, σ82, v83, g82, hf⟩ := zbh_use hf
  refine z_fcallH (u := wM am cm μ) (w := fun x : zHs => zHo ao co x.1 ++ wC ad cy x.2) (x := (o, σ)) (As := [.ref (ad 0), .int (xs (x4 + 1).toNatClampNeg), .ref ao]) (rest := []) hC hI (zKH hI.1) (cL_text_met st l hst D ad cy ao co o σ (xs (x4 + 1).toNatClampNeg) _ g82) (zgS zw78_8 zw78_9 zw1_10 zw78_10) rfl ⟨rfl, rfl⟩ 3 hdL_text ⟨Nat.le_of_ble_eq_true rfl, Nat.le_of_ble_eq_true rfl⟩ rfl hl rfl (Nat.le_of_ble_eq_true rfl) dL_law_832 ⟨by show cells + 1 ≤ 600128; omega, by show slots + 6 ≤ 7301064; omega⟩ (fun H locs hI => ?_)
  have hI : zLw st D ad cy am cm ao co μ o82 σ82 s H locs := hI
  refine lv_istore (lv' := [(5, .int v83), (4, .int x4), (3, .ref ao), (2, .ref (am 0)), (1, .ref (ad 0)), (0, .ref b)]) hx hb dL_law_835 hl (by decide) rfl (fun ls hl => ?_)
  refine lv_aload_n hx hb dL_law_837 rfl (lv_at hl 3 rfl) ?_
  refine lv_aload_n hx hb dL_law_838 rfl (lv_at hl 5 rfl) ?_
  refine lv_iload hx hb dL_law_839 (lv_at hl 1 rfl) ?_
  refine lv_iconst (v := 1) hx hb dL_law_841 (by decide) ?_
  refine lv_iadd hx hb dL_law_842 ?_
  obtain ⟨q, hf⟩ := zck_use hf
  refine va_sld hx hb hX hbl hbA hI.2.2.2.1 (zin_in q) dL_law_843 ?_
  obtain ⟨μ84, v85, g84, hf⟩ := zbl_use hf
  refine z_fcallVl (u := zHo ao co o82 ++ wC ad cy σ82) (w := wM am cm) (As := [.int (xs (x4 + 1).toNatClampNeg)]) (rest := []) hC (zI.swap hI) (zKM hI.1) (cX12_text_met st l D am cm μ (xs (x4 + 1).toNatClampNeg) _ g84) (zgV zw78_23 zw79_0 zw79_1 zw1_5 zw79_2) rfl ⟨rfl, rfl⟩ 1 hdX12_text ⟨Nat.le_of_ble_eq_true rfl, Nat.le_of_ble_eq_true rfl⟩ rfl rfl (wM_e0 am cm μ) rfl hl rfl (Nat.le_of_ble_eq_true rfl) dL_law_844 ⟨by show cells + 1 ≤ 600128; omega, by show slots + 6 ≤ 7301064; omega⟩ (fun H locs hI => ?_)
  have hI : zLw st D ad cy am cm ao co μ84 o82 σ82 s H locs := zI.swap hI
  refine lv_lstore (lv' := [(6, .long v85), (5, .int v83), (4, .int x4), (3, .ref ao), (2, .ref (am 0)), (1, .ref (ad 0)), (0, .ref b)]) hx hb dL_law_847 hl (by decide) rfl (fun ls hl => ?_)
  refine lv_goto (tgt := 1418) hx hb dL_law_849 (by decide) ?_
  obtain ⟨v86, ev86⟩ : ∃ z : Int32, z = x4 + 8 := ⟨_, rfl⟩
  replace hf := zbv_use ev86 hf
  refine lv_iinc (v := v86) (lv' := [(4, .int v86), (6, .long v85), (5, .int v83), (3, .ref ao), (2, .ref (am 0)), (1, .ref (ad 0)), (0, .ref b)]) hx hb dL_law_1418 hl (k := 2) rfl (by rw [ev86]; rfl) (by decide) rfl (fun ls hl => ?_)
  refine lv_goto (tgt := 33) hx hb dL_law_1421 (by decide) ?_
  exact hk _ _ _ _ _ _ _ _ _ (by omega) (by omega) hI (lv_sub hl [0, 3, 4, 5, 6] rfl) hf
def fLaw_852 (xs : Nat → Int32) (L : Nat) (kn : zSt → (Nat → Int64) → zSt → Int32 → Option Int32) (μ : zSt) (o : Nat → Int64) (σ : zSt) (x4 : Int32) : Option Int32 :=
  zck (zin (x4 + 1) L) (zck (zin (x4 + 2) L) (if (xs (x4 + 2).toNatClampNeg) = 0 then zbh (fL_stop o σ (xs (x4 + 1).toNatClampNeg) 0) (fun o87 σ87 v88 =>
  zck (zin (x4 + 1) L) (zck (zin (x4 + 2) L) (if (xs (x4 + 2).toNatClampNeg) = 0 then zbi (fX12_stop μ (xs (x4 + 1).toNatClampNeg) 0) (fun μ89 v90 =>
  zbv (x4 + 8) (fun v91 => kn μ89 o87 σ87 v91)) else
  zbi (fX12_stop μ (xs (x4 + 1).toNatClampNeg) 1) (fun μ92 v93 =>
  zbv (x4 + 8) (fun v94 => kn μ92 o87 σ87 v94))))) else
  zbh (fL_stop o σ (xs (x4 + 1).toNatClampNeg) 1) (fun o95 σ95 v96 =>
  zck (zin (x4 + 1) L) (zck (zin (x4 + 2) L) (if (xs (x4 + 2).toNatClampNeg) = 0 then zbi (fX12_stop μ (xs (x4 + 1).toNatClampNeg) 0) (fun μ97 v98 =>
  zbv (x4 + 8) (fun v99 => kn μ97 o95 σ95 v99)) else
  zbi (fX12_stop μ (xs (x4 + 1).toNatClampNeg) 1) (fun μ100 v101 =>
  zbv (x4 + 8) (fun v102 => kn μ100 o95 σ95 v102)))))))
set_option maxRecDepth 20000 in
set_option maxHeartbeats 4000000 in
theorem bLaw_852 {p : Program} {l : Launch} {e : Env} {s : State} {m : MethodId} {below : List Frame} {meth : Method} {c : Code} {st : Nat → Nat} {D : va_G} {b L : Nat} {xs : Nat → Int32} {ad am : Nat → Nat} {cy cm : Nat → ClassId} {ao : Nat} {co : ClassId} (hC : zC p m c cL_law 8 s #[Value.ref b] wzL_law RL meth ret) (hst : l.stackTraces = false) (hX : va_X b L xs s s.heap) (hbl : b < s.heap.size) (hbA : ¬ (fun q : Nat => s.heap.size ≤ q) b) {n : Nat} {kn : zSt → (Nat → Int64) → zSt → Int32 → Option Int32} (hk : ∀ (H : Heap) (locs : List Loc) (μ : zSt) (o : Nat → Int64) (σ : zSt) (ls : Array Slot) (x4 : Int32) (cells slots : Nat), cells + n ≤ 600128 → slots + 6 * n ≤ 7301064 → zLw st D ad cy am cm ao co μ o σ s H locs → lv_has ls 8 [(4, .int x4), (3, .ref ao), (2, .ref (am 0)), (1, .ref (ad 0)), (0, .ref b)] → kn μ o σ x4 = some 1 → W p l e room_1 s m #[Value.ref b] below meth c H locs cells slots (lw_Z below #[Value.ref b] s) (F0 m 33 ls [])) {H : Heap} {locs : List Loc} {μ : zSt} {o : Nat → Int64} {σ : zSt} {ls : Array Slot} {x4 : Int32} {cells slots : Nat} (hc : cells + (n + 1) ≤ 600128) (hs : slots + 6 * (n + 1) ≤ 7301064) (hI : zLw st D ad cy am cm ao co μ o σ s H locs) (hl : lv_has ls 8 [(4, .int x4), (3, .ref ao), (2, .ref (am 0)), (1, .ref (ad 0)), (0, .ref b)]) (hf : fLaw_852 xs L kn μ o σ x4 = some 1) : W p l e room_1 s m #[Value.ref b] below meth c H locs cells slots (lw_Z below #[Value.ref b] s) (F0 m 852 ls []) := by
  have hx := hC.1
  have hb := hC.2.1
  unfold fLaw_852 at hf
  refine lv_aload_n hx hb dL_law_852 rfl (lv_at hl 3 rfl) ?_
  refine lv_aload_n hx hb dL_law_853 rfl (lv_at hl 4 rfl) ?_
  refine lv_iload hx hb dL_law_854 (lv_at hl 0 rfl) ?_
  refine lv_iconst (v := 1) hx hb dL_law_856 (by decide) ?_
  refine lv_iadd hx hb dL_law_857 ?_
  obtain ⟨q, hf⟩ := zck_use hf
  refine va_sld hx hb hX hbl hbA hI.2.2.2.1 (zin_in q) dL_law_858 ?_
  refine lv_aload_n hx hb dL_law_859 rfl (lv_at hl 4 rfl) ?_
  refine lv_iload hx hb dL_law_860 (lv_at hl 0 rfl) ?_
  refine lv_iconst (v := 2) hx hb dL_law_862 (by decide) ?_
  refine lv_iadd hx hb dL_law_863 ?_
  obtain ⟨q, hf⟩ := zck_use hf
  refine va_sld hx hb hX hbl hbA hI.2.2.2.1 (zin_in q) dL_law_864 ?_
  refine lv_if_eq (tgt := 872) hx hb dL_law_865 (by decide) (fun q => ?_) (fun q => ?_)
  · replace hf := zif_t q hf
    refine lv_iconst (v := 0) hx hb dL_law_872 (by decide) ?_
    refine lv_aload_n hx hb dL_law_873 rfl (lv_at hl 1 rfl) ?_
    obtain ⟨o87, σ87, v88, g87, hf⟩ := zbh_use hf
    refine z_fcallH (u := wM am cm μ) (w := fun x : zHs => zHo ao co x.1 ++ wC ad cy x.2) (x := (o, σ)) (As := [.ref (ad 0), .int (xs (x4 + 1).toNatClampNeg), .int 0, .ref ao]) (rest := []) hC hI (zKH hI.1) (cL_stop_met st l hst D ad cy ao co o σ (xs (x4 + 1).toNatClampNeg) 0 _ g87) (zgS zw79_3 zw79_4 zw1_10 zw79_5) rfl ⟨rfl, rfl⟩ 4 hdL_stop ⟨Nat.le_of_ble_eq_true rfl, Nat.le_of_ble_eq_true rfl⟩ rfl hl rfl (Nat.le_of_ble_eq_true rfl) dL_law_874 ⟨by show cells + 1 ≤ 600128; omega, by show slots + 6 ≤ 7301064; omega⟩ (fun H locs hI => ?_)
    have hI : zLw st D ad cy am cm ao co μ o87 σ87 s H locs := hI
    refine lv_istore (lv' := [(5, .int v88), (4, .int x4), (3, .ref ao), (2, .ref (am 0)), (1, .ref (ad 0)), (0, .ref b)]) hx hb dL_law_877 hl (by decide) rfl (fun ls hl => ?_)
    refine lv_aload_n hx hb dL_law_879 rfl (lv_at hl 3 rfl) ?_
    refine lv_aload_n hx hb dL_law_880 rfl (lv_at hl 5 rfl) ?_
    refine lv_iload hx hb dL_law_881 (lv_at hl 1 rfl) ?_
    refine lv_iconst (v := 1) hx hb dL_law_883 (by decide) ?_
    refine lv_iadd hx hb dL_law_884 ?_
    obtain ⟨q, hf⟩ := zck_use hf
    refine va_sld hx hb hX hbl hbA hI.2.2.2.1 (zin_in q) dL_law_885 ?_
    refine lv_aload_n hx hb dL_law_886 rfl (lv_at hl 5 rfl) ?_
    refine lv_iload hx hb dL_law_887 (lv_at hl 1 rfl) ?_
    refine lv_iconst (v := 2) hx hb dL_law_889 (by decide) ?_
    refine lv_iadd hx hb dL_law_890 ?_
    obtain ⟨q, hf⟩ := zck_use hf
    refine va_sld hx hb hX hbl hbA hI.2.2.2.1 (zin_in q) dL_law_891 ?_
    refine lv_if_eq (tgt := 899) hx hb dL_law_892 (by decide) (fun q => ?_) (fun q => ?_)
    · replace hf := zif_t q hf
      refine lv_iconst (v := 0) hx hb dL_law_899 (by decide) ?_
      obtain ⟨μ89, v90, g89, hf⟩ := zbi_use hf
      refine z_fcallVi (u := zHo ao co o87 ++ wC ad cy σ87) (w := wM am cm) (As := [.int (xs (x4 + 1).toNatClampNeg), .int 0]) (rest := []) hC (zI.swap hI) (zKM hI.1) (cX12_stop_met st l D am cm μ (xs (x4 + 1).toNatClampNeg) 0 _ g89) (zgV zw79_20 zw79_21 zw79_22 zw1_5 zw79_23) rfl ⟨rfl, rfl⟩ 2 hdX12_stop ⟨Nat.le_of_ble_eq_true rfl, Nat.le_of_ble_eq_true rfl⟩ rfl rfl (wM_e0 am cm μ) rfl hl rfl (Nat.le_of_ble_eq_true rfl) dL_law_900 ⟨by show cells + 1 ≤ 600128; omega, by show slots + 6 ≤ 7301064; omega⟩ (fun H locs hI => ?_)
      have hI : zLw st D ad cy am cm ao co μ89 o87 σ87 s H locs := zI.swap hI
      refine lv_istore (lv' := [(6, .int v90), (5, .int v88), (4, .int x4), (3, .ref ao), (2, .ref (am 0)), (1, .ref (ad 0)), (0, .ref b)]) hx hb dL_law_903 hl (by decide) rfl (fun ls hl => ?_)
      refine lv_goto (tgt := 1418) hx hb dL_law_905 (by decide) ?_
      obtain ⟨v91, ev91⟩ : ∃ z : Int32, z = x4 + 8 := ⟨_, rfl⟩
      replace hf := zbv_use ev91 hf
      refine lv_iinc (v := v91) (lv' := [(4, .int v91), (6, .int v90), (5, .int v88), (3, .ref ao), (2, .ref (am 0)), (1, .ref (ad 0)), (0, .ref b)]) hx hb dL_law_1418 hl (k := 2) rfl (by rw [ev91]; rfl) (by decide) rfl (fun ls hl => ?_)
      refine lv_goto (tgt := 33) hx hb dL_law_1421 (by decide) ?_
      exact hk _ _ _ _ _ _ _ _ _ (by omega) (by omega) hI (lv_sub hl [0, 3, 4, 5, 6] rfl) hf
    replace hf := zif_f q hf
    refine lv_iconst (v := 1) hx hb dL_law_895 (by decide) ?_
    refine lv_goto (tgt := 900) hx hb dL_law_896 (by decide) ?_
    obtain ⟨μ92, v93, g92, hf⟩ := zbi_use hf
    refine z_fcallVi (u := zHo ao co o87 ++ wC ad cy σ87) (w := wM am cm) (As := [.int (xs (x4 + 1).toNatClampNeg), .int 1]) (rest := []) hC (zI.swap hI) (zKM hI.1) (cX12_stop_met st l D am cm μ (xs (x4 + 1).toNatClampNeg) 1 _ g92) (zgV zw79_20 zw79_21 zw79_22 zw1_5 zw79_23) rfl ⟨rfl, rfl⟩ 2 hdX12_stop ⟨Nat.le_of_ble_eq_true rfl, Nat.le_of_ble_eq_true rfl⟩ rfl rfl (wM_e0 am cm μ) rfl hl rfl (Nat.le_of_ble_eq_true rfl) dL_law_900 ⟨by show cells + 1 ≤ 600128; omega, by show slots + 6 ≤ 7301064; omega⟩ (fun H locs hI => ?_)
    have hI : zLw st D ad cy am cm ao co μ92 o87 σ87 s H locs := zI.swap hI
    refine lv_istore (lv' := [(6, .int v93), (5, .int v88), (4, .int x4), (3, .ref ao), (2, .ref (am 0)), (1, .ref (ad 0)), (0, .ref b)]) hx hb dL_law_903 hl (by decide) rfl (fun ls hl => ?_)
    refine lv_goto (tgt := 1418) hx hb dL_law_905 (by decide) ?_
    obtain ⟨v94, ev94⟩ : ∃ z : Int32, z = x4 + 8 := ⟨_, rfl⟩
    replace hf := zbv_use ev94 hf
    refine lv_iinc (v := v94) (lv' := [(4, .int v94), (6, .int v93), (5, .int v88), (3, .ref ao), (2, .ref (am 0)), (1, .ref (ad 0)), (0, .ref b)]) hx hb dL_law_1418 hl (k := 2) rfl (by rw [ev94]; rfl) (by decide) rfl (fun ls hl => ?_)
    refine lv_goto (tgt := 33) hx hb dL_law_1421 (by decide) ?_
    exact hk _ _ _ _ _ _ _ _ _ (by omega) (by omega) hI (lv_sub hl [0, 3, 4, 5, 6] rfl) hf
  replace hf := zif_f q hf
  refine lv_iconst (v := 1) hx hb dL_law_868 (by decide) ?_
  refine lv_goto (tgt := 873) hx hb dL_law_869 (by decide) ?_
  refine lv_aload_n hx hb dL_law_873 rfl (lv_at hl 1 rfl) ?_
  obtain ⟨o95, σ95, v96, g95, hf⟩ := zbh_use hf
  refine z_fcallH (u := wM am cm μ) (w := fun x : zHs => zHo ao co x.1 ++ wC ad cy x.2) (x := (o, σ)) (As := [.ref (ad 0), .int (xs (x4 + 1).toNatClampNeg), .int 1, .ref ao]) (rest := []) hC hI (zKH hI.1) (cL_stop_met st l hst D ad cy ao co o σ (xs (x4 + 1).toNatClampNeg) 1 _ g95) (zgS zw79_3 zw79_4 zw1_10 zw79_5) rfl ⟨rfl, rfl⟩ 4 hdL_stop ⟨Nat.le_of_ble_eq_true rfl, Nat.le_of_ble_eq_true rfl⟩ rfl hl rfl (Nat.le_of_ble_eq_true rfl) dL_law_874 ⟨by show cells + 1 ≤ 600128; omega, by show slots + 6 ≤ 7301064; omega⟩ (fun H locs hI => ?_)
  have hI : zLw st D ad cy am cm ao co μ o95 σ95 s H locs := hI
  refine lv_istore (lv' := [(5, .int v96), (4, .int x4), (3, .ref ao), (2, .ref (am 0)), (1, .ref (ad 0)), (0, .ref b)]) hx hb dL_law_877 hl (by decide) rfl (fun ls hl => ?_)
  refine lv_aload_n hx hb dL_law_879 rfl (lv_at hl 3 rfl) ?_
  refine lv_aload_n hx hb dL_law_880 rfl (lv_at hl 5 rfl) ?_
  refine lv_iload hx hb dL_law_881 (lv_at hl 1 rfl) ?_
  refine lv_iconst (v := 1) hx hb dL_law_883 (by decide) ?_
  refine lv_iadd hx hb dL_law_884 ?_
  obtain ⟨q, hf⟩ := zck_use hf
  refine va_sld hx hb hX hbl hbA hI.2.2.2.1 (zin_in q) dL_law_885 ?_
  refine lv_aload_n hx hb dL_law_886 rfl (lv_at hl 5 rfl) ?_
  refine lv_iload hx hb dL_law_887 (lv_at hl 1 rfl) ?_
  refine lv_iconst (v := 2) hx hb dL_law_889 (by decide) ?_
  refine lv_iadd hx hb dL_law_890 ?_
  obtain ⟨q, hf⟩ := zck_use hf
  refine va_sld hx hb hX hbl hbA hI.2.2.2.1 (zin_in q) dL_law_891 ?_
  refine lv_if_eq (tgt := 899) hx hb dL_law_892 (by decide) (fun q => ?_) (fun q => ?_)
  · replace hf := zif_t q hf
    refine lv_iconst (v := 0) hx hb dL_law_899 (by decide) ?_
    obtain ⟨μ97, v98, g97, hf⟩ := zbi_use hf
    refine z_fcallVi (u := zHo ao co o95 ++ wC ad cy σ95) (w := wM am cm) (As := [.int (xs (x4 + 1).toNatClampNeg), .int 0]) (rest := []) hC (zI.swap hI) (zKM hI.1) (cX12_stop_met st l D am cm μ (xs (x4 + 1).toNatClampNeg) 0 _ g97) (zgV zw79_20 zw79_21 zw79_22 zw1_5 zw79_23) rfl ⟨rfl, rfl⟩ 2 hdX12_stop ⟨Nat.le_of_ble_eq_true rfl, Nat.le_of_ble_eq_true rfl⟩ rfl rfl (wM_e0 am cm μ) rfl hl rfl (Nat.le_of_ble_eq_true rfl) dL_law_900 ⟨by show cells + 1 ≤ 600128; omega, by show slots + 6 ≤ 7301064; omega⟩ (fun H locs hI => ?_)
    have hI : zLw st D ad cy am cm ao co μ97 o95 σ95 s H locs := zI.swap hI
    refine lv_istore (lv' := [(6, .int v98), (5, .int v96), (4, .int x4), (3, .ref ao), (2, .ref (am 0)), (1, .ref (ad 0)), (0, .ref b)]) hx hb dL_law_903 hl (by decide) rfl (fun ls hl => ?_)
    refine lv_goto (tgt := 1418) hx hb dL_law_905 (by decide) ?_
    obtain ⟨v99, ev99⟩ : ∃ z : Int32, z = x4 + 8 := ⟨_, rfl⟩
    replace hf := zbv_use ev99 hf
    refine lv_iinc (v := v99) (lv' := [(4, .int v99), (6, .int v98), (5, .int v96), (3, .ref ao), (2, .ref (am 0)), (1, .ref (ad 0)), (0, .ref b)]) hx hb dL_law_1418 hl (k := 2) rfl (by rw [ev99]; rfl) (by decide) rfl (fun ls hl => ?_)
    refine lv_goto (tgt := 33) hx hb dL_law_1421 (by decide) ?_
    exact hk _ _ _ _ _ _ _ _ _ (by omega) (by omega) hI (lv_sub hl [0, 3, 4, 5, 6] rfl) hf
  replace hf := zif_f q hf
  refine lv_iconst (v := 1) hx hb dL_law_895 (by decide) ?_
  refine lv_goto (tgt := 900) hx hb dL_law_896 (by decide) ?_
  obtain ⟨μ100, v101, g100, hf⟩ := zbi_use hf
  refine z_fcallVi (u := zHo ao co o95 ++ wC ad cy σ95) (w := wM am cm) (As := [.int (xs (x4 + 1).toNatClampNeg), .int 1]) (rest := []) hC (zI.swap hI) (zKM hI.1) (cX12_stop_met st l D am cm μ (xs (x4 + 1).toNatClampNeg) 1 _ g100) (zgV zw79_20 zw79_21 zw79_22 zw1_5 zw79_23) rfl ⟨rfl, rfl⟩ 2 hdX12_stop ⟨Nat.le_of_ble_eq_true rfl, Nat.le_of_ble_eq_true rfl⟩ rfl rfl (wM_e0 am cm μ) rfl hl rfl (Nat.le_of_ble_eq_true rfl) dL_law_900 ⟨by show cells + 1 ≤ 600128; omega, by show slots + 6 ≤ 7301064; omega⟩ (fun H locs hI => ?_)
  have hI : zLw st D ad cy am cm ao co μ100 o95 σ95 s H locs := zI.swap hI
  refine lv_istore (lv' := [(6, .int v101), (5, .int v96), (4, .int x4), (3, .ref ao), (2, .ref (am 0)), (1, .ref (ad 0)), (0, .ref b)]) hx hb dL_law_903 hl (by decide) rfl (fun ls hl => ?_)
  refine lv_goto (tgt := 1418) hx hb dL_law_905 (by decide) ?_
  obtain ⟨v102, ev102⟩ : ∃ z : Int32, z = x4 + 8 := ⟨_, rfl⟩
  replace hf := zbv_use ev102 hf
  refine lv_iinc (v := v102) (lv' := [(4, .int v102), (6, .int v101), (5, .int v96), (3, .ref ao), (2, .ref (am 0)), (1, .ref (ad 0)), (0, .ref b)]) hx hb dL_law_1418 hl (k := 2) rfl (by rw [ev102]; rfl) (by decide) rfl (fun ls hl => ?_)
  refine lv_goto (tgt := 33) hx hb dL_law_1421 (by decide) ?_
  exact hk _ _ _ _ _ _ _ _ _ (by omega) (by omega) hI (lv_sub hl [0, 3, 4, 5, 6] rfl) hf
