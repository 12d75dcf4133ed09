def fLaw_717 (xs : Nat → Int32) (L : Nat) (kn : zSt → (Nat → Int64) → zSt → Int32 → Option Int32) (μ : zSt) (o : Nat → Int64) (σ : zSt) (x4 : Int32) : Option Int32 :=
  zbu (fX11_reset σ ) (fun σ52 =>
  zbu (fX12_reset μ ) (fun μ53 =>
  zbv (x4 + 8) (fun v54 => kn μ53 o σ52 v54)))
set_option maxRecDepth 20000 in
set_option maxHeartbeats 4000000 in
theorem bLaw_717 {p : Program} {l : Launch} {e : Env} {s : State} {m : MethodId} {below : List Frame} {meth : Method} {c : Code} {st : Nat → Nat} {D : va_G} {b L : Nat} {xs : Nat → Int32} {ad am : Nat → Nat} {cy cm : Nat → ClassId} {ao : Nat} {co : ClassId} (hC : zC p m c cL_law 8 s #[Value.ref b] wzL_law RL meth ret) (hst : l.stackTraces = false) (hX : va_X b L xs s s.heap) (hbl : b < s.heap.size) (hbA : ¬ (fun q : Nat => s.heap.size ≤ q) b) {n : Nat} {kn : zSt → (Nat → Int64) → zSt → Int32 → Option Int32} (hk : ∀ (H : Heap) (locs : List Loc) (μ : zSt) (o : Nat → Int64) (σ : zSt) (ls : Array Slot) (x4 : Int32) (cells slots : Nat), cells + n ≤ 600002 → slots + 6 * n ≤ 7302198 → zLw st D ad cy am cm ao co μ o σ s H locs → lv_has ls 8 [(4, .int x4), (3, .ref ao), (2, .ref (am 0)), (1, .ref (ad 0)), (0, .ref b)] → kn μ o σ x4 = some 1 → W p l e room_1 s m #[Value.ref b] below meth c H locs cells slots (lw_Z below #[Value.ref b] s) (F0 m 33 ls [])) {H : Heap} {locs : List Loc} {μ : zSt} {o : Nat → Int64} {σ : zSt} {ls : Array Slot} {x4 : Int32} {cells slots : Nat} (hc : cells + (n + 1) ≤ 600002) (hs : slots + 6 * (n + 1) ≤ 7302198) (hI : zLw st D ad cy am cm ao co μ o σ s H locs) (hl : lv_has ls 8 [(4, .int x4), (3, .ref ao), (2, .ref (am 0)), (1, .ref (ad 0)), (0, .ref b)]) (hf : fLaw_717 xs L kn μ o σ x4 = some 1) : W p l e room_1 s m #[Value.ref b] below meth c H locs cells slots (lw_Z below #[Value.ref b] s) (F0 m 717 ls []) := by
  have hx := hC.1
  have hb := hC.2.1
  unfold fLaw_717 at hf
  refine lv_aload_n hx hb dL_law_717 rfl (lv_at hl 3 rfl) ?_
  obtain ⟨σ52, g52, hf⟩ := zbu_use hf
  refine z_fcallVu (u := wM am cm μ ++ zHo ao co o) (w := wC ad cy) (As := []) (rest := []) hC (zI.al hI) (zKC hI.1) (cX11_reset_met st l D ad cy σ  _ g52) (zgV zw66_11 zw66_12 zw66_13 zw1_2 zw66_14) rfl ⟨rfl, rfl⟩ 0 hdX11_reset ⟨Nat.le_of_ble_eq_true rfl, Nat.le_of_ble_eq_true rfl⟩ rfl rfl (wC_e0 ad cy σ) rfl hl rfl (Nat.le_of_ble_eq_true rfl) dL_law_718 ⟨by show cells ≤ 600002; omega, by show slots ≤ 7302198; omega⟩ (fun H locs hI => ?_)
  have hI : zLw st D ad cy am cm ao co μ o σ52 s H locs := zI.ar hI
  refine lv_aload_n hx hb dL_law_721 rfl (lv_at hl 2 rfl) ?_
  obtain ⟨μ53, g53, hf⟩ := zbu_use hf
  refine z_fcallVu (u := zHo ao co o ++ wC ad cy σ52) (w := wM am cm) (As := []) (rest := []) hC (zI.swap hI) (zKM hI.1) (cX12_reset_met st l D am cm μ  _ g53) (zgV zw66_15 zw66_16 zw66_17 zw1_5 zw66_18) rfl ⟨rfl, rfl⟩ 0 hdX12_reset ⟨Nat.le_of_ble_eq_true rfl, Nat.le_of_ble_eq_true rfl⟩ rfl rfl (wM_e0 am cm μ) rfl hl rfl (Nat.le_of_ble_eq_true rfl) dL_law_722 ⟨by show cells ≤ 600002; omega, by show slots ≤ 7302198; omega⟩ (fun H locs hI => ?_)
  have hI : zLw st D ad cy am cm ao co μ53 o σ52 s H locs := zI.swap hI
  refine lv_goto (tgt := 1946) hx hb dL_law_725 (by decide) ?_
  obtain ⟨v54, ev54⟩ : ∃ z : Int32, z = x4 + 8 := ⟨_, rfl⟩
  replace hf := zbv_use ev54 hf
  refine lv_iinc (v := v54) (lv' := [(4, .int v54), (3, .ref ao), (2, .ref (am 0)), (1, .ref (ad 0)), (0, .ref b)]) hx hb dL_law_1946 hl (k := 0) rfl (by rw [ev54]; rfl) (by decide) rfl (fun ls hl => ?_)
  refine lv_goto (tgt := 33) hx hb dL_law_1949 (by decide) ?_
  exact hk _ _ _ _ _ _ _ _ _ (by omega) (by omega) hI (lv_sub hl [0, 1, 2, 3, 4] rfl) hf
def fLaw_728 (xs : Nat → Int32) (L : Nat) (kn : zSt → (Nat → Int64) → zSt → Int32 → Option Int32) (μ : zSt) (o : Nat → Int64) (σ : zSt) (x4 : Int32) : Option Int32 :=
  zbi (fX11_pause σ ) (fun σ55 v56 =>
  zbi (fX12_pause μ ) (fun μ57 v58 =>
  if v56 = v58 then zbv (x4 + 8) (fun v59 => kn μ57 o σ55 v59) else
  some 0))
set_option maxRecDepth 20000 in
set_option maxHeartbeats 4000000 in
theorem bLaw_728 {p : Program} {l : Launch} {e : Env} {s : State} {m : MethodId} {below : List Frame} {meth : Method} {c : Code} {st : Nat → Nat} {D : va_G} {b L : Nat} {xs : Nat → Int32} {ad am : Nat → Nat} {cy cm : Nat → ClassId} {ao : Nat} {co : ClassId} (hC : zC p m c cL_law 8 s #[Value.ref b] wzL_law RL meth ret) (hst : l.stackTraces = false) (hX : va_X b L xs s s.heap) (hbl : b < s.heap.size) (hbA : ¬ (fun q : Nat => s.heap.size ≤ q) b) {n : Nat} {kn : zSt → (Nat → Int64) → zSt → Int32 → Option Int32} (hk : ∀ (H : Heap) (locs : List Loc) (μ : zSt) (o : Nat → Int64) (σ : zSt) (ls : Array Slot) (x4 : Int32) (cells slots : Nat), cells + n ≤ 600002 → slots + 6 * n ≤ 7302198 → zLw st D ad cy am cm ao co μ o σ s H locs → lv_has ls 8 [(4, .int x4), (3, .ref ao), (2, .ref (am 0)), (1, .ref (ad 0)), (0, .ref b)] → kn μ o σ x4 = some 1 → W p l e room_1 s m #[Value.ref b] below meth c H locs cells slots (lw_Z below #[Value.ref b] s) (F0 m 33 ls [])) {H : Heap} {locs : List Loc} {μ : zSt} {o : Nat → Int64} {σ : zSt} {ls : Array Slot} {x4 : Int32} {cells slots : Nat} (hc : cells + (n + 1) ≤ 600002) (hs : slots + 6 * (n + 1) ≤ 7302198) (hI : zLw st D ad cy am cm ao co μ o σ s H locs) (hl : lv_has ls 8 [(4, .int x4), (3, .ref ao), (2, .ref (am 0)), (1, .ref (ad 0)), (0, .ref b)]) (hf : fLaw_728 xs L kn μ o σ x4 = some 1) : W p l e room_1 s m #[Value.ref b] below meth c H locs cells slots (lw_Z below #[Value.ref b] s) (F0 m 728 ls []) := by
  have hx := hC.1
  have hb := hC.2.1
  unfold fLaw_728 at hf
  refine lv_aload_n hx hb dL_law_728 rfl (lv_at hl 3 rfl) ?_
  obtain ⟨σ55, v56, g55, hf⟩ := zbi_use hf
  refine z_fcallVi (u := wM am cm μ ++ zHo ao co o) (w := wC ad cy) (As := []) (rest := []) hC (zI.al hI) (zKC hI.1) (cX11_pause_met st l D ad cy σ  _ g55) (zgV zw66_19 zw66_20 zw66_21 zw1_2 zw66_22) rfl ⟨rfl, rfl⟩ 0 hdX11_pause ⟨Nat.le_of_ble_eq_true rfl, Nat.le_of_ble_eq_true rfl⟩ rfl rfl (wC_e0 ad cy σ) rfl hl rfl (Nat.le_of_ble_eq_true rfl) dL_law_729 ⟨by show cells ≤ 600002; omega, by show slots ≤ 7302198; omega⟩ (fun H locs hI => ?_)
  have hI : zLw st D ad cy am cm ao co μ o σ55 s H locs := zI.ar hI
  refine lv_aload_n hx hb dL_law_732 rfl (lv_at hl 2 rfl) ?_
  obtain ⟨μ57, v58, g57, hf⟩ := zbi_use hf
  refine z_fcallVi (u := zHo ao co o ++ wC ad cy σ55) (w := wM am cm) (As := []) (rest := [.int v56]) hC (zI.swap hI) (zKM hI.1) (cX12_pause_met st l D am cm μ  _ g57) (zgV zw67_3 zw67_4 zw67_5 zw1_5 zw67_6) rfl ⟨rfl, rfl⟩ 0 hdX12_pause ⟨Nat.le_of_ble_eq_true rfl, Nat.le_of_ble_eq_true rfl⟩ rfl rfl (wM_e0 am cm μ) rfl hl rfl (Nat.le_of_ble_eq_true rfl) dL_law_733 ⟨by show cells ≤ 600002; omega, by show slots ≤ 7302198; omega⟩ (fun H locs hI => ?_)
  have hI : zLw st D ad cy am cm ao co μ57 o σ55 s H locs := zI.swap hI
  refine lv_icmp_eq (tgt := 1946) hx hb dL_law_736 (by decide) (fun q => ?_) (fun q => ?_)
  · replace hf := zif_t q hf
    obtain ⟨v59, ev59⟩ : ∃ z : Int32, z = x4 + 8 := ⟨_, rfl⟩
    replace hf := zbv_use ev59 hf
    refine lv_iinc (v := v59) (lv' := [(4, .int v59), (3, .ref ao), (2, .ref (am 0)), (1, .ref (ad 0)), (0, .ref b)]) hx hb dL_law_1946 hl (k := 0) rfl (by rw [ev59]; rfl) (by decide) rfl (fun ls hl => ?_)
    refine lv_goto (tgt := 33) hx hb dL_law_1949 (by decide) ?_
    exact hk _ _ _ _ _ _ _ _ _ (by omega) (by omega) hI (lv_sub hl [0, 1, 2, 3, 4] rfl) hf
  replace hf := zif_f q hf
  refine lv_iconst (v := 0) hx hb dL_law_739 (by decide) ?_
  exact absurd (Option.some.inj hf) (by decide)
def fLaw_741 (xs : Nat → Int32) (L : Nat) (kn : zSt → (Nat → Int64) → zSt → Int32 → Option Int32) (μ : zSt) (o : Nat → Int64) (σ : zSt) (x4 : Int32) : Option Int32 :=
  zck (zin (x4 + 1) L) (zck (zin (x4 + 2) L) (zbi (fL_press σ (xs (x4 + 1).toNatClampNeg) (xs (x4 + 2).toNatClampNeg)) (fun σ60 v61 =>
  zck (zin (x4 + 1) L) (zck (zin (x4 + 2) L) (zbu (fX12_press μ (xs (x4 + 1).toNatClampNeg) (xs (x4 + 2).toNatClampNeg)) (fun μ62 =>
  zbi (fX12_thrown μ62 ) (fun μ63 v64 =>
  if v64 = v61 then zbv (x4 + 8) (fun v65 => kn μ63 o σ60 v65) else
  some 0)))))))
set_option maxRecDepth 20000 in
set_option maxHeartbeats 4000000 in
theorem bLaw_741 {p : Program} {l : Launch} {e : Env} {s : State} {m : MethodId} {below : List Frame} {meth : Method} {c : Code} {st : Nat → Nat} {D : va_G} {b L : Nat} {xs : Nat → Int32} {ad am : Nat → Nat} {cy cm : Nat → ClassId} {ao : Nat} {co : ClassId} (hC : zC p m c cL_law 8 s #[Value.ref b] wzL_law RL meth ret) (hst : l.stackTraces = false) (hX : va_X b L xs s s.heap) (hbl : b < s.heap.size) (hbA : ¬ (fun q : Nat => s.heap.size ≤ q) b) {n : Nat} {kn : zSt → (Nat → Int64) → zSt → Int32 → Option Int32} (hk : ∀ (H : Heap) (locs : List Loc) (μ : zSt) (o : Nat → Int64) (σ : zSt) (ls : Array Slot) (x4 : Int32) (cells slots : Nat), cells + n ≤ 600002 → slots + 6 * n ≤ 7302198 → zLw st D ad cy am cm ao co μ o σ s H locs → lv_has ls 8 [(4, .int x4), (3, .ref ao), (2, .ref (am 0)), (1, .ref (ad 0)), (0, .ref b)] → kn μ o σ x4 = some 1 → W p l e room_1 s m #[Value.ref b] below meth c H locs cells slots (lw_Z below #[Value.ref b] s) (F0 m 33 ls [])) {H : Heap} {locs : List Loc} {μ : zSt} {o : Nat → Int64} {σ : zSt} {ls : Array Slot} {x4 : Int32} {cells slots : Nat} (hc : cells + (n + 1) ≤ 600002) (hs : slots + 6 * (n + 1) ≤ 7302198) (hI : zLw st D ad cy am cm ao co μ o σ s H locs) (hl : lv_has ls 8 [(4, .int x4), (3, .ref ao), (2, .ref (am 0)), (1, .ref (ad 0)), (0, .ref b)]) (hf : fLaw_741 xs L kn μ o σ x4 = some 1) : W p l e room_1 s m #[Value.ref b] below meth c H locs cells slots (lw_Z below #[Value.ref b] s) (F0 m 741 ls []) := by
  have hx := hC.1
  have hb := hC.2.1
  unfold fLaw_741 at hf
  refine lv_aload_n hx hb dL_law_741 rfl (lv_at hl 3 rfl) ?_
  refine lv_aload_n hx hb dL_law_742 rfl (lv_at hl 4 rfl) ?_
  refine lv_iload hx hb dL_law_743 (lv_at hl 0 rfl) ?_
  refine lv_iconst (v := 1) hx hb dL_law_745 (by decide) ?_
  refine lv_iadd hx hb dL_law_746 ?_
  obtain ⟨q, hf⟩ := zck_use hf
  refine va_sld hx hb hX hbl hbA hI.2.2.2.1 (zin_in q) dL_law_747 ?_
  refine lv_aload_n hx hb dL_law_748 rfl (lv_at hl 4 rfl) ?_
  refine lv_iload hx hb dL_law_749 (lv_at hl 0 rfl) ?_
  refine lv_iconst (v := 2) hx hb dL_law_751 (by decide) ?_
  refine lv_iadd hx hb dL_law_752 ?_
  obtain ⟨q, hf⟩ := zck_use hf
  refine va_sld hx hb hX hbl hbA hI.2.2.2.1 (zin_in q) dL_law_753 ?_
  obtain ⟨σ60, v61, g60, hf⟩ := zbi_use hf
  refine z_fcallH (u := wM am cm μ ++ zHo ao co o) (w := wC ad cy) (x := σ) (As := [.ref (ad 0), .int (xs (x4 + 1).toNatClampNeg), .int (xs (x4 + 2).toNatClampNeg)]) (rest := []) hC (zI.al hI) (zKC hI.1) (cL_press_met st l hst D ad cy σ (xs (x4 + 1).toNatClampNeg) (xs (x4 + 2).toNatClampNeg) _ g60) (zgS zw67_7 zw67_8 zw1_10 zw67_9) rfl ⟨rfl, rfl⟩ 3 hdL_press ⟨Nat.le_of_ble_eq_true rfl, Nat.le_of_ble_eq_true rfl⟩ rfl hl rfl (Nat.le_of_ble_eq_true rfl) dL_law_754 ⟨by show cells + 1 ≤ 600002; omega, by show slots + 6 ≤ 7302198; omega⟩ (fun H locs hI => ?_)
  have hI : zLw st D ad cy am cm ao co μ o σ60 s H locs := zI.ar hI
  refine lv_istore (lv' := [(5, .int v61), (4, .int x4), (3, .ref ao), (2, .ref (am 0)), (1, .ref (ad 0)), (0, .ref b)]) hx hb dL_law_757 hl (by decide) rfl (fun ls hl => ?_)
  refine lv_aload_n hx hb dL_law_759 rfl (lv_at hl 3 rfl) ?_
  refine lv_aload_n hx hb dL_law_760 rfl (lv_at hl 5 rfl) ?_
  refine lv_iload hx hb dL_law_761 (lv_at hl 1 rfl) ?_
  refine lv_iconst (v := 1) hx hb dL_law_763 (by decide) ?_
  refine lv_iadd hx hb dL_law_764 ?_
  obtain ⟨q, hf⟩ := zck_use hf
  refine va_sld hx hb hX hbl hbA hI.2.2.2.1 (zin_in q) dL_law_765 ?_
  refine lv_aload_n hx hb dL_law_766 rfl (lv_at hl 5 rfl) ?_
  refine lv_iload hx hb dL_law_767 (lv_at hl 1 rfl) ?_
  refine lv_iconst (v := 2) hx hb dL_law_769 (by decide) ?_
  refine lv_iadd hx hb dL_law_770 ?_
  obtain ⟨q, hf⟩ := zck_use hf
  refine va_sld hx hb hX hbl hbA hI.2.2.2.1 (zin_in q) dL_law_771 ?_
  obtain ⟨μ62, g62, hf⟩ := zbu_use hf
  refine z_fcallVu (u := zHo ao co o ++ wC ad cy σ60) (w := wM am cm) (As := [.int (xs (x4 + 1).toNatClampNeg), .int (xs (x4 + 2).toNatClampNeg)]) (rest := []) hC (zI.swap hI) (zKM hI.1) (cX12_press_met st l D am cm μ (xs (x4 + 1).toNatClampNeg) (xs (x4 + 2).toNatClampNeg) _ g62) (zgV zw67_18 zw67_19 zw67_20 zw1_5 zw67_21) rfl ⟨rfl, rfl⟩ 2 hdX12_press ⟨Nat.le_of_ble_eq_true rfl, Nat.le_of_ble_eq_true rfl⟩ rfl rfl (wM_e0 am cm μ) rfl hl rfl (Nat.le_of_ble_eq_true rfl) dL_law_772 ⟨by show cells + 1 ≤ 600002; omega, by show slots + 6 ≤ 7302198; omega⟩ (fun H locs hI => ?_)
  have hI : zLw st D ad cy am cm ao co μ62 o σ60 s H locs := zI.swap hI
  refine lv_aload_n hx hb dL_law_775 rfl (lv_at hl 3 rfl) ?_
  obtain ⟨μ63, v64, g63, hf⟩ := zbi_use hf
  refine z_fcallVi (u := zHo ao co o ++ wC ad cy σ60) (w := wM am cm) (As := []) (rest := []) hC (zI.swap hI) (zKM hI.1) (cX12_thrown_met st l D am cm μ62  _ g63) (zgV zw12_2 zw12_3 zw12_4 zw1_5 zw12_5) rfl ⟨rfl, rfl⟩ 0 hdX12_thrown ⟨Nat.le_of_ble_eq_true rfl, Nat.le_of_ble_eq_true rfl⟩ rfl rfl (wM_e0 am cm μ62) rfl hl rfl (Nat.le_of_ble_eq_true rfl) dL_law_776 ⟨by show cells + 1 ≤ 600002; omega, by show slots + 6 ≤ 7302198; omega⟩ (fun H locs hI => ?_)
  have hI : zLw st D ad cy am cm ao co μ63 o σ60 s H locs := zI.swap hI
  refine lv_iload hx hb dL_law_779 (lv_at hl 0 rfl) ?_
  refine lv_icmp_eq (tgt := 786) hx hb dL_law_781 (by decide) (fun q => ?_) (fun q => ?_)
  · replace hf := zif_t q hf
    refine lv_goto (tgt := 1946) hx hb dL_law_786 (by decide) ?_
    obtain ⟨v65, ev65⟩ : ∃ z : Int32, z = x4 + 8 := ⟨_, rfl⟩
    replace hf := zbv_use ev65 hf
    refine lv_iinc (v := v65) (lv' := [(4, .int v65), (5, .int v61), (3, .ref ao), (2, .ref (am 0)), (1, .ref (ad 0)), (0, .ref b)]) hx hb dL_law_1946 hl (k := 1) rfl (by rw [ev65]; rfl) (by decide) rfl (fun ls hl => ?_)
    refine lv_goto (tgt := 33) hx hb dL_law_1949 (by decide) ?_
    exact hk _ _ _ _ _ _ _ _ _ (by omega) (by omega) hI (lv_sub hl [0, 2, 3, 4, 5] rfl) hf
  replace hf := zif_f q hf
  refine lv_iconst (v := 0) hx hb dL_law_784 (by decide) ?_
  exact absurd (Option.some.inj hf) (by decide)
def fLaw_789 (xs : Nat → Int32) (L : Nat) (kn : zSt → (Nat → Int64) → zSt → Int32 → Option Int32) (μ : zSt) (o : Nat → Int64) (σ : zSt) (x4 : Int32) : Option Int32 :=
  zck (zin (x4 + 1) L) (if (xs (x4 + 1).toNatClampNeg) = 0 then zbu (fX11_start σ 0) (fun σ66 =>
  zck (zin (x4 + 1) L) (if (xs (x4 + 1).toNatClampNeg) = 0 then zbu (fX12_start μ 0) (fun μ67 =>
  zbv (x4 + 8) (fun v68 => kn μ67 o σ66 v68)) else
  zbu (fX12_start μ 1) (fun μ69 =>
  zbv (x4 + 8) (fun v70 => kn μ69 o σ66 v70)))) else
  zbu (fX11_start σ 1) (fun σ71 =>
  zck (zin (x4 + 1) L) (if (xs (x4 + 1).toNatClampNeg) = 0 then zbu (fX12_start μ 0) (fun μ72 =>
  zbv (x4 + 8) (fun v73 => kn μ72 o σ71 v73)) else
  zbu (fX12_start μ 1) (fun μ74 =>
  zbv (x4 + 8) (fun v75 => kn μ74 o σ71 v75)))))
set_option maxRecDepth 20000 in
set_option maxHeartbeats 4000000 in
theorem bLaw_789 {p : Program} {l : Launch} {e : Env} {s : State} {m : MethodId} {below : List Frame} {meth : Method} {c : Code} {st : Nat → Nat} {D : va_G} {b L : Nat} {xs : Nat → Int32} {ad am : Nat → Nat} {cy cm : Nat → ClassId} {ao : Nat} {co : ClassId} (hC : zC p m c cL_law 8 s #[Value.ref b] wzL_law RL meth ret) (hst : l.stackTraces = false) (hX : va_X b L xs s s.heap) (hbl : b < s.heap.size) (hbA : ¬ (fun q : Nat => s.heap.size ≤ q) b) {n : Nat} {kn : zSt → (Nat → Int64) → zSt → Int32 → Option Int32} (hk : ∀ (H : Heap) (locs : List Loc) (μ : zSt) (o : Nat → Int64) (σ : zSt) (ls : Array Slot) (x4 : Int32) (cells slots : Nat), cells + n ≤ 600002 → slots + 6 * n ≤ 7302198 → zLw st D ad cy am cm ao co μ o σ s H locs → lv_has ls 8 [(4, .int x4), (3, .ref ao), (2, .ref (am 0)), (1, .ref (ad 0)), (0, .ref b)] → kn μ o σ x4 = some 1 → W p l e room_1 s m #[Value.ref b] below meth c H locs cells slots (lw_Z below #[Value.ref b] s) (F0 m 33 ls [])) {H : Heap} {locs : List Loc} {μ : zSt} {o : Nat → Int64} {σ : zSt} {ls : Array Slot} {x4 : Int32} {cells slots : Nat} (hc : cells + (n + 1) ≤ 600002) (hs : slots + 6 * (n + 1) ≤ 7302198) (hI : zLw st D ad cy am cm ao co μ o σ s H locs) (hl : lv_has ls 8 [(4, .int x4), (3, .ref ao), (2, .ref (am 0)), (1, .ref (ad 0)), (0, .ref b)]) (hf : fLaw_789 xs L kn μ o σ x4 = some 1) : W p l e room_1 s m #[Value.ref b] below meth c H locs cells slots (lw_Z below #[Value.ref b] s) (F0 m 789 ls []) := by
  have hx := hC.1
  have hb := hC.2.1
  unfold fLaw_789 at hf
  refine lv_aload_n hx hb dL_law_789 rfl (lv_at hl 3 rfl) ?_
  refine lv_aload_n hx hb dL_law_790 rfl (lv_at hl 4 rfl) ?_
  refine lv_iload hx hb dL_law_791 (lv_at hl 0 rfl) ?_
  refine lv_iconst (v := 1) hx hb dL_law_793 (by decide) ?_
  refine lv_iadd hx hb dL_law_794 ?_
  obtain ⟨q, hf⟩ := zck_use hf
  refine va_sld hx hb hX hbl hbA hI.2.2.2.1 (zin_in q) dL_law_795 ?_
  refine lv_if_eq (tgt := 803) hx hb dL_law_796 (by decide) (fun q => ?_) (fun q => ?_)
  · replace hf := zif_t q hf
    refine lv_iconst (v := 0) hx hb dL_law_803 (by decide) ?_
    obtain ⟨σ66, g66, hf⟩ := zbu_use hf
    refine z_fcallVu (u := wM am cm μ ++ zHo ao co o) (w := wC ad cy) (As := [.int 0]) (rest := []) hC (zI.al hI) (zKC hI.1) (cX11_start_met st l D ad cy σ 0 _ g66) (zgV zw67_23 zw68_0 zw68_1 zw1_2 zw68_2) rfl ⟨rfl, rfl⟩ 1 hdX11_start ⟨Nat.le_of_ble_eq_true rfl, Nat.le_of_ble_eq_true rfl⟩ rfl rfl (wC_e0 ad cy σ) rfl hl rfl (Nat.le_of_ble_eq_true rfl) dL_law_804 ⟨by show cells ≤ 600002; omega, by show slots ≤ 7302198; omega⟩ (fun H locs hI => ?_)
    have hI : zLw st D ad cy am cm ao co μ o σ66 s H locs := zI.ar hI
    refine lv_aload_n hx hb dL_law_807 rfl (lv_at hl 2 rfl) ?_
    refine lv_aload_n hx hb dL_law_808 rfl (lv_at hl 4 rfl) ?_
    refine lv_iload hx hb dL_law_809 (lv_at hl 0 rfl) ?_
    refine lv_iconst (v := 1) hx hb dL_law_811 (by decide) ?_
    refine lv_iadd hx hb dL_law_812 ?_
    obtain ⟨q, hf⟩ := zck_use hf
    refine va_sld hx hb hX hbl hbA hI.2.2.2.1 (zin_in q) dL_law_813 ?_
    refine lv_if_eq (tgt := 821) hx hb dL_law_814 (by decide) (fun q => ?_) (fun q => ?_)
    · replace hf := zif_t q hf
      refine lv_iconst (v := 0) hx hb dL_law_821 (by decide) ?_
      obtain ⟨μ67, g67, hf⟩ := zbu_use hf
      refine z_fcallVu (u := zHo ao co o ++ wC ad cy σ66) (w := wM am cm) (As := [.int 0]) (rest := []) hC (zI.swap hI) (zKM hI.1) (cX12_start_met st l D am cm μ 0 _ g67) (zgV zw68_7 zw68_8 zw68_9 zw1_5 zw68_10) rfl ⟨rfl, rfl⟩ 1 hdX12_start ⟨Nat.le_of_ble_eq_true rfl, Nat.le_of_ble_eq_true rfl⟩ rfl rfl (wM_e0 am cm μ) rfl hl rfl (Nat.le_of_ble_eq_true rfl) dL_law_822 ⟨by show cells ≤ 600002; omega, by show slots ≤ 7302198; omega⟩ (fun H locs hI => ?_)
      have hI : zLw st D ad cy am cm ao co μ67 o σ66 s H locs := zI.swap hI
      refine lv_goto (tgt := 1946) hx hb dL_law_825 (by decide) ?_
      obtain ⟨v68, ev68⟩ : ∃ z : Int32, z = x4 + 8 := ⟨_, rfl⟩
      replace hf := zbv_use ev68 hf
      refine lv_iinc (v := v68) (lv' := [(4, .int v68), (3, .ref ao), (2, .ref (am 0)), (1, .ref (ad 0)), (0, .ref b)]) hx hb dL_law_1946 hl (k := 0) rfl (by rw [ev68]; rfl) (by decide) rfl (fun ls hl => ?_)
      refine lv_goto (tgt := 33) hx hb dL_law_1949 (by decide) ?_
      exact hk _ _ _ _ _ _ _ _ _ (by omega) (by omega) hI (lv_sub hl [0, 1, 2, 3, 4] rfl) hf
    replace hf := zif_f q hf
    refine lv_iconst (v := 1) hx hb dL_law_817 (by decide) ?_
    refine lv_goto (tgt := 822) hx hb dL_law_818 (by decide) ?_
    obtain ⟨μ69, g69, hf⟩ := zbu_use hf
    refine z_fcallVu (u := zHo ao co o ++ wC ad cy σ66) (w := wM am cm) (As := [.int 1]) (rest := []) hC (zI.swap hI) (zKM hI.1) (cX12_start_met st l D am cm μ 1 _ g69) (zgV zw68_7 zw68_8 zw68_9 zw1_5 zw68_10) rfl ⟨rfl, rfl⟩ 1 hdX12_start ⟨Nat.le_of_ble_eq_true rfl, Nat.le_of_ble_eq_true rfl⟩ rfl rfl (wM_e0 am cm μ) rfl hl rfl (Nat.le_of_ble_eq_true rfl) dL_law_822 ⟨by show cells ≤ 600002; omega, by show slots ≤ 7302198; omega⟩ (fun H locs hI => ?_)
    have hI : zLw st D ad cy am cm ao co μ69 o σ66 s H locs := zI.swap hI
    refine lv_goto (tgt := 1946) hx hb dL_law_825 (by decide) ?_
    obtain ⟨v70, ev70⟩ : ∃ z : Int32, z = x4 + 8 := ⟨_, rfl⟩
    replace hf := zbv_use ev70 hf
    refine lv_iinc (v := v70) (lv' := [(4, .int v70), (3, .ref ao), (2, .ref (am 0)), (1, .ref (ad 0)), (0, .ref b)]) hx hb dL_law_1946 hl (k := 0) rfl (by rw [ev70]; rfl) (by decide) rfl (fun ls hl => ?_)
    refine lv_goto (tgt := 33) hx hb dL_law_1949 (by decide) ?_
    exact hk _ _ _ _ _ _ _ _ _ (by omega) (by omega) hI (lv_sub hl [0, 1, 2, 3, 4] rfl) hf
  replace hf := zif_f q hf
  refine lv_iconst (v := 1) hx hb dL_law_799 (by decide) ?_
  refine lv_goto (tgt := 804) hx hb dL_law_800 (by decide) ?_
  obtain ⟨σ71, g71, hf⟩ := zbu_use hf
  refine z_fcallVu (u := wM am cm μ ++ zHo ao co o) (w := wC ad cy) (As := [.int 1]) (rest := []) hC (zI.al hI) (zKC hI.1) (cX11_start_met st l D ad cy σ 1 _ g71) (zgV zw67_23 zw68_0 zw68_1 zw1_2 zw68_2) rfl ⟨rfl, rfl⟩ 1 hdX11_start ⟨Nat.le_of_ble_eq_true rfl, Nat.le_of_ble_eq_true rfl⟩ rfl rfl (wC_e0 ad cy σ) rfl hl rfl (Nat.le_of_ble_eq_true rfl) dL_law_804 ⟨by show cells ≤ 600002; omega, by show slots ≤ 7302198; omega⟩ (fun H locs hI => ?_)
  have hI : zLw st D ad cy am cm ao co μ o σ71 s H locs := zI.ar hI
  refine lv_aload_n hx hb dL_law_807 rfl (lv_at hl 2 rfl) ?_
  refine lv_aload_n hx hb dL_law_808 rfl (lv_at hl 4 rfl) ?_
  refine lv_iload hx hb dL_law_809 (lv_at hl 0 rfl) ?_
  refine lv_iconst (v := 1) hx hb dL_law_811 (by decide) ?_
  refine lv_iadd hx hb dL_law_812 ?_
  obtain ⟨q, hf⟩ := zck_use hf
  refine va_sld hx hb hX hbl hbA hI.2.2.2.1 (zin_in q) dL_law_813 ?_
  refine lv_if_eq (tgt := 821) hx hb dL_law_814 (by decide) (fun q => ?_) (fun q => ?_)
  · replace hf := zif_t q hf
    refine lv_iconst (v := 0) hx hb dL_law_821 (by decide) ?_
    obtain ⟨μ72, g72, hf⟩ := zbu_use hf
    refine z_fcallVu (u := zHo ao co o ++ wC ad cy σ71) (w := wM am cm) (As := [.int 0]) (rest := []) hC (zI.swap hI) (zKM hI.1) (cX12_start_met st l D am cm μ 0 _ g72) (zgV zw68_7 zw68_8 zw68_9 zw1_5 zw68_10) rfl ⟨rfl, rfl⟩ 1 hdX12_start ⟨Nat.le_of_ble_eq_true rfl, Nat.le_of_ble_eq_true rfl⟩ rfl rfl (wM_e0 am cm μ) rfl hl rfl (Nat.le_of_ble_eq_true rfl) dL_law_822 ⟨by show cells ≤ 600002; omega, by show slots ≤ 7302198; omega⟩ (fun H locs hI => ?_)
    have hI : zLw st D ad cy am cm ao co μ72 o σ71 s H locs := zI.swap hI
    refine lv_goto (tgt := 1946) hx hb dL_law_825 (by decide) ?_
    obtain ⟨v73, ev73⟩ : ∃ z : Int32, z = x4 + 8 := ⟨_, rfl⟩
    replace hf := zbv_use ev73 hf
    refine lv_iinc (v := v73) (lv' := [(4, .int v73), (3, .ref ao), (2, .ref (am 0)), (1, .ref (ad 0)), (0, .ref b)]) hx hb dL_law_1946 hl (k := 0) rfl (by rw [ev73]; rfl) (by decide) rfl (fun ls hl => ?_)
    refine lv_goto (tgt := 33) hx hb dL_law_1949 (by decide) ?_
    exact hk _ _ _ _ _ _ _ _ _ (by omega) (by omega) hI (lv_sub hl [0, 1, 2, 3, 4] rfl) hf
  replace hf := zif_f q hf
  refine lv_iconst (v := 1) hx hb dL_law_817 (by decide) ?_
  refine lv_goto (tgt := 822) hx hb dL_law_818 (by decide) ?_
  obtain ⟨μ74, g74, hf⟩ := zbu_use hf
  refine z_fcallVu (u := zHo ao co o ++ wC ad cy σ71) (w := wM am cm) (As := [.int 1]) (rest := []) hC (zI.swap hI) (zKM hI.1) (cX12_start_met st l D am cm μ 1 _ g74) (zgV zw68_7 zw68_8 zw68_9 zw1_5 zw68_10) rfl ⟨rfl, rfl⟩ 1 hdX12_start ⟨Nat.le_of_ble_eq_true rfl, Nat.le_of_ble_eq_true rfl⟩ rfl rfl (wM_e0 am cm μ) rfl hl rfl (Nat.le_of_ble_eq_true rfl) dL_law_822 ⟨by show cells ≤ 600002; omega, by show slots ≤ 7302198; omega⟩ (fun H locs hI => ?_)
  have hI : zLw st D ad cy am cm ao co μ74 o σ71 s H locs := zI.swap hI
  refine lv_goto (tgt := 1946) hx hb dL_law_825 (by decide) ?_
  obtain ⟨v75, ev75⟩ : ∃ z : Int32, z = x4 + 8 := ⟨_, rfl⟩
  replace hf := zbv_use ev75 hf
  refine lv_iinc (v := v75) (lv' := [(4, .int v75), (3, .ref ao), (2, .ref (am 0)), (1, .ref (ad 0)), (0, .ref b)]) hx hb dL_law_1946 hl (k := 0) rfl (by rw [ev75]; rfl) (by decide) rfl (fun ls hl => ?_)
  refine lv_goto (tgt := 33) hx hb dL_law_1949 (by decide) ?_
  exact hk _ _ _ _ _ _ _ _ _ (by omega) (by omega) hI (lv_sub hl [0, 1, 2, 3, 4] rfl) hf
def fLaw_828 (xs : Nat → Int32) (L : Nat) (kn : zSt → (Nat → Int64) → zSt → Int32 → Option Int32) (μ : zSt) (o : Nat → Int64) (σ : zSt) (x4 : Int32) : Option Int32 :=
  zck (zin (x4 + 1) L) (zck (zin (x4 + 2) L) (if (xs (x4 + 2).toNatClampNeg) = 0 then zbi (fL_line σ (xs (x4 + 1).toNatClampNeg) 0) (fun σ76 v77 =>
  zck (zin (x4 + 1) L) (zck (zin (x4 + 2) L) (if (xs (x4 + 2).toNatClampNeg) = 0 then zbu (fX12_line μ (xs (x4 + 1).toNatClampNeg) 0) (fun μ78 =>
  zbi (fX12_thrown μ78 ) (fun μ79 v80 =>
  if v80 = v77 then zbv (x4 + 8) (fun v81 => kn μ79 o σ76 v81) else
  some 0)) else
  zbu (fX12_line μ (xs (x4 + 1).toNatClampNeg) 1) (fun μ82 =>
  zbi (fX12_thrown μ82 ) (fun μ83 v84 =>
  if v84 = v77 then zbv (x4 + 8) (fun v85 => kn μ83 o σ76 v85) else
  some 0))))) else
  zbi (fL_line σ (xs (x4 + 1).toNatClampNeg) 1) (fun σ86 v87 =>
  zck (zin (x4 + 1) L) (zck (zin (x4 + 2) L) (if (xs (x4 + 2).toNatClampNeg) = 0 then zbu (fX12_line μ (xs (x4 + 1).toNatClampNeg) 0) (fun μ88 =>
  zbi (fX12_thrown μ88 ) (fun μ89 v90 =>
  if v90 = v87 then zbv (x4 + 8) (fun v91 => kn μ89 o σ86 v91) else
  some 0)) else
  zbu (fX12_line μ (xs (x4 + 1).toNatClampNeg) 1) (fun μ92 =>
  zbi (fX12_thrown μ92 ) (fun μ93 v94 =>
  if v94 = v87 then zbv (x4 + 8) (fun v95 => kn μ93 o σ86 v95) else
  some 0)))))))
set_option maxRecDepth 20000 in
set_option maxHeartbeats 4000000 in
theorem bLaw_828 {p : Program} {l : Launch} {e : Env} {s : State} {m : MethodId} {below : List Frame} {meth : Method} {c : Code} {st : Nat → Nat} {D : va_G} {b L : Nat} {xs : Nat → Int32} {ad am : Nat → Nat} {cy cm : Nat → ClassId} {ao : Nat} {co : ClassId} (hC : zC p m c cL_law 8 s #[Value.ref b] wzL_law RL meth ret) (hst : l.stackTraces = false) (hX : va_X b L xs s s.heap) (hbl : b < s.heap.size) (hbA : ¬ (fun q : Nat => s.heap.size ≤ q) b) {n : Nat} {kn : zSt → (Nat → Int64) → zSt → Int32 → Option Int32} (hk : ∀ (H : Heap) (locs : List Loc) (μ : zSt) (o : Nat → Int64) (σ : zSt) (ls : Array Slot) (x4 : Int32) (cells slots : Nat), cells + n ≤ 600002 → slots + 6 * n ≤ 7302198 → zLw st D ad cy am cm ao co μ o σ s H locs → lv_has ls 8 [(4, .int x4), (3, .ref ao), (2, .ref (am 0)), (1, .ref (ad 0)), (0, .ref b)] → kn μ o σ x4 = some 1 → W p l e room_1 s m #[Value.ref b] below meth c H locs cells slots (lw_Z below #[Value.ref b] s) (F0 m 33 ls [])) {H : Heap} {locs : List Loc} {μ : zSt} {o : Nat → Int64} {σ : zSt} {ls : Array Slot} {x4 : Int32} {cells slots : Nat} (hc : cells + (n + 1) ≤ 600002) (hs : slots + 6 * (n + 1) ≤ 7302198) (hI : zLw st D ad cy am cm ao co μ o σ s H locs) (hl : lv_has ls 8 [(4, .int x4), (3, .ref ao), (2, .ref (am 0)), (1, .ref (ad 0)), (0, .ref b)]) (hf : fLaw_828 xs L kn μ o σ x4 = some 1) : W p l e room_1 s m #[Value.ref b] below meth c H locs cells slots (lw_Z below #[Value.ref b] s) (F0 m 828 ls []) := by
  have hx := hC.1
  have hb := hC.2.1
  unfold fLaw_828 at hf
  refine lv_aload_n hx hb dL_law_828 rfl (lv_at hl 3 rfl) ?_
  refine lv_aload_n hx hb dL_law_829 rfl (lv_at hl 4 rfl) ?_
  refine lv_iload hx hb dL_law_830 (lv_at hl 0 rfl) ?_
  refine lv_iconst (v := 1) hx hb dL_law_832 (by decide) ?_
  refine lv_iadd hx hb dL_law_833 ?_
  obtain ⟨q, hf⟩ := zck_use hf
  refine va_sld hx hb hX hbl hbA hI.2.2.2.1 (zin_in q) dL_law_834 ?_
  refine lv_aload_n hx hb dL_law_835 rfl (lv_at hl 4 rfl) ?_
  refine lv_iload hx hb dL_law_836 (lv_at hl 0 rfl) ?_
  refine lv_iconst (v := 2) hx hb dL_law_838 (by decide) ?_
  refine lv_iadd hx hb dL_law_839 ?_
  obtain ⟨q, hf⟩ := zck_use hf
  refine va_sld hx hb hX hbl hbA hI.2.2.2.1 (zin_in q) dL_law_840 ?_
  refine lv_if_eq (tgt := 848) hx hb dL_law_841 (by decide) (fun q => ?_) (fun q => ?_)
  · replace hf := zif_t q hf
    refine lv_iconst (v := 0) hx hb dL_law_848 (by decide) ?_
    obtain ⟨σ76, v77, g76, hf⟩ := zbi_use hf
    refine z_fcallH (u := wM am cm μ ++ zHo ao co o) (w := wC ad cy) (x := σ) (As := [.ref (ad 0), .int (xs (x4 + 1).toNatClampNeg), .int 0]) (rest := []) hC (zI.al hI) (zKC hI.1) (cL_line_met st l hst D ad cy σ (xs (x4 + 1).toNatClampNeg) 0 _ g76) (zgS zw68_11 zw68_12 zw1_10 zw68_13) rfl ⟨rfl, rfl⟩ 3 hdL_line ⟨Nat.le_of_ble_eq_true rfl, Nat.le_of_ble_eq_true rfl⟩ rfl hl rfl (Nat.le_of_ble_eq_true rfl) dL_law_849 ⟨by show cells + 1 ≤ 600002; omega, by show slots + 6 ≤ 7302198; omega⟩ (fun H locs hI => ?_)
    have hI : zLw st D ad cy am cm ao co μ o σ76 s H locs := zI.ar hI
    refine lv_istore (lv' := [(5, .int v77), (4, .int x4), (3, .ref ao), (2, .ref (am 0)), (1, .ref (ad 0)), (0, .ref b)]) hx hb dL_law_852 hl (by decide) rfl (fun ls hl => ?_)
    refine lv_aload_n hx hb dL_law_854 rfl (lv_at hl 3 rfl) ?_
    refine lv_aload_n hx hb dL_law_855 rfl (lv_at hl 5 rfl) ?_
    refine lv_iload hx hb dL_law_856 (lv_at hl 1 rfl) ?_
    refine lv_iconst (v := 1) hx hb dL_law_858 (by decide) ?_
    refine lv_iadd hx hb dL_law_859 ?_
    obtain ⟨q, hf⟩ := zck_use hf
    refine va_sld hx hb hX hbl hbA hI.2.2.2.1 (zin_in q) dL_law_860 ?_
    refine lv_aload_n hx hb dL_law_861 rfl (lv_at hl 5 rfl) ?_
    refine lv_iload hx hb dL_law_862 (lv_at hl 1 rfl) ?_
    refine lv_iconst (v := 2) hx hb dL_law_864 (by decide) ?_
    refine lv_iadd hx hb dL_law_865 ?_
    obtain ⟨q, hf⟩ := zck_use hf
    refine va_sld hx hb hX hbl hbA hI.2.2.2.1 (zin_in q) dL_law_866 ?_
    refine lv_if_eq (tgt := 874) hx hb dL_law_867 (by decide) (fun q => ?_) (fun q => ?_)
    · replace hf := zif_t q hf
      refine lv_iconst (v := 0) hx hb dL_law_874 (by decide) ?_
      obtain ⟨μ78, g78, hf⟩ := zbu_use hf
      refine z_fcallVu (u := zHo ao co o ++ wC ad cy σ76) (w := wM am cm) (As := [.int (xs (x4 + 1).toNatClampNeg), .int 0]) (rest := []) hC (zI.swap hI) (zKM hI.1) (cX12_line_met st l D am cm μ (xs (x4 + 1).toNatClampNeg) 0 _ g78) (zgV zw68_22 zw68_23 zw69_0 zw1_5 zw69_1) rfl ⟨rfl, rfl⟩ 2 hdX12_line ⟨Nat.le_of_ble_eq_true rfl, Nat.le_of_ble_eq_true rfl⟩ rfl rfl (wM_e0 am cm μ) rfl hl rfl (Nat.le_of_ble_eq_true rfl) dL_law_875 ⟨by show cells + 1 ≤ 600002; omega, by show slots + 6 ≤ 7302198; omega⟩ (fun H locs hI => ?_)
      have hI : zLw st D ad cy am cm ao co μ78 o σ76 s H locs := zI.swap hI
      refine lv_aload_n hx hb dL_law_878 rfl (lv_at hl 3 rfl) ?_
      obtain ⟨μ79, v80, g79, hf⟩ := zbi_use hf
      refine z_fcallVi (u := zHo ao co o ++ wC ad cy σ76) (w := wM am cm) (As := []) (rest := []) hC (zI.swap hI) (zKM hI.1) (cX12_thrown_met st l D am cm μ78  _ g79) (zgV zw12_2 zw12_3 zw12_4 zw1_5 zw12_5) rfl ⟨rfl, rfl⟩ 0 hdX12_thrown ⟨Nat.le_of_ble_eq_true rfl, Nat.le_of_ble_eq_true rfl⟩ rfl rfl (wM_e0 am cm μ78) rfl hl rfl (Nat.le_of_ble_eq_true rfl) dL_law_879 ⟨by show cells + 1 ≤ 600002; omega, by show slots + 6 ≤ 7302198; omega⟩ (fun H locs hI => ?_)
      have hI : zLw st D ad cy am cm ao co μ79 o σ76 s H locs := zI.swap hI
      refine lv_iload hx hb dL_law_882 (lv_at hl 0 rfl) ?_
      refine lv_icmp_eq (tgt := 889) hx hb dL_law_884 (by decide) (fun q => ?_) (fun q => ?_)
      · replace hf := zif_t q hf
        refine lv_goto (tgt := 1946) hx hb dL_law_889 (by decide) ?_
        obtain ⟨v81, ev81⟩ : ∃ z : Int32, z = x4 + 8 := ⟨_, rfl⟩
        replace hf := zbv_use ev81 hf
        refine lv_iinc (v := v81) (lv' := [(4, .int v81), (5, .int v77), (3, .ref ao), (2, .ref (am 0)), (1, .ref (ad 0)), (0, .ref b)]) hx hb dL_law_1946 hl (k := 1) rfl (by rw [ev81]; rfl) (by decide) rfl (fun ls hl => ?_)
        refine lv_goto (tgt := 33) hx hb dL_law_1949 (by decide) ?_
        exact hk _ _ _ _ _ _ _ _ _ (by omega) (by omega) hI (lv_sub hl [0, 2, 3, 4, 5] rfl) hf
      replace hf := zif_f q hf
      refine lv_iconst (v := 0) hx hb dL_law_887 (by decide) ?_
      exact absurd (Option.some.inj hf) (by decide)
    replace hf := zif_f q hf
    refine lv_iconst (v := 1) hx hb dL_law_870 (by decide) ?_
    refine lv_goto (tgt := 875) hx hb dL_law_871 (by decide) ?_
    obtain ⟨μ82, g82, hf⟩ := zbu_use hf
    refine z_fcallVu (u := zHo ao co o ++ wC ad cy σ76) (w := wM am cm) (As := [.int (xs (x4 + 1).toNatClampNeg), .int 1]) (rest := []) hC (zI.swap hI) (zKM hI.1) (cX12_line_met st l D am cm μ (xs (x4 + 1).toNatClampNeg) 1 _ g82) (zgV zw68_22 zw68_23 zw69_0 zw1_5 zw69_1) rfl ⟨rfl, rfl⟩ 2 hdX12_line ⟨Nat.le_of_ble_eq_true rfl, Nat.le_of_ble_eq_true rfl⟩ rfl rfl (wM_e0 am cm μ) rfl hl rfl (Nat.le_of_ble_eq_true rfl) dL_law_875 ⟨by show cells + 1 ≤ 600002; omega, by show slots + 6 ≤ 7302198; omega⟩ (fun H locs hI => ?_)
    have hI : zLw st D ad cy am cm ao co μ82 o σ76 s H locs := zI.swap hI
    refine lv_aload_n hx hb dL_law_878 rfl (lv_at hl 3 rfl) ?_
    obtain ⟨μ83, v84, g83, hf⟩ := zbi_use hf
    refine z_fcallVi (u := zHo ao co o ++ wC ad cy σ76) (w := wM am cm) (As := []) (rest := []) hC (zI.swap hI) (zKM hI.1) (cX12_thrown_met st l D am cm μ82  _ g83) (zgV zw12_2 zw12_3 zw12_4 zw1_5 zw12_5) rfl ⟨rfl, rfl⟩ 0 hdX12_thrown ⟨Nat.le_of_ble_eq_true rfl, Nat.le_of_ble_eq_true rfl⟩ rfl rfl (wM_e0 am cm μ82) rfl hl rfl (Nat.le_of_ble_eq_true rfl) dL_law_879 ⟨by show cells + 1 ≤ 600002; omega, by show slots + 6 ≤ 7302198; omega⟩ (fun H locs hI => ?_)
    have hI : zLw st D ad cy am cm ao co μ83 o σ76 s H locs := zI.swap hI
    refine lv_iload hx hb dL_law_882 (lv_at hl 0 rfl) ?_
    refine lv_icmp_eq (tgt := 889) hx hb dL_law_884 (by decide) (fun q => ?_) (fun q => ?_)
    · replace hf := zif_t q hf
      refine lv_goto (tgt := 1946) hx hb dL_law_889 (by decide) ?_
      obtain ⟨v85, ev85⟩ : ∃ z : Int32, z = x4 + 8 := ⟨_, rfl⟩
      replace hf := zbv_use ev85 hf
      refine lv_iinc (v := v85) (lv' := [(4, .int v85), (5, .int v77), (3, .ref ao), (2, .ref (am 0)), (1, .ref (ad 0)), (0, .ref b)]) hx hb dL_law_1946 hl (k := 1) rfl (by rw [ev85]; rfl) (by decide) rfl (fun ls hl => ?_)
      refine lv_goto (tgt := 33) hx hb dL_law_1949 (by decide) ?_
      exact hk _ _ _ _ _ _ _ _ _ (by omega) (by omega) hI (lv_sub hl [0, 2, 3, 4, 5] rfl) hf
    replace hf := zif_f q hf
    refine lv_iconst (v := 0) hx hb dL_law_887 (by decide) ?_
    exact absurd (Option.some.inj hf) (by decide)
  replace hf := zif_f q hf
  refine lv_iconst (v := 1) hx hb dL_law_844 (by decide) ?_
  refine lv_goto (tgt := 849) hx hb dL_law_845 (by decide) ?_
  obtain ⟨σ86, v87, g86, hf⟩ := zbi_use hf
  refine z_fcallH (u := wM am cm μ ++ zHo ao co o) (w := wC ad cy) (x := σ) (As := [.ref (ad 0), .int (xs (x4 + 1).toNatClampNeg), .int 1]) (rest := []) hC (zI.al hI) (zKC hI.1) (cL_line_met st l hst D ad cy σ (xs (x4 + 1).toNatClampNeg) 1 _ g86) (zgS zw68_11 zw68_12 zw1_10 zw68_13) rfl ⟨rfl, rfl⟩ 3 hdL_line ⟨Nat.le_of_ble_eq_true rfl, Nat.le_of_ble_eq_true rfl⟩ rfl hl rfl (Nat.le_of_ble_eq_true rfl) dL_law_849 ⟨by show cells + 1 ≤ 600002; omega, by show slots + 6 ≤ 7302198; omega⟩ (fun H locs hI => ?_)
  have hI : zLw st D ad cy am cm ao co μ o σ86 s H locs := zI.ar hI
  refine lv_istore (lv' := [(5, .int v87), (4, .int x4), (3, .ref ao), (2, .ref (am 0)), (1, .ref (ad 0)), (0, .ref b)]) hx hb dL_law_852 hl (by decide) rfl (fun ls hl => ?_)
  refine lv_aload_n hx hb dL_law_854 rfl (lv_at hl 3 rfl) ?_
  refine lv_aload_n hx hb dL_law_855 rfl (lv_at hl 5 rfl) ?_
  refine lv_iload hx hb dL_law_856 (lv_at hl 1 rfl) ?_
  refine lv_iconst (v := 1) hx hb dL_law_858 (by decide) ?_
  refine lv_iadd hx hb dL_law_859 ?_
  obtain ⟨q, hf⟩ := zck_use hf
  refine va_sld hx hb hX hbl hbA hI.2.2.2.1 (zin_in q) dL_law_860 ?_
  refine lv_aload_n hx hb dL_law_861 rfl (lv_at hl 5 rfl) ?_
  refine lv_iload hx hb dL_law_862 (lv_at hl 1 rfl) ?_
  refine lv_iconst (v := 2) hx hb dL_law_864 (by decide) ?_
  refine lv_iadd hx hb dL_law_865 ?_
  obtain ⟨q, hf⟩ := zck_use hf
  refine va_sld hx hb hX hbl hbA hI.2.2.2.1 (zin_in q) dL_law_866 ?_
  refine lv_if_eq (tgt := 874) hx hb dL_law_867 (by decide) (fun q => ?_) (fun q => ?_)
  · replace hf := zif_t q hf
    refine lv_iconst (v := 0) hx hb dL_law_874 (by decide) ?_
    obtain ⟨μ88, g88, hf⟩ := zbu_use hf
    refine z_fcallVu (u := zHo ao co o ++ wC ad cy σ86) (w := wM am cm) (As := [.int (xs (x4 + 1).toNatClampNeg), .int 0]) (rest := []) hC (zI.swap hI) (zKM hI.1) (cX12_line_met st l D am cm μ (xs (x4 + 1).toNatClampNeg) 0 _ g88) (zgV zw68_22 zw68_23 zw69_0 zw1_5 zw69_1) rfl ⟨rfl, rfl⟩ 2 hdX12_line ⟨Nat.le_of_ble_eq_true rfl, Nat.le_of_ble_eq_true rfl⟩ rfl rfl (wM_e0 am cm μ) rfl hl rfl (Nat.le_of_ble_eq_true rfl) dL_law_875 ⟨by show cells + 1 ≤ 600002; omega, by show slots + 6 ≤ 7302198; omega⟩ (fun H locs hI => ?_)
    have hI : zLw st D ad cy am cm ao co μ88 o σ86 s H locs := zI.swap hI
    refine lv_aload_n hx hb dL_law_878 rfl (lv_at hl 3 rfl) ?_
    obtain ⟨μ89, v90, g89, hf⟩ := zbi_use hf
    refine z_fcallVi (u := zHo ao co o ++ wC ad cy σ86) (w := wM am cm) (As := []) (rest := []) hC (zI.swap hI) (zKM hI.1) (cX12_thrown_met st l D am cm μ88  _ g89) (zgV zw12_2 zw12_3 zw12_4 zw1_5 zw12_5) rfl ⟨rfl, rfl⟩ 0 hdX12_thrown ⟨Nat.le_of_ble_eq_true rfl, Nat.le_of_ble_eq_true rfl⟩ rfl rfl (wM_e0 am cm μ88) rfl hl rfl (Nat.le_of_ble_eq_true rfl) dL_law_879 ⟨by show cells + 1 ≤ 600002; omega, by show slots + 6 ≤ 7302198; omega⟩ (fun H locs hI => ?_)
    have hI : zLw st D ad cy am cm ao co μ89 o σ86 s H locs := zI.swap hI
    refine lv_iload hx hb dL_law_882 (lv_at hl 0 rfl) ?_
    refine lv_icmp_eq (tgt := 889) hx hb dL_law_884 (by decide) (fun q => ?_) (fun q => ?_)
    · replace hf := zif_t q hf
      refine lv_goto (tgt := 1946) hx hb dL_law_889 (by decide) ?_
      obtain ⟨v91, ev91⟩ : ∃ z : Int32, z = x4 + 8 := ⟨_, rfl⟩
      replace hf := zbv_use ev91 hf
      refine lv_iinc (v := v91) (lv' := [(4, .int v91), (5, .int v87), (3, .ref ao), (2, .ref (am 0)), (1, .ref (ad 0)), (0, .ref b)]) hx hb dL_law_1946 hl (k := 1) rfl (by rw [ev91]; rfl) (by decide) rfl (fun ls hl => ?_)
      refine lv_goto (tgt := 33) hx hb dL_law_1949 (by decide) ?_
      exact hk _ _ _ _ _ _ _ _ _ (by omega) (by omega) hI (lv_sub hl [0, 2, 3, 4, 5] rfl) hf
    replace hf := zif_f q hf
    refine lv_iconst (v := 0) hx hb dL_law_887 (by decide) ?_
    exact absurd (Option.some.inj hf) (by decide)
  replace hf := zif_f q hf
  refine lv_iconst (v := 1) hx hb dL_law_870 (by decide) ?_
  refine lv_goto (tgt := 875) hx hb dL_law_871 (by decide) ?_
  obtain ⟨μ92, g92, hf⟩ := zbu_use hf
  refine z_fcallVu (u := zHo ao co o ++ wC ad cy σ86) (w := wM am cm) (As := [.int (xs (x4 + 1).toNatClampNeg), .int 1]) (rest := []) hC (zI.swap hI) (zKM hI.1) (cX12_line_met st l D am cm μ (xs (x4 + 1).toNatClampNeg) 1 _ g92) (zgV zw68_22 zw68_23 zw69_0 zw1_5 zw69_1) rfl ⟨rfl, rfl⟩ 2 hdX12_line ⟨Nat.le_of_ble_eq_true rfl, Nat.le_of_ble_eq_true rfl⟩ rfl rfl (wM_e0 am cm μ) rfl hl rfl (Nat.le_of_ble_eq_true rfl) dL_law_875 ⟨by show cells + 1 ≤ 600002; omega, by show slots + 6 ≤ 7302198; omega⟩ (fun H locs hI => ?_)
  have hI : zLw st D ad cy am cm ao co μ92 o σ86 s H locs := zI.swap hI
  refine lv_aload_n hx hb dL_law_878 rfl (lv_at hl 3 rfl) ?_
  obtain ⟨μ93, v94, g93, hf⟩ := zbi_use hf
  refine z_fcallVi (u := zHo ao co o ++ wC ad cy σ86) (w := wM am cm) (As := []) (rest := []) hC (zI.swap hI) (zKM hI.1) (cX12_thrown_met st l D am cm μ92  _ g93) (zgV zw12_2 zw12_3 zw12_4 zw1_5 zw12_5) rfl ⟨rfl, rfl⟩ 0 hdX12_thrown ⟨Nat.le_of_ble_eq_true rfl, Nat.le_of_ble_eq_true rfl⟩ rfl rfl (wM_e0 am cm μ92) rfl hl rfl (Nat.le_of_ble_eq_true rfl) dL_law_879 ⟨by show cells + 1 ≤ 600002; omega, by show slots + 6 ≤ 7302198; omega⟩ (fun H locs hI => ?_)
  have hI : zLw st D ad cy am cm ao co μ93 o σ86 s H locs := zI.swap hI
  refine lv_iload hx hb dL_law_882 (lv_at hl 0 rfl) ?_
  refine lv_icmp_eq (tgt := 889) hx hb dL_law_884 (by decide) (fun q => ?_) (fun q => ?_)
  · replace hf := zif_t q hf
    refine lv_goto (tgt := 1946) hx hb dL_law_889 (by decide) ?_
    obtain ⟨v95, ev95⟩ : ∃ z : Int32, z = x4 + 8 := ⟨_, rfl⟩
    replace hf := zbv_use ev95 hf
    refine lv_iinc (v := v95) (lv' := [(4, .int v95), (5, .int v87), (3, .ref ao), (2, .ref (am 0)), (1, .ref (ad 0)), (0, .ref b)]) hx hb dL_law_1946 hl (k := 1) rfl (by rw [ev95]; rfl) (by decide) rfl (fun ls hl => ?_)
    refine lv_goto (tgt := 33) hx hb dL_law_1949 (by decide) ?_
    exact hk _ _ _ _ _ _ _ _ _ (by omega) (by omega) hI (lv_sub hl [0, 2, 3, 4, 5] rfl) hf
  replace hf := zif_f q hf
  refine lv_iconst (v := 0) hx hb dL_law_887 (by decide) ?_
  exact absurd (Option.some.inj hf) (by decide)
def fLaw_892 (xs : Nat → Int32) (L : Nat) (kn : zSt → (Nat → Int64) → zSt → Int32 → Option Int32) (μ : zSt) (o : Nat → Int64) (σ : zSt) (x4 : Int32) : Option Int32 :=
  zck (zin (x4 + 1) L) (zck (zin (x4 + 2) L) (zck (zin (x4 + 3) L) (zbh (fL_plan o σ (xs (x4 + 1).toNatClampNeg) (xs (x4 + 2).toNatClampNeg) (xs (x4 + 3).toNatClampNeg)) (fun o96 σ96 v97 =>
  zck (zin (x4 + 1) L) (zck (zin (x4 + 2) L) (zck (zin (x4 + 3) L) (zbi (fX12_plan μ (xs (x4 + 1).toNatClampNeg) (xs (x4 + 2).toNatClampNeg) (xs (x4 + 3).toNatClampNeg)) (fun μ98 v99 =>
  zbi (fX12_thrown μ98 ) (fun μ100 v101 =>
  if v101 = v97 then if v97 = 0 then if (lg_cmp (o96 0) (v99.toInt64)) = 0 then zbv (x4 + 8) (fun v103 => kn μ100 o96 σ96 v103) else
  some 0 else
  zbv (x4 + 8) (fun v102 => kn μ100 o96 σ96 v102) else
  some 0)))))))))
set_option maxRecDepth 20000 in
set_option maxHeartbeats 4000000 in
theorem bLaw_892 {p : Program} {l : Launch} {e : Env} {s : State} {m : MethodId} {below : List Frame} {meth : Method} {c : Code} {st : Nat → Nat} {D : va_G} {b L : Nat} {xs : Nat → Int32} {ad am : Nat → Nat} {cy cm : Nat → ClassId} {ao : Nat} {co : ClassId} (hC : zC p m c cL_law 8 s #[Value.ref b] wzL_law RL meth ret) (hst : l.stackTraces = false) (hX : va_X b L xs s s.heap) (hbl : b < s.heap.size) (hbA : ¬ (fun q : Nat => s.heap.size ≤ q) b) {n : Nat} {kn : zSt → (Nat → Int64) → zSt → Int32 → Option Int32} (hk : ∀ (H : Heap) (locs : List Loc) (μ : zSt) (o : Nat → Int64) (σ : zSt) (ls : Array Slot) (x4 : Int32) (cells slots : Nat), cells + n ≤ 600002 → slots + 6 * n ≤ 7302198 → zLw st D ad cy am cm ao co μ o σ s H locs → lv_has ls 8 [(4, .int x4), (3, .ref ao), (2, .ref (am 0)), (1, .ref (ad 0)), (0, .ref b)] → kn μ o σ x4 = some 1 → W p l e room_1 s m #[Value.ref b] below meth c H locs cells slots (lw_Z below #[Value.ref b] s) (F0 m 33 ls [])) {H : Heap} {locs : List Loc} {μ : zSt} {o : Nat → Int64} {σ : zSt} {ls : Array Slot} {x4 : Int32} {cells slots : Nat} (hc : cells + (n + 1) ≤ 600002) (hs : slots + 6 * (n + 1) ≤ 7302198) (hI : zLw st D ad cy am cm ao co μ o σ s H locs) (hl : lv_has ls 8 [(4, .int x4), (3, .ref ao), (2, .ref (am 0)), (1, .ref (ad 0)), (0, .ref b)]) (hf : fLaw_892 xs L kn μ o σ x4 = some 1) : W p l e room_1 s m #[Value.ref b] below meth c H locs cells slots (lw_Z below #[Value.ref b] s) (F0 m 892 ls []) := by
  have hx := hC.1
  have hb := hC.2.1
  unfold fLaw_892 at hf
  refine lv_aload_n hx hb dL_law_892 rfl (lv_at hl 3 rfl) ?_
  refine lv_aload_n hx hb dL_law_893 rfl (lv_at hl 4 rfl) ?_
  refine lv_iload hx hb dL_law_894 (lv_at hl 0 rfl) ?_
  refine lv_iconst (v := 1) hx hb dL_law_896 (by decide) ?_
  refine lv_iadd hx hb dL_law_897 ?_
  obtain ⟨q, hf⟩ := zck_use hf
  refine va_sld hx hb hX hbl hbA hI.2.2.2.1 (zin_in q) dL_law_898 ?_
  refine lv_aload_n hx hb dL_law_899 rfl (lv_at hl 4 rfl) ?_
  refine lv_iload hx hb dL_law_900 (lv_at hl 0 rfl) ?_
  refine lv_iconst (v := 2) hx hb dL_law_902 (by decide) ?_
  refine lv_iadd hx hb dL_law_903 ?_
  obtain ⟨q, hf⟩ := zck_use hf
  refine va_sld hx hb hX hbl hbA hI.2.2.2.1 (zin_in q) dL_law_904 ?_
  refine lv_aload_n hx hb dL_law_905 rfl (lv_at hl 4 rfl) ?_
  refine lv_iload hx hb dL_law_906 (lv_at hl 0 rfl) ?_
  refine lv_iconst (v := 3) hx hb dL_law_908 (by decide) ?_
  refine lv_iadd hx hb dL_law_909 ?_
  obtain ⟨q, hf⟩ := zck_use hf
  refine va_sld hx hb hX hbl hbA hI.2.2.2.1 (zin_in q) dL_law_910 ?_
  refine lv_aload_n hx hb dL_law_911 rfl (lv_at hl 1 rfl) ?_
  obtain ⟨o96, σ96, v97, g96, hf⟩ := zbh_use hf
  refine z_fcallH (u := wM am cm μ) (w := fun x : zHs => zHo ao co x.1 ++ wC ad cy x.2) (x := (o, σ)) (As := [.ref (ad 0), .int (xs (x4 + 1).toNatClampNeg), .int (xs (x4 + 2).toNatClampNeg), .int (xs (x4 + 3).toNatClampNeg), .ref ao]) (rest := []) hC hI (zKH hI.1) (cL_plan_met st l hst D ad cy ao co o σ (xs (x4 + 1).toNatClampNeg) (xs (x4 + 2).toNatClampNeg) (xs (x4 + 3).toNatClampNeg) _ g96) (zgS zw69_2 zw69_3 zw1_10 zw69_4) rfl ⟨rfl, rfl⟩ 5 hdL_plan ⟨Nat.le_of_ble_eq_true rfl, Nat.le_of_ble_eq_true rfl⟩ rfl hl rfl (Nat.le_of_ble_eq_true rfl) dL_law_912 ⟨by show cells + 1 ≤ 600002; omega, by show slots + 6 ≤ 7302198; omega⟩ (fun H locs hI => ?_)
  have hI : zLw st D ad cy am cm ao co μ o96 σ96 s H locs := hI
  refine lv_istore (lv' := [(5, .int v97), (4, .int x4), (3, .ref ao), (2, .ref (am 0)), (1, .ref (ad 0)), (0, .ref b)]) hx hb dL_law_915 hl (by decide) rfl (fun ls hl => ?_)
  refine lv_aload_n hx hb dL_law_917 rfl (lv_at hl 3 rfl) ?_
  refine lv_aload_n hx hb dL_law_918 rfl (lv_at hl 5 rfl) ?_
  refine lv_iload hx hb dL_law_919 (lv_at hl 1 rfl) ?_
  refine lv_iconst (v := 1) hx hb dL_law_921 (by decide) ?_
  refine lv_iadd hx hb dL_law_922 ?_
  obtain ⟨q, hf⟩ := zck_use hf
  refine va_sld hx hb hX hbl hbA hI.2.2.2.1 (zin_in q) dL_law_923 ?_
  refine lv_aload_n hx hb dL_law_924 rfl (lv_at hl 5 rfl) ?_
  refine lv_iload hx hb dL_law_925 (lv_at hl 1 rfl) ?_
  refine lv_iconst (v := 2) hx hb dL_law_927 (by decide) ?_
  refine lv_iadd hx hb dL_law_928 ?_
  obtain ⟨q, hf⟩ := zck_use hf
  refine va_sld hx hb hX hbl hbA hI.2.2.2.1 (zin_in q) dL_law_929 ?_
  refine lv_aload_n hx hb dL_law_930 rfl (lv_at hl 5 rfl) ?_
  refine lv_iload hx hb dL_law_931 (lv_at hl 1 rfl) ?_
  refine lv_iconst (v := 3) hx hb dL_law_933 (by decide) ?_
  refine lv_iadd hx hb dL_law_934 ?_
  obtain ⟨q, hf⟩ := zck_use hf
  refine va_sld hx hb hX hbl hbA hI.2.2.2.1 (zin_in q) dL_law_935 ?_
  obtain ⟨μ98, v99, g98, hf⟩ := zbi_use hf
  refine z_fcallVi (u := zHo ao co o96 ++ wC ad cy σ96) (w := wM am cm) (As := [.int (xs (x4 + 1).toNatClampNeg), .int (xs (x4 + 2).toNatClampNeg), .int (xs (x4 + 3).toNatClampNeg)]) (rest := []) hC (zI.swap hI) (zKM hI.1) (cX12_plan_met st l D am cm μ (xs (x4 + 1).toNatClampNeg) (xs (x4 + 2).toNatClampNeg) (xs (x4 + 3).toNatClampNeg) _ g98) (zgV zw69_21 zw69_22 zw69_23 zw1_5 zw70_0) rfl ⟨rfl, rfl⟩ 3 hdX12_plan ⟨Nat.le_of_ble_eq_true rfl, Nat.le_of_ble_eq_true rfl⟩ rfl rfl (wM_e0 am cm μ) rfl hl rfl (Nat.le_of_ble_eq_true rfl) dL_law_936 ⟨by show cells + 1 ≤ 600002; omega, by show slots + 6 ≤ 7302198; omega⟩ (fun H locs hI => ?_)
  have hI : zLw st D ad cy am cm ao co μ98 o96 σ96 s H locs := zI.swap hI
  refine lv_istore (lv' := [(6, .int v99), (5, .int v97), (4, .int x4), (3, .ref ao), (2, .ref (am 0)), (1, .ref (ad 0)), (0, .ref b)]) hx hb dL_law_939 hl (by decide) rfl (fun ls hl => ?_)
  refine lv_aload_n hx hb dL_law_941 rfl (lv_at hl 4 rfl) ?_
  obtain ⟨μ100, v101, g100, hf⟩ := zbi_use hf
  refine z_fcallVi (u := zHo ao co o96 ++ wC ad cy σ96) (w := wM am cm) (As := []) (rest := []) hC (zI.swap hI) (zKM hI.1) (cX12_thrown_met st l D am cm μ98  _ g100) (zgV zw12_2 zw12_3 zw12_4 zw1_5 zw12_5) rfl ⟨rfl, rfl⟩ 0 hdX12_thrown ⟨Nat.le_of_ble_eq_true rfl, Nat.le_of_ble_eq_true rfl⟩ rfl rfl (wM_e0 am cm μ98) rfl hl rfl (Nat.le_of_ble_eq_true rfl) dL_law_942 ⟨by show cells + 1 ≤ 600002; omega, by show slots + 6 ≤ 7302198; omega⟩ (fun H locs hI => ?_)
  have hI : zLw st D ad cy am cm ao co μ100 o96 σ96 s H locs := zI.swap hI
  refine lv_iload hx hb dL_law_945 (lv_at hl 1 rfl) ?_
  refine lv_icmp_eq (tgt := 952) hx hb dL_law_947 (by decide) (fun q => ?_) (fun q => ?_)
  · replace hf := zif_t q hf
    refine lv_iload hx hb dL_law_952 (lv_at hl 1 rfl) ?_
    refine lv_if_ne (tgt := 969) hx hb dL_law_954 (by decide) (fun q => ?_) (fun q => ?_)
    · replace hf := zif_f q hf
      refine lv_goto (tgt := 1946) hx hb dL_law_969 (by decide) ?_
      obtain ⟨v102, ev102⟩ : ∃ z : Int32, z = x4 + 8 := ⟨_, rfl⟩
      replace hf := zbv_use ev102 hf
      refine lv_iinc (v := v102) (lv' := [(4, .int v102), (6, .int v99), (5, .int v97), (3, .ref ao), (2, .ref (am 0)), (1, .ref (ad 0)), (0, .ref b)]) hx hb dL_law_1946 hl (k := 2) rfl (by rw [ev102]; rfl) (by decide) rfl (fun ls hl => ?_)
      refine lv_goto (tgt := 33) hx hb dL_law_1949 (by decide) ?_
      exact hk _ _ _ _ _ _ _ _ _ (by omega) (by omega) hI (lv_sub hl [0, 3, 4, 5, 6] rfl) hf
    replace hf := zif_t q hf
    refine lv_aload_n hx hb dL_law_957 rfl (lv_at hl 3 rfl) ?_
    refine lv_iconst (v := 0) hx hb dL_law_958 (by decide) ?_
    refine z_lald (i := 0) hC hI 27 63 (zLo_e am cm ao co μ100 o96 _) (zLo_t cy cm co) (by decide) dL_law_959 ?_
    refine lv_iload hx hb dL_law_960 (lv_at hl 0 rfl) ?_
    refine lv_i2l (v := v99.toInt64) hx hb dL_law_962 rfl ?_
    refine W.lcmp hx hb dL_law_963 ?_
    refine lv_if_eq (tgt := 969) hx hb dL_law_964 (by decide) (fun q => ?_) (fun q => ?_)
    · replace hf := zif_t q hf
      refine lv_goto (tgt := 1946) hx hb dL_law_969 (by decide) ?_
      obtain ⟨v103, ev103⟩ : ∃ z : Int32, z = x4 + 8 := ⟨_, rfl⟩
      replace hf := zbv_use ev103 hf
      refine lv_iinc (v := v103) (lv' := [(4, .int v103), (6, .int v99), (5, .int v97), (3, .ref ao), (2, .ref (am 0)), (1, .ref (ad 0)), (0, .ref b)]) hx hb dL_law_1946 hl (k := 2) rfl (by rw [ev103]; rfl) (by decide) rfl (fun ls hl => ?_)
      refine lv_goto (tgt := 33) hx hb dL_law_1949 (by decide) ?_
      exact hk _ _ _ _ _ _ _ _ _ (by omega) (by omega) hI (lv_sub hl [0, 3, 4, 5, 6] rfl) hf
    replace hf := zif_f q hf
    refine lv_iconst (v := 0) hx hb dL_law_967 (by decide) ?_
    exact absurd (Option.some.inj hf) (by decide)
  replace hf := zif_f q hf
  refine lv_iconst (v := 0) hx hb dL_law_950 (by decide) ?_
  exact absurd (Option.some.inj hf) (by decide)
def fLaw_972 (xs : Nat → Int32) (L : Nat) (kn : zSt → (Nat → Int64) → zSt → Int32 → Option Int32) (μ : zSt) (o : Nat → Int64) (σ : zSt) (x4 : Int32) : Option Int32 :=
  zck (zin (x4 + 1) L) (zbi (fX11_tell σ (xs (x4 + 1).toNatClampNeg)) (fun σ104 v105 =>
  zck (zin (x4 + 1) L) (zbi (fX12_tell μ (xs (x4 + 1).toNatClampNeg)) (fun μ106 v107 =>
  if v105 = v107 then zbv (x4 + 8) (fun v108 => kn μ106 o σ104 v108) else
  some 0))))
set_option maxRecDepth 20000 in
set_option maxHeartbeats 4000000 in
theorem bLaw_972 {p : Program} {l : Launch} {e : Env} {s : State} {m : MethodId} {below : List Frame} {meth : Method} {c : Code} {st : Nat → Nat} {D : va_G} {b L : Nat} {xs : Nat → Int32} {ad am : Nat → Nat} {cy cm : Nat → ClassId} {ao : Nat} {co : ClassId} (hC : zC p m c cL_law 8 s #[Value.ref b] wzL_law RL meth ret) (hst : l.stackTraces = false) (hX : va_X b L xs s s.heap) (hbl : b < s.heap.size) (hbA : ¬ (fun q : Nat => s.heap.size ≤ q) b) {n : Nat} {kn : zSt → (Nat → Int64) → zSt → Int32 → Option Int32} (hk : ∀ (H : Heap) (locs : List Loc) (μ : zSt) (o : Nat → Int64) (σ : zSt) (ls : Array Slot) (x4 : Int32) (cells slots : Nat), cells + n ≤ 600002 → slots + 6 * n ≤ 7302198 → zLw st D ad cy am cm ao co μ o σ s H locs → lv_has ls 8 [(4, .int x4), (3, .ref ao), (2, .ref (am 0)), (1, .ref (ad 0)), (0, .ref b)] → kn μ o σ x4 = some 1 → W p l e room_1 s m #[Value.ref b] below meth c H locs cells slots (lw_Z below #[Value.ref b] s) (F0 m 33 ls [])) {H : Heap} {locs : List Loc} {μ : zSt} {o : Nat → Int64} {σ : zSt} {ls : Array Slot} {x4 : Int32} {cells slots : Nat} (hc : cells + (n + 1) ≤ 600002) (hs : slots + 6 * (n + 1) ≤ 7302198) (hI : zLw st D ad cy am cm ao co μ o σ s H locs) (hl : lv_has ls 8 [(4, .int x4), (3, .ref ao), (2, .ref (am 0)), (1, .ref (ad 0)), (0, .ref b)]) (hf : fLaw_972 xs L kn μ o σ x4 = some 1) : W p l e room_1 s m #[Value.ref b] below meth c H locs cells slots (lw_Z below #[Value.ref b] s) (F0 m 972 ls []) := by
  have hx := hC.1
  have hb := hC.2.1
  unfold fLaw_972 at hf
  refine lv_aload_n hx hb dL_law_972 rfl (lv_at hl 3 rfl) ?_
  refine lv_aload_n hx hb dL_law_973 rfl (lv_at hl 4 rfl) ?_
  refine lv_iload hx hb dL_law_974 (lv_at hl 0 rfl) ?_
  refine lv_iconst (v := 1) hx hb dL_law_976 (by decide) ?_
  refine lv_iadd hx hb dL_law_977 ?_
  obtain ⟨q, hf⟩ := zck_use hf
  refine va_sld hx hb hX hbl hbA hI.2.2.2.1 (zin_in q) dL_law_978 ?_
  obtain ⟨σ104, v105, g104, hf⟩ := zbi_use hf
  refine z_fcallVi (u := wM am cm μ ++ zHo ao co o) (w := wC ad cy) (As := [.int (xs (x4 + 1).toNatClampNeg)]) (rest := []) hC (zI.al hI) (zKC hI.1) (cX11_tell_met st l D ad cy σ (xs (x4 + 1).toNatClampNeg) _ g104) (zgV zw70_1 zw70_2 zw70_3 zw1_2 zw70_4) rfl ⟨rfl, rfl⟩ 1 hdX11_tell ⟨Nat.le_of_ble_eq_true rfl, Nat.le_of_ble_eq_true rfl⟩ rfl rfl (wC_e0 ad cy σ) rfl hl rfl (Nat.le_of_ble_eq_true rfl) dL_law_979 ⟨by show cells ≤ 600002; omega, by show slots ≤ 7302198; omega⟩ (fun H locs hI => ?_)
  have hI : zLw st D ad cy am cm ao co μ o σ104 s H locs := zI.ar hI
  refine lv_aload_n hx hb dL_law_982 rfl (lv_at hl 2 rfl) ?_
  refine lv_aload_n hx hb dL_law_983 rfl (lv_at hl 4 rfl) ?_
  refine lv_iload hx hb dL_law_984 (lv_at hl 0 rfl) ?_
  refine lv_iconst (v := 1) hx hb dL_law_986 (by decide) ?_
  refine lv_iadd hx hb dL_law_987 ?_
  obtain ⟨q, hf⟩ := zck_use hf
  refine va_sld hx hb hX hbl hbA hI.2.2.2.1 (zin_in q) dL_law_988 ?_
  obtain ⟨μ106, v107, g106, hf⟩ := zbi_use hf
  refine z_fcallVi (u := zHo ao co o ++ wC ad cy σ104) (w := wM am cm) (As := [.int (xs (x4 + 1).toNatClampNeg)]) (rest := [.int v105]) hC (zI.swap hI) (zKM hI.1) (cX12_tell_met st l D am cm μ (xs (x4 + 1).toNatClampNeg) _ g106) (zgV zw74_10 zw74_11 zw74_12 zw1_5 zw74_13) rfl ⟨rfl, rfl⟩ 1 hdX12_tell ⟨Nat.le_of_ble_eq_true rfl, Nat.le_of_ble_eq_true rfl⟩ rfl rfl (wM_e0 am cm μ) rfl hl rfl (Nat.le_of_ble_eq_true rfl) dL_law_989 ⟨by show cells ≤ 600002; omega, by show slots ≤ 7302198; omega⟩ (fun H locs hI => ?_)
  have hI : zLw st D ad cy am cm ao co μ106 o σ104 s H locs := zI.swap hI
  refine lv_icmp_eq (tgt := 1946) hx hb dL_law_992 (by decide) (fun q => ?_) (fun q => ?_)
  · replace hf := zif_t q hf
    obtain ⟨v108, ev108⟩ : ∃ z : Int32, z = x4 + 8 := ⟨_, rfl⟩
    replace hf := zbv_use ev108 hf
    refine lv_iinc (v := v108) (lv' := [(4, .int v108), (3, .ref ao), (2, .ref (am 0)), (1, .ref (ad 0)), (0, .ref b)]) hx hb dL_law_1946 hl (k := 0) rfl (by rw [ev108]; rfl) (by decide) rfl (fun ls hl => ?_)
    refine lv_goto (tgt := 33) hx hb dL_law_1949 (by decide) ?_
    exact hk _ _ _ _ _ _ _ _ _ (by omega) (by omega) hI (lv_sub hl [0, 1, 2, 3, 4] rfl) hf
  replace hf := zif_f q hf
  refine lv_iconst (v := 0) hx hb dL_law_995 (by decide) ?_
  exact absurd (Option.some.inj hf) (by decide)
