def fLaw_997 (xs : Nat → Int32) (L : Nat) (kn : zSt → (Nat → Int64) → zSt → Int32 → Option Int32) (μ : zSt) (o : Nat → Int64) (σ : zSt) (x4 : Int32) : Option Int32 :=
  zck (zin (x4 + 1) L) (zbh (fL_text o σ (xs (x4 + 1).toNatClampNeg)) (fun o109 σ109 v110 =>
  zck (zin (x4 + 1) L) (zbl (fX12_text μ (xs (x4 + 1).toNatClampNeg)) (fun μ111 v112 =>
  zbi (fX12_thrown μ111 ) (fun μ113 v114 =>
  if v114 = v110 then if v110 = 0 then if (lg_cmp (o109 0) v112) = 0 then zbv (x4 + 8) (fun v116 => kn μ113 o109 σ109 v116) else
  some 0 else
  zbv (x4 + 8) (fun v115 => kn μ113 o109 σ109 v115) else
  some 0)))))
set_option maxRecDepth 20000 in
set_option maxHeartbeats 4000000 in
theorem bLaw_997 {p : Program} {l : Launch} {e : Env} {s : State} {m : MethodId} {below : List Frame} {meth : Method} {c : Code} {st : Nat → Nat} {D : va_G} {b L : Nat} {xs : Nat → Int32} {ad am : Nat → Nat} {cy cm : Nat → ClassId} {ao : Nat} {co : ClassId} (hC : zC p m c cL_law 8 s #[Value.ref b] wzL_law RL meth ret) (hst : l.stackTraces = false) (hX : va_X b L xs s s.heap) (hbl : b < s.heap.size) (hbA : ¬ (fun q : Nat => s.heap.size ≤ q) b) {n : Nat} {kn : zSt → (Nat → Int64) → zSt → Int32 → Option Int32} (hk : ∀ (H : Heap) (locs : List Loc) (μ : zSt) (o : Nat → Int64) (σ : zSt) (ls : Array Slot) (x4 : Int32) (cells slots : Nat), cells + n ≤ 600002 → slots + 6 * n ≤ 7302198 → zLw st D ad cy am cm ao co μ o σ s H locs → lv_has ls 8 [(4, .int x4), (3, .ref ao), (2, .ref (am 0)), (1, .ref (ad 0)), (0, .ref b)] → kn μ o σ x4 = some 1 → W p l e room_1 s m #[Value.ref b] below meth c H locs cells slots (lw_Z below #[Value.ref b] s) (F0 m 33 ls [])) {H : Heap} {locs : List Loc} {μ : zSt} {o : Nat → Int64} {σ : zSt} {ls : Array Slot} {x4 : Int32} {cells slots : Nat} (hc : cells + (n + 1) ≤ 600002) (hs : slots + 6 * (n + 1) ≤ 7302198) (hI : zLw st D ad cy am cm ao co μ o σ s H locs) (hl : lv_has ls 8 [(4, .int x4), (3, .ref ao), (2, .ref (am 0)), (1, .ref (ad 0)), (0, .ref b)]) (hf : fLaw_997 xs L kn μ o σ x4 = some 1) : W p l e room_1 s m #[Value.ref b] below meth c H locs cells slots (lw_Z below #[Value.ref b] s) (F0 m 997 ls []) := by
  have hx := hC.1
  have hb := hC.2.1
  unfold fLaw_997 at hf
  refine lv_aload_n hx hb dL_law_997 rfl (lv_at hl 3 rfl) ?_
  refine lv_aload_n hx hb dL_law_998 rfl (lv_at hl 4 rfl) ?_
  refine lv_iload hx hb dL_law_999 (lv_at hl 0 rfl) ?_
  refine lv_iconst (v := 1) hx hb dL_law_1001 (by decide) ?_
  refine lv_iadd hx hb dL_law_1002 ?_
  obtain ⟨q, hf⟩ := zck_use hf
  refine va_sld hx hb hX hbl hbA hI.2.2.2.1 (zin_in q) dL_law_1003 ?_
  refine lv_aload_n hx hb dL_law_1004 rfl (lv_at hl 1 rfl) ?_
  obtain ⟨o109, σ109, v110, g109, hf⟩ := zbh_use hf
  refine z_fcallH (u := wM am cm μ) (w := fun x : zHs => zHo ao co x.1 ++ wC ad cy x.2) (x := (o, σ)) (As := [.ref (ad 0), .int (xs (x4 + 1).toNatClampNeg), .ref ao]) (rest := []) hC hI (zKH hI.1) (cL_text_met st l hst D ad cy ao co o σ (xs (x4 + 1).toNatClampNeg) _ g109) (zgS zw78_8 zw78_9 zw1_10 zw78_10) rfl ⟨rfl, rfl⟩ 3 hdL_text ⟨Nat.le_of_ble_eq_true rfl, Nat.le_of_ble_eq_true rfl⟩ rfl hl rfl (Nat.le_of_ble_eq_true rfl) dL_law_1005 ⟨by show cells + 1 ≤ 600002; omega, by show slots + 6 ≤ 7302198; omega⟩ (fun H locs hI => ?_)
  have hI : zLw st D ad cy am cm ao co μ o109 σ109 s H locs := hI
  refine lv_istore (lv' := [(5, .int v110), (4, .int x4), (3, .ref ao), (2, .ref (am 0)), (1, .ref (ad 0)), (0, .ref b)]) hx hb dL_law_1008 hl (by decide) rfl (fun ls hl => ?_)
  refine lv_aload_n hx hb dL_law_1010 rfl (lv_at hl 3 rfl) ?_
  refine lv_aload_n hx hb dL_law_1011 rfl (lv_at hl 5 rfl) ?_
  refine lv_iload hx hb dL_law_1012 (lv_at hl 1 rfl) ?_
  refine lv_iconst (v := 1) hx hb dL_law_1014 (by decide) ?_
  refine lv_iadd hx hb dL_law_1015 ?_
  obtain ⟨q, hf⟩ := zck_use hf
  refine va_sld hx hb hX hbl hbA hI.2.2.2.1 (zin_in q) dL_law_1016 ?_
  obtain ⟨μ111, v112, g111, hf⟩ := zbl_use hf
  refine z_fcallVl (u := zHo ao co o109 ++ wC ad cy σ109) (w := wM am cm) (As := [.int (xs (x4 + 1).toNatClampNeg)]) (rest := []) hC (zI.swap hI) (zKM hI.1) (cX12_text_met st l D am cm μ (xs (x4 + 1).toNatClampNeg) _ g111) (zgV zw78_23 zw79_0 zw79_1 zw1_5 zw79_2) rfl ⟨rfl, rfl⟩ 1 hdX12_text ⟨Nat.le_of_ble_eq_true rfl, Nat.le_of_ble_eq_true rfl⟩ rfl rfl (wM_e0 am cm μ) rfl hl rfl (Nat.le_of_ble_eq_true rfl) dL_law_1017 ⟨by show cells + 1 ≤ 600002; omega, by show slots + 6 ≤ 7302198; omega⟩ (fun H locs hI => ?_)
  have hI : zLw st D ad cy am cm ao co μ111 o109 σ109 s H locs := zI.swap hI
  refine lv_lstore (lv' := [(6, .long v112), (5, .int v110), (4, .int x4), (3, .ref ao), (2, .ref (am 0)), (1, .ref (ad 0)), (0, .ref b)]) hx hb dL_law_1020 hl (by decide) rfl (fun ls hl => ?_)
  refine lv_aload_n hx hb dL_law_1022 rfl (lv_at hl 4 rfl) ?_
  obtain ⟨μ113, v114, g113, hf⟩ := zbi_use hf
  refine z_fcallVi (u := zHo ao co o109 ++ wC ad cy σ109) (w := wM am cm) (As := []) (rest := []) hC (zI.swap hI) (zKM hI.1) (cX12_thrown_met st l D am cm μ111  _ g113) (zgV zw12_2 zw12_3 zw12_4 zw1_5 zw12_5) rfl ⟨rfl, rfl⟩ 0 hdX12_thrown ⟨Nat.le_of_ble_eq_true rfl, Nat.le_of_ble_eq_true rfl⟩ rfl rfl (wM_e0 am cm μ111) rfl hl rfl (Nat.le_of_ble_eq_true rfl) dL_law_1023 ⟨by show cells + 1 ≤ 600002; omega, by show slots + 6 ≤ 7302198; omega⟩ (fun H locs hI => ?_)
  have hI : zLw st D ad cy am cm ao co μ113 o109 σ109 s H locs := zI.swap hI
  refine lv_iload hx hb dL_law_1026 (lv_at hl 1 rfl) ?_
  refine lv_icmp_eq (tgt := 1033) hx hb dL_law_1028 (by decide) (fun q => ?_) (fun q => ?_)
  · replace hf := zif_t q hf
    refine lv_iload hx hb dL_law_1033 (lv_at hl 1 rfl) ?_
    refine lv_if_ne (tgt := 1049) hx hb dL_law_1035 (by decide) (fun q => ?_) (fun q => ?_)
    · replace hf := zif_f q hf
      refine lv_goto (tgt := 1946) hx hb dL_law_1049 (by decide) ?_
      obtain ⟨v115, ev115⟩ : ∃ z : Int32, z = x4 + 8 := ⟨_, rfl⟩
      replace hf := zbv_use ev115 hf
      refine lv_iinc (v := v115) (lv' := [(4, .int v115), (6, .long v112), (5, .int v110), (3, .ref ao), (2, .ref (am 0)), (1, .ref (ad 0)), (0, .ref b)]) hx hb dL_law_1946 hl (k := 2) rfl (by rw [ev115]; rfl) (by decide) rfl (fun ls hl => ?_)
      refine lv_goto (tgt := 33) hx hb dL_law_1949 (by decide) ?_
      exact hk _ _ _ _ _ _ _ _ _ (by omega) (by omega) hI (lv_sub hl [0, 3, 4, 5, 6] rfl) hf
    replace hf := zif_t q hf
    refine lv_aload_n hx hb dL_law_1038 rfl (lv_at hl 3 rfl) ?_
    refine lv_iconst (v := 0) hx hb dL_law_1039 (by decide) ?_
    refine z_lald (i := 0) hC hI 27 63 (zLo_e am cm ao co μ113 o109 _) (zLo_t cy cm co) (by decide) dL_law_1040 ?_
    refine lv_lload hx hb dL_law_1041 (lv_at hl 0 rfl) ?_
    refine W.lcmp hx hb dL_law_1043 ?_
    refine lv_if_eq (tgt := 1049) hx hb dL_law_1044 (by decide) (fun q => ?_) (fun q => ?_)
    · replace hf := zif_t q hf
      refine lv_goto (tgt := 1946) hx hb dL_law_1049 (by decide) ?_
      obtain ⟨v116, ev116⟩ : ∃ z : Int32, z = x4 + 8 := ⟨_, rfl⟩
      replace hf := zbv_use ev116 hf
      refine lv_iinc (v := v116) (lv' := [(4, .int v116), (6, .long v112), (5, .int v110), (3, .ref ao), (2, .ref (am 0)), (1, .ref (ad 0)), (0, .ref b)]) hx hb dL_law_1946 hl (k := 2) rfl (by rw [ev116]; rfl) (by decide) rfl (fun ls hl => ?_)
      refine lv_goto (tgt := 33) hx hb dL_law_1949 (by decide) ?_
      exact hk _ _ _ _ _ _ _ _ _ (by omega) (by omega) hI (lv_sub hl [0, 3, 4, 5, 6] rfl) hf
    replace hf := zif_f q hf
    refine lv_iconst (v := 0) hx hb dL_law_1047 (by decide) ?_
    exact absurd (Option.some.inj hf) (by decide)
  replace hf := zif_f q hf
  refine lv_iconst (v := 0) hx hb dL_law_1031 (by decide) ?_
  exact absurd (Option.some.inj hf) (by decide)
def fLaw_1052 (xs : Nat → Int32) (L : Nat) (kn : zSt → (Nat → Int64) → zSt → Int32 → Option Int32) (μ : zSt) (o : Nat → Int64) (σ : zSt) (x4 : Int32) : Option Int32 :=
  zck (zin (x4 + 1) L) (zck (zin (x4 + 2) L) (if (xs (x4 + 2).toNatClampNeg) = 0 then zbh (fL_stop o σ (xs (x4 + 1).toNatClampNeg) 0) (fun o117 σ117 v118 =>
  zck (zin (x4 + 1) L) (zck (zin (x4 + 2) L) (if (xs (x4 + 2).toNatClampNeg) = 0 then zbi (fX12_stop μ (xs (x4 + 1).toNatClampNeg) 0) (fun μ119 v120 =>
  zbi (fX12_thrown μ119 ) (fun μ121 v122 =>
  if v122 = v118 then if v118 = 0 then if (lg_cmp (o117 0) (v120.toInt64)) = 0 then zbv (x4 + 8) (fun v124 => kn μ121 o117 σ117 v124) else
  some 0 else
  zbv (x4 + 8) (fun v123 => kn μ121 o117 σ117 v123) else
  some 0)) else
  zbi (fX12_stop μ (xs (x4 + 1).toNatClampNeg) 1) (fun μ125 v126 =>
  zbi (fX12_thrown μ125 ) (fun μ127 v128 =>
  if v128 = v118 then if v118 = 0 then if (lg_cmp (o117 0) (v126.toInt64)) = 0 then zbv (x4 + 8) (fun v130 => kn μ127 o117 σ117 v130) else
  some 0 else
  zbv (x4 + 8) (fun v129 => kn μ127 o117 σ117 v129) else
  some 0))))) else
  zbh (fL_stop o σ (xs (x4 + 1).toNatClampNeg) 1) (fun o131 σ131 v132 =>
  zck (zin (x4 + 1) L) (zck (zin (x4 + 2) L) (if (xs (x4 + 2).toNatClampNeg) = 0 then zbi (fX12_stop μ (xs (x4 + 1).toNatClampNeg) 0) (fun μ133 v134 =>
  zbi (fX12_thrown μ133 ) (fun μ135 v136 =>
  if v136 = v132 then if v132 = 0 then if (lg_cmp (o131 0) (v134.toInt64)) = 0 then zbv (x4 + 8) (fun v138 => kn μ135 o131 σ131 v138) else
  some 0 else
  zbv (x4 + 8) (fun v137 => kn μ135 o131 σ131 v137) else
  some 0)) else
  zbi (fX12_stop μ (xs (x4 + 1).toNatClampNeg) 1) (fun μ139 v140 =>
  zbi (fX12_thrown μ139 ) (fun μ141 v142 =>
  if v142 = v132 then if v132 = 0 then if (lg_cmp (o131 0) (v140.toInt64)) = 0 then zbv (x4 + 8) (fun v144 => kn μ141 o131 σ131 v144) else
  some 0 else
  zbv (x4 + 8) (fun v143 => kn μ141 o131 σ131 v143) else
  some 0)))))))
set_option maxRecDepth 20000 in
set_option maxHeartbeats 4000000 in
theorem bLaw_1052 {p : Program} {l : Launch} {e : Env} {s : State} {m : MethodId} {below : List Frame} {meth : Method} {c : Code} {st : Nat → Nat} {D : va_G} {b L : Nat} {xs : Nat → Int32} {ad am : Nat → Nat} {cy cm : Nat → ClassId} {ao : Nat} {co : ClassId} (hC : zC p m c cL_law 8 s #[Value.ref b] wzL_law RL meth ret) (hst : l.stackTraces = false) (hX : va_X b L xs s s.heap) (hbl : b < s.heap.size) (hbA : ¬ (fun q : Nat => s.heap.size ≤ q) b) {n : Nat} {kn : zSt → (Nat → Int64) → zSt → Int32 → Option Int32} (hk : ∀ (H : Heap) (locs : List Loc) (μ : zSt) (o : Nat → Int64) (σ : zSt) (ls : Array Slot) (x4 : Int32) (cells slots : Nat), cells + n ≤ 600002 → slots + 6 * n ≤ 7302198 → zLw st D ad cy am cm ao co μ o σ s H locs → lv_has ls 8 [(4, .int x4), (3, .ref ao), (2, .ref (am 0)), (1, .ref (ad 0)), (0, .ref b)] → kn μ o σ x4 = some 1 → W p l e room_1 s m #[Value.ref b] below meth c H locs cells slots (lw_Z below #[Value.ref b] s) (F0 m 33 ls [])) {H : Heap} {locs : List Loc} {μ : zSt} {o : Nat → Int64} {σ : zSt} {ls : Array Slot} {x4 : Int32} {cells slots : Nat} (hc : cells + (n + 1) ≤ 600002) (hs : slots + 6 * (n + 1) ≤ 7302198) (hI : zLw st D ad cy am cm ao co μ o σ s H locs) (hl : lv_has ls 8 [(4, .int x4), (3, .ref ao), (2, .ref (am 0)), (1, .ref (ad 0)), (0, .ref b)]) (hf : fLaw_1052 xs L kn μ o σ x4 = some 1) : W p l e room_1 s m #[Value.ref b] below meth c H locs cells slots (lw_Z below #[Value.ref b] s) (F0 m 1052 ls []) := by
  have hx := hC.1
  have hb := hC.2.1
  unfold fLaw_1052 at hf
  refine lv_aload_n hx hb dL_law_1052 rfl (lv_at hl 3 rfl) ?_
  refine lv_aload_n hx hb dL_law_1053 rfl (lv_at hl 4 rfl) ?_
  refine lv_iload hx hb dL_law_1054 (lv_at hl 0 rfl) ?_
  refine lv_iconst (v := 1) hx hb dL_law_1056 (by decide) ?_
  refine lv_iadd hx hb dL_law_1057 ?_
  obtain ⟨q, hf⟩ := zck_use hf
  refine va_sld hx hb hX hbl hbA hI.2.2.2.1 (zin_in q) dL_law_1058 ?_
  refine lv_aload_n hx hb dL_law_1059 rfl (lv_at hl 4 rfl) ?_
  refine lv_iload hx hb dL_law_1060 (lv_at hl 0 rfl) ?_
  refine lv_iconst (v := 2) hx hb dL_law_1062 (by decide) ?_
  refine lv_iadd hx hb dL_law_1063 ?_
  obtain ⟨q, hf⟩ := zck_use hf
  refine va_sld hx hb hX hbl hbA hI.2.2.2.1 (zin_in q) dL_law_1064 ?_
  refine lv_if_eq (tgt := 1072) hx hb dL_law_1065 (by decide) (fun q => ?_) (fun q => ?_)
  · replace hf := zif_t q hf
    refine lv_iconst (v := 0) hx hb dL_law_1072 (by decide) ?_
    refine lv_aload_n hx hb dL_law_1073 rfl (lv_at hl 1 rfl) ?_
    obtain ⟨o117, σ117, v118, g117, hf⟩ := zbh_use hf
    refine z_fcallH (u := wM am cm μ) (w := fun x : zHs => zHo ao co x.1 ++ wC ad cy x.2) (x := (o, σ)) (As := [.ref (ad 0), .int (xs (x4 + 1).toNatClampNeg), .int 0, .ref ao]) (rest := []) hC hI (zKH hI.1) (cL_stop_met st l hst D ad cy ao co o σ (xs (x4 + 1).toNatClampNeg) 0 _ g117) (zgS zw79_3 zw79_4 zw1_10 zw79_5) rfl ⟨rfl, rfl⟩ 4 hdL_stop ⟨Nat.le_of_ble_eq_true rfl, Nat.le_of_ble_eq_true rfl⟩ rfl hl rfl (Nat.le_of_ble_eq_true rfl) dL_law_1074 ⟨by show cells + 1 ≤ 600002; omega, by show slots + 6 ≤ 7302198; omega⟩ (fun H locs hI => ?_)
    have hI : zLw st D ad cy am cm ao co μ o117 σ117 s H locs := hI
    refine lv_istore (lv' := [(5, .int v118), (4, .int x4), (3, .ref ao), (2, .ref (am 0)), (1, .ref (ad 0)), (0, .ref b)]) hx hb dL_law_1077 hl (by decide) rfl (fun ls hl => ?_)
    refine lv_aload_n hx hb dL_law_1079 rfl (lv_at hl 3 rfl) ?_
    refine lv_aload_n hx hb dL_law_1080 rfl (lv_at hl 5 rfl) ?_
    refine lv_iload hx hb dL_law_1081 (lv_at hl 1 rfl) ?_
    refine lv_iconst (v := 1) hx hb dL_law_1083 (by decide) ?_
    refine lv_iadd hx hb dL_law_1084 ?_
    obtain ⟨q, hf⟩ := zck_use hf
    refine va_sld hx hb hX hbl hbA hI.2.2.2.1 (zin_in q) dL_law_1085 ?_
    refine lv_aload_n hx hb dL_law_1086 rfl (lv_at hl 5 rfl) ?_
    refine lv_iload hx hb dL_law_1087 (lv_at hl 1 rfl) ?_
    refine lv_iconst (v := 2) hx hb dL_law_1089 (by decide) ?_
    refine lv_iadd hx hb dL_law_1090 ?_
    obtain ⟨q, hf⟩ := zck_use hf
    refine va_sld hx hb hX hbl hbA hI.2.2.2.1 (zin_in q) dL_law_1091 ?_
    refine lv_if_eq (tgt := 1099) hx hb dL_law_1092 (by decide) (fun q => ?_) (fun q => ?_)
    · replace hf := zif_t q hf
      refine lv_iconst (v := 0) hx hb dL_law_1099 (by decide) ?_
      obtain ⟨μ119, v120, g119, hf⟩ := zbi_use hf
      refine z_fcallVi (u := zHo ao co o117 ++ wC ad cy σ117) (w := wM am cm) (As := [.int (xs (x4 + 1).toNatClampNeg), .int 0]) (rest := []) hC (zI.swap hI) (zKM hI.1) (cX12_stop_met st l D am cm μ (xs (x4 + 1).toNatClampNeg) 0 _ g119) (zgV zw79_20 zw79_21 zw79_22 zw1_5 zw79_23) rfl ⟨rfl, rfl⟩ 2 hdX12_stop ⟨Nat.le_of_ble_eq_true rfl, Nat.le_of_ble_eq_true rfl⟩ rfl rfl (wM_e0 am cm μ) rfl hl rfl (Nat.le_of_ble_eq_true rfl) dL_law_1100 ⟨by show cells + 1 ≤ 600002; omega, by show slots + 6 ≤ 7302198; omega⟩ (fun H locs hI => ?_)
      have hI : zLw st D ad cy am cm ao co μ119 o117 σ117 s H locs := zI.swap hI
      refine lv_istore (lv' := [(6, .int v120), (5, .int v118), (4, .int x4), (3, .ref ao), (2, .ref (am 0)), (1, .ref (ad 0)), (0, .ref b)]) hx hb dL_law_1103 hl (by decide) rfl (fun ls hl => ?_)
      refine lv_aload_n hx hb dL_law_1105 rfl (lv_at hl 4 rfl) ?_
      obtain ⟨μ121, v122, g121, hf⟩ := zbi_use hf
      refine z_fcallVi (u := zHo ao co o117 ++ wC ad cy σ117) (w := wM am cm) (As := []) (rest := []) hC (zI.swap hI) (zKM hI.1) (cX12_thrown_met st l D am cm μ119  _ g121) (zgV zw12_2 zw12_3 zw12_4 zw1_5 zw12_5) rfl ⟨rfl, rfl⟩ 0 hdX12_thrown ⟨Nat.le_of_ble_eq_true rfl, Nat.le_of_ble_eq_true rfl⟩ rfl rfl (wM_e0 am cm μ119) rfl hl rfl (Nat.le_of_ble_eq_true rfl) dL_law_1106 ⟨by show cells + 1 ≤ 600002; omega, by show slots + 6 ≤ 7302198; omega⟩ (fun H locs hI => ?_)
      have hI : zLw st D ad cy am cm ao co μ121 o117 σ117 s H locs := zI.swap hI
      refine lv_iload hx hb dL_law_1109 (lv_at hl 1 rfl) ?_
      refine lv_icmp_eq (tgt := 1116) hx hb dL_law_1111 (by decide) (fun q => ?_) (fun q => ?_)
      · replace hf := zif_t q hf
        refine lv_iload hx hb dL_law_1116 (lv_at hl 1 rfl) ?_
        refine lv_if_ne (tgt := 1133) hx hb dL_law_1118 (by decide) (fun q => ?_) (fun q => ?_)
        · replace hf := zif_f q hf
          refine lv_goto (tgt := 1946) hx hb dL_law_1133 (by decide) ?_
          obtain ⟨v123, ev123⟩ : ∃ z : Int32, z = x4 + 8 := ⟨_, rfl⟩
          replace hf := zbv_use ev123 hf
          refine lv_iinc (v := v123) (lv' := [(4, .int v123), (6, .int v120), (5, .int v118), (3, .ref ao), (2, .ref (am 0)), (1, .ref (ad 0)), (0, .ref b)]) hx hb dL_law_1946 hl (k := 2) rfl (by rw [ev123]; rfl) (by decide) rfl (fun ls hl => ?_)
          refine lv_goto (tgt := 33) hx hb dL_law_1949 (by decide) ?_
          exact hk _ _ _ _ _ _ _ _ _ (by omega) (by omega) hI (lv_sub hl [0, 3, 4, 5, 6] rfl) hf
        replace hf := zif_t q hf
        refine lv_aload_n hx hb dL_law_1121 rfl (lv_at hl 3 rfl) ?_
        refine lv_iconst (v := 0) hx hb dL_law_1122 (by decide) ?_
        refine z_lald (i := 0) hC hI 27 63 (zLo_e am cm ao co μ121 o117 _) (zLo_t cy cm co) (by decide) dL_law_1123 ?_
        refine lv_iload hx hb dL_law_1124 (lv_at hl 0 rfl) ?_
        refine lv_i2l (v := v120.toInt64) hx hb dL_law_1126 rfl ?_
        refine W.lcmp hx hb dL_law_1127 ?_
        refine lv_if_eq (tgt := 1133) hx hb dL_law_1128 (by decide) (fun q => ?_) (fun q => ?_)
        · replace hf := zif_t q hf
          refine lv_goto (tgt := 1946) hx hb dL_law_1133 (by decide) ?_
          obtain ⟨v124, ev124⟩ : ∃ z : Int32, z = x4 + 8 := ⟨_, rfl⟩
          replace hf := zbv_use ev124 hf
          refine lv_iinc (v := v124) (lv' := [(4, .int v124), (6, .int v120), (5, .int v118), (3, .ref ao), (2, .ref (am 0)), (1, .ref (ad 0)), (0, .ref b)]) hx hb dL_law_1946 hl (k := 2) rfl (by rw [ev124]; rfl) (by decide) rfl (fun ls hl => ?_)
          refine lv_goto (tgt := 33) hx hb dL_law_1949 (by decide) ?_
          exact hk _ _ _ _ _ _ _ _ _ (by omega) (by omega) hI (lv_sub hl [0, 3, 4, 5, 6] rfl) hf
        replace hf := zif_f q hf
        refine lv_iconst (v := 0) hx hb dL_law_1131 (by decide) ?_
        exact absurd (Option.some.inj hf) (by decide)
      replace hf := zif_f q hf
      refine lv_iconst (v := 0) hx hb dL_law_1114 (by decide) ?_
      exact absurd (Option.some.inj hf) (by decide)
    replace hf := zif_f q hf
    refine lv_iconst (v := 1) hx hb dL_law_1095 (by decide) ?_
    refine lv_goto (tgt := 1100) hx hb dL_law_1096 (by decide) ?_
    obtain ⟨μ125, v126, g125, hf⟩ := zbi_use hf
    refine z_fcallVi (u := zHo ao co o117 ++ wC ad cy σ117) (w := wM am cm) (As := [.int (xs (x4 + 1).toNatClampNeg), .int 1]) (rest := []) hC (zI.swap hI) (zKM hI.1) (cX12_stop_met st l D am cm μ (xs (x4 + 1).toNatClampNeg) 1 _ g125) (zgV zw79_20 zw79_21 zw79_22 zw1_5 zw79_23) rfl ⟨rfl, rfl⟩ 2 hdX12_stop ⟨Nat.le_of_ble_eq_true rfl, Nat.le_of_ble_eq_true rfl⟩ rfl rfl (wM_e0 am cm μ) rfl hl rfl (Nat.le_of_ble_eq_true rfl) dL_law_1100 ⟨by show cells + 1 ≤ 600002; omega, by show slots + 6 ≤ 7302198; omega⟩ (fun H locs hI => ?_)
    have hI : zLw st D ad cy am cm ao co μ125 o117 σ117 s H locs := zI.swap hI
    refine lv_istore (lv' := [(6, .int v126), (5, .int v118), (4, .int x4), (3, .ref ao), (2, .ref (am 0)), (1, .ref (ad 0)), (0, .ref b)]) hx hb dL_law_1103 hl (by decide) rfl (fun ls hl => ?_)
    refine lv_aload_n hx hb dL_law_1105 rfl (lv_at hl 4 rfl) ?_
    obtain ⟨μ127, v128, g127, hf⟩ := zbi_use hf
    refine z_fcallVi (u := zHo ao co o117 ++ wC ad cy σ117) (w := wM am cm) (As := []) (rest := []) hC (zI.swap hI) (zKM hI.1) (cX12_thrown_met st l D am cm μ125  _ g127) (zgV zw12_2 zw12_3 zw12_4 zw1_5 zw12_5) rfl ⟨rfl, rfl⟩ 0 hdX12_thrown ⟨Nat.le_of_ble_eq_true rfl, Nat.le_of_ble_eq_true rfl⟩ rfl rfl (wM_e0 am cm μ125) rfl hl rfl (Nat.le_of_ble_eq_true rfl) dL_law_1106 ⟨by show cells + 1 ≤ 600002; omega, by show slots + 6 ≤ 7302198; omega⟩ (fun H locs hI => ?_)
    have hI : zLw st D ad cy am cm ao co μ127 o117 σ117 s H locs := zI.swap hI
    refine lv_iload hx hb dL_law_1109 (lv_at hl 1 rfl) ?_
    refine lv_icmp_eq (tgt := 1116) hx hb dL_law_1111 (by decide) (fun q => ?_) (fun q => ?_)
    · replace hf := zif_t q hf
      refine lv_iload hx hb dL_law_1116 (lv_at hl 1 rfl) ?_
      refine lv_if_ne (tgt := 1133) hx hb dL_law_1118 (by decide) (fun q => ?_) (fun q => ?_)
      · replace hf := zif_f q hf
        refine lv_goto (tgt := 1946) hx hb dL_law_1133 (by decide) ?_
        obtain ⟨v129, ev129⟩ : ∃ z : Int32, z = x4 + 8 := ⟨_, rfl⟩
        replace hf := zbv_use ev129 hf
        refine lv_iinc (v := v129) (lv' := [(4, .int v129), (6, .int v126), (5, .int v118), (3, .ref ao), (2, .ref (am 0)), (1, .ref (ad 0)), (0, .ref b)]) hx hb dL_law_1946 hl (k := 2) rfl (by rw [ev129]; rfl) (by decide) rfl (fun ls hl => ?_)
        refine lv_goto (tgt := 33) hx hb dL_law_1949 (by decide) ?_
        exact hk _ _ _ _ _ _ _ _ _ (by omega) (by omega) hI (lv_sub hl [0, 3, 4, 5, 6] rfl) hf
      replace hf := zif_t q hf
      refine lv_aload_n hx hb dL_law_1121 rfl (lv_at hl 3 rfl) ?_
      refine lv_iconst (v := 0) hx hb dL_law_1122 (by decide) ?_
      refine z_lald (i := 0) hC hI 27 63 (zLo_e am cm ao co μ127 o117 _) (zLo_t cy cm co) (by decide) dL_law_1123 ?_
      refine lv_iload hx hb dL_law_1124 (lv_at hl 0 rfl) ?_
      refine lv_i2l (v := v126.toInt64) hx hb dL_law_1126 rfl ?_
      refine W.lcmp hx hb dL_law_1127 ?_
      refine lv_if_eq (tgt := 1133) hx hb dL_law_1128 (by decide) (fun q => ?_) (fun q => ?_)
      · replace hf := zif_t q hf
        refine lv_goto (tgt := 1946) hx hb dL_law_1133 (by decide) ?_
        obtain ⟨v130, ev130⟩ : ∃ z : Int32, z = x4 + 8 := ⟨_, rfl⟩
        replace hf := zbv_use ev130 hf
        refine lv_iinc (v := v130) (lv' := [(4, .int v130), (6, .int v126), (5, .int v118), (3, .ref ao), (2, .ref (am 0)), (1, .ref (ad 0)), (0, .ref b)]) hx hb dL_law_1946 hl (k := 2) rfl (by rw [ev130]; rfl) (by decide) rfl (fun ls hl => ?_)
        refine lv_goto (tgt := 33) hx hb dL_law_1949 (by decide) ?_
        exact hk _ _ _ _ _ _ _ _ _ (by omega) (by omega) hI (lv_sub hl [0, 3, 4, 5, 6] rfl) hf
      replace hf := zif_f q hf
      refine lv_iconst (v := 0) hx hb dL_law_1131 (by decide) ?_
      exact absurd (Option.some.inj hf) (by decide)
    replace hf := zif_f q hf
    refine lv_iconst (v := 0) hx hb dL_law_1114 (by decide) ?_
    exact absurd (Option.some.inj hf) (by decide)
  replace hf := zif_f q hf
  refine lv_iconst (v := 1) hx hb dL_law_1068 (by decide) ?_
  refine lv_goto (tgt := 1073) hx hb dL_law_1069 (by decide) ?_
  refine lv_aload_n hx hb dL_law_1073 rfl (lv_at hl 1 rfl) ?_
  obtain ⟨o131, σ131, v132, g131, hf⟩ := zbh_use hf
  refine z_fcallH (u := wM am cm μ) (w := fun x : zHs => zHo ao co x.1 ++ wC ad cy x.2) (x := (o, σ)) (As := [.ref (ad 0), .int (xs (x4 + 1).toNatClampNeg), .int 1, .ref ao]) (rest := []) hC hI (zKH hI.1) (cL_stop_met st l hst D ad cy ao co o σ (xs (x4 + 1).toNatClampNeg) 1 _ g131) (zgS zw79_3 zw79_4 zw1_10 zw79_5) rfl ⟨rfl, rfl⟩ 4 hdL_stop ⟨Nat.le_of_ble_eq_true rfl, Nat.le_of_ble_eq_true rfl⟩ rfl hl rfl (Nat.le_of_ble_eq_true rfl) dL_law_1074 ⟨by show cells + 1 ≤ 600002; omega, by show slots + 6 ≤ 7302198; omega⟩ (fun H locs hI => ?_)
  have hI : zLw st D ad cy am cm ao co μ o131 σ131 s H locs := hI
  refine lv_istore (lv' := [(5, .int v132), (4, .int x4), (3, .ref ao), (2, .ref (am 0)), (1, .ref (ad 0)), (0, .ref b)]) hx hb dL_law_1077 hl (by decide) rfl (fun ls hl => ?_)
  refine lv_aload_n hx hb dL_law_1079 rfl (lv_at hl 3 rfl) ?_
  refine lv_aload_n hx hb dL_law_1080 rfl (lv_at hl 5 rfl) ?_
  refine lv_iload hx hb dL_law_1081 (lv_at hl 1 rfl) ?_
  refine lv_iconst (v := 1) hx hb dL_law_1083 (by decide) ?_
  refine lv_iadd hx hb dL_law_1084 ?_
  obtain ⟨q, hf⟩ := zck_use hf
  refine va_sld hx hb hX hbl hbA hI.2.2.2.1 (zin_in q) dL_law_1085 ?_
  refine lv_aload_n hx hb dL_law_1086 rfl (lv_at hl 5 rfl) ?_
  refine lv_iload hx hb dL_law_1087 (lv_at hl 1 rfl) ?_
  refine lv_iconst (v := 2) hx hb dL_law_1089 (by decide) ?_
  refine lv_iadd hx hb dL_law_1090 ?_
  obtain ⟨q, hf⟩ := zck_use hf
  refine va_sld hx hb hX hbl hbA hI.2.2.2.1 (zin_in q) dL_law_1091 ?_
  refine lv_if_eq (tgt := 1099) hx hb dL_law_1092 (by decide) (fun q => ?_) (fun q => ?_)
  · replace hf := zif_t q hf
    refine lv_iconst (v := 0) hx hb dL_law_1099 (by decide) ?_
    obtain ⟨μ133, v134, g133, hf⟩ := zbi_use hf
    refine z_fcallVi (u := zHo ao co o131 ++ wC ad cy σ131) (w := wM am cm) (As := [.int (xs (x4 + 1).toNatClampNeg), .int 0]) (rest := []) hC (zI.swap hI) (zKM hI.1) (cX12_stop_met st l D am cm μ (xs (x4 + 1).toNatClampNeg) 0 _ g133) (zgV zw79_20 zw79_21 zw79_22 zw1_5 zw79_23) rfl ⟨rfl, rfl⟩ 2 hdX12_stop ⟨Nat.le_of_ble_eq_true rfl, Nat.le_of_ble_eq_true rfl⟩ rfl rfl (wM_e0 am cm μ) rfl hl rfl (Nat.le_of_ble_eq_true rfl) dL_law_1100 ⟨by show cells + 1 ≤ 600002; omega, by show slots + 6 ≤ 7302198; omega⟩ (fun H locs hI => ?_)
    have hI : zLw st D ad cy am cm ao co μ133 o131 σ131 s H locs := zI.swap hI
    refine lv_istore (lv' := [(6, .int v134), (5, .int v132), (4, .int x4), (3, .ref ao), (2, .ref (am 0)), (1, .ref (ad 0)), (0, .ref b)]) hx hb dL_law_1103 hl (by decide) rfl (fun ls hl => ?_)
    refine lv_aload_n hx hb dL_law_1105 rfl (lv_at hl 4 rfl) ?_
    obtain ⟨μ135, v136, g135, hf⟩ := zbi_use hf
    refine z_fcallVi (u := zHo ao co o131 ++ wC ad cy σ131) (w := wM am cm) (As := []) (rest := []) hC (zI.swap hI) (zKM hI.1) (cX12_thrown_met st l D am cm μ133  _ g135) (zgV zw12_2 zw12_3 zw12_4 zw1_5 zw12_5) rfl ⟨rfl, rfl⟩ 0 hdX12_thrown ⟨Nat.le_of_ble_eq_true rfl, Nat.le_of_ble_eq_true rfl⟩ rfl rfl (wM_e0 am cm μ133) rfl hl rfl (Nat.le_of_ble_eq_true rfl) dL_law_1106 ⟨by show cells + 1 ≤ 600002; omega, by show slots + 6 ≤ 7302198; omega⟩ (fun H locs hI => ?_)
    have hI : zLw st D ad cy am cm ao co μ135 o131 σ131 s H locs := zI.swap hI
    refine lv_iload hx hb dL_law_1109 (lv_at hl 1 rfl) ?_
    refine lv_icmp_eq (tgt := 1116) hx hb dL_law_1111 (by decide) (fun q => ?_) (fun q => ?_)
    · replace hf := zif_t q hf
      refine lv_iload hx hb dL_law_1116 (lv_at hl 1 rfl) ?_
      refine lv_if_ne (tgt := 1133) hx hb dL_law_1118 (by decide) (fun q => ?_) (fun q => ?_)
      · replace hf := zif_f q hf
        refine lv_goto (tgt := 1946) hx hb dL_law_1133 (by decide) ?_
        obtain ⟨v137, ev137⟩ : ∃ z : Int32, z = x4 + 8 := ⟨_, rfl⟩
        replace hf := zbv_use ev137 hf
        refine lv_iinc (v := v137) (lv' := [(4, .int v137), (6, .int v134), (5, .int v132), (3, .ref ao), (2, .ref (am 0)), (1, .ref (ad 0)), (0, .ref b)]) hx hb dL_law_1946 hl (k := 2) rfl (by rw [ev137]; rfl) (by decide) rfl (fun ls hl => ?_)
        refine lv_goto (tgt := 33) hx hb dL_law_1949 (by decide) ?_
        exact hk _ _ _ _ _ _ _ _ _ (by omega) (by omega) hI (lv_sub hl [0, 3, 4, 5, 6] rfl) hf
      replace hf := zif_t q hf
      refine lv_aload_n hx hb dL_law_1121 rfl (lv_at hl 3 rfl) ?_
      refine lv_iconst (v := 0) hx hb dL_law_1122 (by decide) ?_
      refine z_lald (i := 0) hC hI 27 63 (zLo_e am cm ao co μ135 o131 _) (zLo_t cy cm co) (by decide) dL_law_1123 ?_
      refine lv_iload hx hb dL_law_1124 (lv_at hl 0 rfl) ?_
      refine lv_i2l (v := v134.toInt64) hx hb dL_law_1126 rfl ?_
      refine W.lcmp hx hb dL_law_1127 ?_
      refine lv_if_eq (tgt := 1133) hx hb dL_law_1128 (by decide) (fun q => ?_) (fun q => ?_)
      · replace hf := zif_t q hf
        refine lv_goto (tgt := 1946) hx hb dL_law_1133 (by decide) ?_
        obtain ⟨v138, ev138⟩ : ∃ z : Int32, z = x4 + 8 := ⟨_, rfl⟩
        replace hf := zbv_use ev138 hf
        refine lv_iinc (v := v138) (lv' := [(4, .int v138), (6, .int v134), (5, .int v132), (3, .ref ao), (2, .ref (am 0)), (1, .ref (ad 0)), (0, .ref b)]) hx hb dL_law_1946 hl (k := 2) rfl (by rw [ev138]; rfl) (by decide) rfl (fun ls hl => ?_)
        refine lv_goto (tgt := 33) hx hb dL_law_1949 (by decide) ?_
        exact hk _ _ _ _ _ _ _ _ _ (by omega) (by omega) hI (lv_sub hl [0, 3, 4, 5, 6] rfl) hf
      replace hf := zif_f q hf
      refine lv_iconst (v := 0) hx hb dL_law_1131 (by decide) ?_
      exact absurd (Option.some.inj hf) (by decide)
    replace hf := zif_f q hf
    refine lv_iconst (v := 0) hx hb dL_law_1114 (by decide) ?_
    exact absurd (Option.some.inj hf) (by decide)
  replace hf := zif_f q hf
  refine lv_iconst (v := 1) hx hb dL_law_1095 (by decide) ?_
  refine lv_goto (tgt := 1100) hx hb dL_law_1096 (by decide) ?_
  obtain ⟨μ139, v140, g139, hf⟩ := zbi_use hf
  refine z_fcallVi (u := zHo ao co o131 ++ wC ad cy σ131) (w := wM am cm) (As := [.int (xs (x4 + 1).toNatClampNeg), .int 1]) (rest := []) hC (zI.swap hI) (zKM hI.1) (cX12_stop_met st l D am cm μ (xs (x4 + 1).toNatClampNeg) 1 _ g139) (zgV zw79_20 zw79_21 zw79_22 zw1_5 zw79_23) rfl ⟨rfl, rfl⟩ 2 hdX12_stop ⟨Nat.le_of_ble_eq_true rfl, Nat.le_of_ble_eq_true rfl⟩ rfl rfl (wM_e0 am cm μ) rfl hl rfl (Nat.le_of_ble_eq_true rfl) dL_law_1100 ⟨by show cells + 1 ≤ 600002; omega, by show slots + 6 ≤ 7302198; omega⟩ (fun H locs hI => ?_)
  have hI : zLw st D ad cy am cm ao co μ139 o131 σ131 s H locs := zI.swap hI
  refine lv_istore (lv' := [(6, .int v140), (5, .int v132), (4, .int x4), (3, .ref ao), (2, .ref (am 0)), (1, .ref (ad 0)), (0, .ref b)]) hx hb dL_law_1103 hl (by decide) rfl (fun ls hl => ?_)
  refine lv_aload_n hx hb dL_law_1105 rfl (lv_at hl 4 rfl) ?_
  obtain ⟨μ141, v142, g141, hf⟩ := zbi_use hf
  refine z_fcallVi (u := zHo ao co o131 ++ wC ad cy σ131) (w := wM am cm) (As := []) (rest := []) hC (zI.swap hI) (zKM hI.1) (cX12_thrown_met st l D am cm μ139  _ g141) (zgV zw12_2 zw12_3 zw12_4 zw1_5 zw12_5) rfl ⟨rfl, rfl⟩ 0 hdX12_thrown ⟨Nat.le_of_ble_eq_true rfl, Nat.le_of_ble_eq_true rfl⟩ rfl rfl (wM_e0 am cm μ139) rfl hl rfl (Nat.le_of_ble_eq_true rfl) dL_law_1106 ⟨by show cells + 1 ≤ 600002; omega, by show slots + 6 ≤ 7302198; omega⟩ (fun H locs hI => ?_)
  have hI : zLw st D ad cy am cm ao co μ141 o131 σ131 s H locs := zI.swap hI
  refine lv_iload hx hb dL_law_1109 (lv_at hl 1 rfl) ?_
  refine lv_icmp_eq (tgt := 1116) hx hb dL_law_1111 (by decide) (fun q => ?_) (fun q => ?_)
  · replace hf := zif_t q hf
    refine lv_iload hx hb dL_law_1116 (lv_at hl 1 rfl) ?_
    refine lv_if_ne (tgt := 1133) hx hb dL_law_1118 (by decide) (fun q => ?_) (fun q => ?_)
    · replace hf := zif_f q hf
      refine lv_goto (tgt := 1946) hx hb dL_law_1133 (by decide) ?_
      obtain ⟨v143, ev143⟩ : ∃ z : Int32, z = x4 + 8 := ⟨_, rfl⟩
      replace hf := zbv_use ev143 hf
      refine lv_iinc (v := v143) (lv' := [(4, .int v143), (6, .int v140), (5, .int v132), (3, .ref ao), (2, .ref (am 0)), (1, .ref (ad 0)), (0, .ref b)]) hx hb dL_law_1946 hl (k := 2) rfl (by rw [ev143]; rfl) (by decide) rfl (fun ls hl => ?_)
      refine lv_goto (tgt := 33) hx hb dL_law_1949 (by decide) ?_
      exact hk _ _ _ _ _ _ _ _ _ (by omega) (by omega) hI (lv_sub hl [0, 3, 4, 5, 6] rfl) hf
    replace hf := zif_t q hf
    refine lv_aload_n hx hb dL_law_1121 rfl (lv_at hl 3 rfl) ?_
    refine lv_iconst (v := 0) hx hb dL_law_1122 (by decide) ?_
    refine z_lald (i := 0) hC hI 27 63 (zLo_e am cm ao co μ141 o131 _) (zLo_t cy cm co) (by decide) dL_law_1123 ?_
    refine lv_iload hx hb dL_law_1124 (lv_at hl 0 rfl) ?_
    refine lv_i2l (v := v140.toInt64) hx hb dL_law_1126 rfl ?_
    refine W.lcmp hx hb dL_law_1127 ?_
    refine lv_if_eq (tgt := 1133) hx hb dL_law_1128 (by decide) (fun q => ?_) (fun q => ?_)
    · replace hf := zif_t q hf
      refine lv_goto (tgt := 1946) hx hb dL_law_1133 (by decide) ?_
      obtain ⟨v144, ev144⟩ : ∃ z : Int32, z = x4 + 8 := ⟨_, rfl⟩
      replace hf := zbv_use ev144 hf
      refine lv_iinc (v := v144) (lv' := [(4, .int v144), (6, .int v140), (5, .int v132), (3, .ref ao), (2, .ref (am 0)), (1, .ref (ad 0)), (0, .ref b)]) hx hb dL_law_1946 hl (k := 2) rfl (by rw [ev144]; rfl) (by decide) rfl (fun ls hl => ?_)
      refine lv_goto (tgt := 33) hx hb dL_law_1949 (by decide) ?_
      exact hk _ _ _ _ _ _ _ _ _ (by omega) (by omega) hI (lv_sub hl [0, 3, 4, 5, 6] rfl) hf
    replace hf := zif_f q hf
    refine lv_iconst (v := 0) hx hb dL_law_1131 (by decide) ?_
    exact absurd (Option.some.inj hf) (by decide)
  replace hf := zif_f q hf
  refine lv_iconst (v := 0) hx hb dL_law_1114 (by decide) ?_
  exact absurd (Option.some.inj hf) (by decide)
def fLaw_1136 (xs : Nat → Int32) (L : Nat) (kn : zSt → (Nat → Int64) → zSt → Int32 → Option Int32) (μ : zSt) (o : Nat → Int64) (σ : zSt) (x4 : Int32) : Option Int32 :=
  zbu (fX11_save σ ) (fun σ145 =>
  zbu (fX12_save μ ) (fun μ146 =>
  zbv (x4 + 8) (fun v147 => kn μ146 o σ145 v147)))
set_option maxRecDepth 20000 in
set_option maxHeartbeats 4000000 in
theorem bLaw_1136 {p : Program} {l : Launch} {e : Env} {s : State} {m : MethodId} {below : List Frame} {meth : Method} {c : Code} {st : Nat → Nat} {D : va_G} {b L : Nat} {xs : Nat → Int32} {ad am : Nat → Nat} {cy cm : Nat → ClassId} {ao : Nat} {co : ClassId} (hC : zC p m c cL_law 8 s #[Value.ref b] wzL_law RL meth ret) (hst : l.stackTraces = false) (hX : va_X b L xs s s.heap) (hbl : b < s.heap.size) (hbA : ¬ (fun q : Nat => s.heap.size ≤ q) b) {n : Nat} {kn : zSt → (Nat → Int64) → zSt → Int32 → Option Int32} (hk : ∀ (H : Heap) (locs : List Loc) (μ : zSt) (o : Nat → Int64) (σ : zSt) (ls : Array Slot) (x4 : Int32) (cells slots : Nat), cells + n ≤ 600002 → slots + 6 * n ≤ 7302198 → zLw st D ad cy am cm ao co μ o σ s H locs → lv_has ls 8 [(4, .int x4), (3, .ref ao), (2, .ref (am 0)), (1, .ref (ad 0)), (0, .ref b)] → kn μ o σ x4 = some 1 → W p l e room_1 s m #[Value.ref b] below meth c H locs cells slots (lw_Z below #[Value.ref b] s) (F0 m 33 ls [])) {H : Heap} {locs : List Loc} {μ : zSt} {o : Nat → Int64} {σ : zSt} {ls : Array Slot} {x4 : Int32} {cells slots : Nat} (hc : cells + (n + 1) ≤ 600002) (hs : slots + 6 * (n + 1) ≤ 7302198) (hI : zLw st D ad cy am cm ao co μ o σ s H locs) (hl : lv_has ls 8 [(4, .int x4), (3, .ref ao), (2, .ref (am 0)), (1, .ref (ad 0)), (0, .ref b)]) (hf : fLaw_1136 xs L kn μ o σ x4 = some 1) : W p l e room_1 s m #[Value.ref b] below meth c H locs cells slots (lw_Z below #[Value.ref b] s) (F0 m 1136 ls []) := by
  have hx := hC.1
  have hb := hC.2.1
  unfold fLaw_1136 at hf
  refine lv_aload_n hx hb dL_law_1136 rfl (lv_at hl 3 rfl) ?_
  obtain ⟨σ145, g145, hf⟩ := zbu_use hf
  refine z_fcallVu (u := wM am cm μ ++ zHo ao co o) (w := wC ad cy) (As := []) (rest := []) hC (zI.al hI) (zKC hI.1) (cX11_save_met st l D ad cy σ  _ g145) (zgV zw80_1 zw80_2 zw80_3 zw1_2 zw80_4) rfl ⟨rfl, rfl⟩ 0 hdX11_save ⟨Nat.le_of_ble_eq_true rfl, Nat.le_of_ble_eq_true rfl⟩ rfl rfl (wC_e0 ad cy σ) rfl hl rfl (Nat.le_of_ble_eq_true rfl) dL_law_1137 ⟨by show cells ≤ 600002; omega, by show slots ≤ 7302198; omega⟩ (fun H locs hI => ?_)
  have hI : zLw st D ad cy am cm ao co μ o σ145 s H locs := zI.ar hI
  refine lv_aload_n hx hb dL_law_1140 rfl (lv_at hl 2 rfl) ?_
  obtain ⟨μ146, g146, hf⟩ := zbu_use hf
  refine z_fcallVu (u := zHo ao co o ++ wC ad cy σ145) (w := wM am cm) (As := []) (rest := []) hC (zI.swap hI) (zKM hI.1) (cX12_save_met st l D am cm μ  _ g146) (zgV zw82_12 zw82_13 zw82_14 zw1_5 zw82_15) rfl ⟨rfl, rfl⟩ 0 hdX12_save ⟨Nat.le_of_ble_eq_true rfl, Nat.le_of_ble_eq_true rfl⟩ rfl rfl (wM_e0 am cm μ) rfl hl rfl (Nat.le_of_ble_eq_true rfl) dL_law_1141 ⟨by show cells ≤ 600002; omega, by show slots ≤ 7302198; omega⟩ (fun H locs hI => ?_)
  have hI : zLw st D ad cy am cm ao co μ146 o σ145 s H locs := zI.swap hI
  refine lv_goto (tgt := 1946) hx hb dL_law_1144 (by decide) ?_
  obtain ⟨v147, ev147⟩ : ∃ z : Int32, z = x4 + 8 := ⟨_, rfl⟩
  replace hf := zbv_use ev147 hf
  refine lv_iinc (v := v147) (lv' := [(4, .int v147), (3, .ref ao), (2, .ref (am 0)), (1, .ref (ad 0)), (0, .ref b)]) hx hb dL_law_1946 hl (k := 0) rfl (by rw [ev147]; rfl) (by decide) rfl (fun ls hl => ?_)
  refine lv_goto (tgt := 33) hx hb dL_law_1949 (by decide) ?_
  exact hk _ _ _ _ _ _ _ _ _ (by omega) (by omega) hI (lv_sub hl [0, 1, 2, 3, 4] rfl) hf
def fLaw_1147 (xs : Nat → Int32) (L : Nat) (kn : zSt → (Nat → Int64) → zSt → Int32 → Option Int32) (μ : zSt) (o : Nat → Int64) (σ : zSt) (x4 : Int32) : Option Int32 :=
  zbi (fL_restore σ ) (fun σ148 v149 =>
  zbu (fX12_restore μ ) (fun μ150 =>
  zbi (fX12_thrown μ150 ) (fun μ151 v152 =>
  if v152 = v149 then zbv (x4 + 8) (fun v153 => kn μ151 o σ148 v153) else
  some 0)))
set_option maxRecDepth 20000 in
set_option maxHeartbeats 4000000 in
theorem bLaw_1147 {p : Program} {l : Launch} {e : Env} {s : State} {m : MethodId} {below : List Frame} {meth : Method} {c : Code} {st : Nat → Nat} {D : va_G} {b L : Nat} {xs : Nat → Int32} {ad am : Nat → Nat} {cy cm : Nat → ClassId} {ao : Nat} {co : ClassId} (hC : zC p m c cL_law 8 s #[Value.ref b] wzL_law RL meth ret) (hst : l.stackTraces = false) (hX : va_X b L xs s s.heap) (hbl : b < s.heap.size) (hbA : ¬ (fun q : Nat => s.heap.size ≤ q) b) {n : Nat} {kn : zSt → (Nat → Int64) → zSt → Int32 → Option Int32} (hk : ∀ (H : Heap) (locs : List Loc) (μ : zSt) (o : Nat → Int64) (σ : zSt) (ls : Array Slot) (x4 : Int32) (cells slots : Nat), cells + n ≤ 600002 → slots + 6 * n ≤ 7302198 → zLw st D ad cy am cm ao co μ o σ s H locs → lv_has ls 8 [(4, .int x4), (3, .ref ao), (2, .ref (am 0)), (1, .ref (ad 0)), (0, .ref b)] → kn μ o σ x4 = some 1 → W p l e room_1 s m #[Value.ref b] below meth c H locs cells slots (lw_Z below #[Value.ref b] s) (F0 m 33 ls [])) {H : Heap} {locs : List Loc} {μ : zSt} {o : Nat → Int64} {σ : zSt} {ls : Array Slot} {x4 : Int32} {cells slots : Nat} (hc : cells + (n + 1) ≤ 600002) (hs : slots + 6 * (n + 1) ≤ 7302198) (hI : zLw st D ad cy am cm ao co μ o σ s H locs) (hl : lv_has ls 8 [(4, .int x4), (3, .ref ao), (2, .ref (am 0)), (1, .ref (ad 0)), (0, .ref b)]) (hf : fLaw_1147 xs L kn μ o σ x4 = some 1) : W p l e room_1 s m #[Value.ref b] below meth c H locs cells slots (lw_Z below #[Value.ref b] s) (F0 m 1147 ls []) := by
  have hx := hC.1
  have hb := hC.2.1
  unfold fLaw_1147 at hf
  refine lv_aload_n hx hb dL_law_1147 rfl (lv_at hl 3 rfl) ?_
  obtain ⟨σ148, v149, g148, hf⟩ := zbi_use hf
  refine z_fcallH (u := wM am cm μ ++ zHo ao co o) (w := wC ad cy) (x := σ) (As := [.ref (ad 0)]) (rest := []) hC (zI.al hI) (zKC hI.1) (cL_restore_met st l hst D ad cy σ  _ g148) (zgS zw82_16 zw82_17 zw1_10 zw82_18) rfl ⟨rfl, rfl⟩ 1 hdL_restore ⟨Nat.le_of_ble_eq_true rfl, Nat.le_of_ble_eq_true rfl⟩ rfl hl rfl (Nat.le_of_ble_eq_true rfl) dL_law_1148 ⟨by show cells + 1 ≤ 600002; omega, by show slots + 6 ≤ 7302198; omega⟩ (fun H locs hI => ?_)
  have hI : zLw st D ad cy am cm ao co μ o σ148 s H locs := zI.ar hI
  refine lv_istore (lv' := [(5, .int v149), (4, .int x4), (3, .ref ao), (2, .ref (am 0)), (1, .ref (ad 0)), (0, .ref b)]) hx hb dL_law_1151 hl (by decide) rfl (fun ls hl => ?_)
  refine lv_aload_n hx hb dL_law_1153 rfl (lv_at hl 3 rfl) ?_
  obtain ⟨μ150, g150, hf⟩ := zbu_use hf
  refine z_fcallVu (u := zHo ao co o ++ wC ad cy σ148) (w := wM am cm) (As := []) (rest := []) hC (zI.swap hI) (zKM hI.1) (cX12_restore_met st l D am cm μ  _ g150) (zgV zw84_16 zw84_17 zw84_18 zw1_5 zw84_19) rfl ⟨rfl, rfl⟩ 0 hdX12_restore ⟨Nat.le_of_ble_eq_true rfl, Nat.le_of_ble_eq_true rfl⟩ rfl rfl (wM_e0 am cm μ) rfl hl rfl (Nat.le_of_ble_eq_true rfl) dL_law_1154 ⟨by show cells + 1 ≤ 600002; omega, by show slots + 6 ≤ 7302198; omega⟩ (fun H locs hI => ?_)
  have hI : zLw st D ad cy am cm ao co μ150 o σ148 s H locs := zI.swap hI
  refine lv_aload_n hx hb dL_law_1157 rfl (lv_at hl 3 rfl) ?_
  obtain ⟨μ151, v152, g151, hf⟩ := zbi_use hf
  refine z_fcallVi (u := zHo ao co o ++ wC ad cy σ148) (w := wM am cm) (As := []) (rest := []) hC (zI.swap hI) (zKM hI.1) (cX12_thrown_met st l D am cm μ150  _ g151) (zgV zw12_2 zw12_3 zw12_4 zw1_5 zw12_5) rfl ⟨rfl, rfl⟩ 0 hdX12_thrown ⟨Nat.le_of_ble_eq_true rfl, Nat.le_of_ble_eq_true rfl⟩ rfl rfl (wM_e0 am cm μ150) rfl hl rfl (Nat.le_of_ble_eq_true rfl) dL_law_1158 ⟨by show cells + 1 ≤ 600002; omega, by show slots + 6 ≤ 7302198; omega⟩ (fun H locs hI => ?_)
  have hI : zLw st D ad cy am cm ao co μ151 o σ148 s H locs := zI.swap hI
  refine lv_iload hx hb dL_law_1161 (lv_at hl 0 rfl) ?_
  refine lv_icmp_eq (tgt := 1168) hx hb dL_law_1163 (by decide) (fun q => ?_) (fun q => ?_)
  · replace hf := zif_t q hf
    refine lv_goto (tgt := 1946) hx hb dL_law_1168 (by decide) ?_
    obtain ⟨v153, ev153⟩ : ∃ z : Int32, z = x4 + 8 := ⟨_, rfl⟩
    replace hf := zbv_use ev153 hf
    refine lv_iinc (v := v153) (lv' := [(4, .int v153), (5, .int v149), (3, .ref ao), (2, .ref (am 0)), (1, .ref (ad 0)), (0, .ref b)]) hx hb dL_law_1946 hl (k := 1) rfl (by rw [ev153]; rfl) (by decide) rfl (fun ls hl => ?_)
    refine lv_goto (tgt := 33) hx hb dL_law_1949 (by decide) ?_
    exact hk _ _ _ _ _ _ _ _ _ (by omega) (by omega) hI (lv_sub hl [0, 2, 3, 4, 5] rfl) hf
  replace hf := zif_f q hf
  refine lv_iconst (v := 0) hx hb dL_law_1166 (by decide) ?_
  exact absurd (Option.some.inj hf) (by decide)
def fLaw_1171 (xs : Nat → Int32) (L : Nat) (kn : zSt → (Nat → Int64) → zSt → Int32 → Option Int32) (μ : zSt) (o : Nat → Int64) (σ : zSt) (x4 : Int32) : Option Int32 :=
  zck (zin (x4 + 1) L) (zbh (fL_register o σ (xs (x4 + 1).toNatClampNeg)) (fun o154 σ154 v155 =>
  zck (zin (x4 + 1) L) (zbi (fX12_register μ (xs (x4 + 1).toNatClampNeg)) (fun μ156 v157 =>
  zbi (fX12_thrown μ156 ) (fun μ158 v159 =>
  if v159 = v155 then if v155 = 0 then if (lg_cmp (o154 0) (v157.toInt64)) = 0 then zbv (x4 + 8) (fun v161 => kn μ158 o154 σ154 v161) else
  some 0 else
  zbv (x4 + 8) (fun v160 => kn μ158 o154 σ154 v160) else
  some 0)))))
set_option maxRecDepth 20000 in
set_option maxHeartbeats 4000000 in
theorem bLaw_1171 {p : Program} {l : Launch} {e : Env} {s : State} {m : MethodId} {below : List Frame} {meth : Method} {c : Code} {st : Nat → Nat} {D : va_G} {b L : Nat} {xs : Nat → Int32} {ad am : Nat → Nat} {cy cm : Nat → ClassId} {ao : Nat} {co : ClassId} (hC : zC p m c cL_law 8 s #[Value.ref b] wzL_law RL meth ret) (hst : l.stackTraces = false) (hX : va_X b L xs s s.heap) (hbl : b < s.heap.size) (hbA : ¬ (fun q : Nat => s.heap.size ≤ q) b) {n : Nat} {kn : zSt → (Nat → Int64) → zSt → Int32 → Option Int32} (hk : ∀ (H : Heap) (locs : List Loc) (μ : zSt) (o : Nat → Int64) (σ : zSt) (ls : Array Slot) (x4 : Int32) (cells slots : Nat), cells + n ≤ 600002 → slots + 6 * n ≤ 7302198 → zLw st D ad cy am cm ao co μ o σ s H locs → lv_has ls 8 [(4, .int x4), (3, .ref ao), (2, .ref (am 0)), (1, .ref (ad 0)), (0, .ref b)] → kn μ o σ x4 = some 1 → W p l e room_1 s m #[Value.ref b] below meth c H locs cells slots (lw_Z below #[Value.ref b] s) (F0 m 33 ls [])) {H : Heap} {locs : List Loc} {μ : zSt} {o : Nat → Int64} {σ : zSt} {ls : Array Slot} {x4 : Int32} {cells slots : Nat} (hc : cells + (n + 1) ≤ 600002) (hs : slots + 6 * (n + 1) ≤ 7302198) (hI : zLw st D ad cy am cm ao co μ o σ s H locs) (hl : lv_has ls 8 [(4, .int x4), (3, .ref ao), (2, .ref (am 0)), (1, .ref (ad 0)), (0, .ref b)]) (hf : fLaw_1171 xs L kn μ o σ x4 = some 1) : W p l e room_1 s m #[Value.ref b] below meth c H locs cells slots (lw_Z below #[Value.ref b] s) (F0 m 1171 ls []) := by
  have hx := hC.1
  have hb := hC.2.1
  unfold fLaw_1171 at hf
  refine lv_aload_n hx hb dL_law_1171 rfl (lv_at hl 3 rfl) ?_
  refine lv_aload_n hx hb dL_law_1172 rfl (lv_at hl 4 rfl) ?_
  refine lv_iload hx hb dL_law_1173 (lv_at hl 0 rfl) ?_
  refine lv_iconst (v := 1) hx hb dL_law_1175 (by decide) ?_
  refine lv_iadd hx hb dL_law_1176 ?_
  obtain ⟨q, hf⟩ := zck_use hf
  refine va_sld hx hb hX hbl hbA hI.2.2.2.1 (zin_in q) dL_law_1177 ?_
  refine lv_aload_n hx hb dL_law_1178 rfl (lv_at hl 1 rfl) ?_
  obtain ⟨o154, σ154, v155, g154, hf⟩ := zbh_use hf
  refine z_fcallH (u := wM am cm μ) (w := fun x : zHs => zHo ao co x.1 ++ wC ad cy x.2) (x := (o, σ)) (As := [.ref (ad 0), .int (xs (x4 + 1).toNatClampNeg), .ref ao]) (rest := []) hC hI (zKH hI.1) (cL_register_met st l hst D ad cy ao co o σ (xs (x4 + 1).toNatClampNeg) _ g154) (zgS zw84_20 zw84_21 zw1_10 zw84_22) rfl ⟨rfl, rfl⟩ 3 hdL_register ⟨Nat.le_of_ble_eq_true rfl, Nat.le_of_ble_eq_true rfl⟩ rfl hl rfl (Nat.le_of_ble_eq_true rfl) dL_law_1179 ⟨by show cells + 1 ≤ 600002; omega, by show slots + 6 ≤ 7302198; omega⟩ (fun H locs hI => ?_)
  have hI : zLw st D ad cy am cm ao co μ o154 σ154 s H locs := hI
  refine lv_istore (lv' := [(5, .int v155), (4, .int x4), (3, .ref ao), (2, .ref (am 0)), (1, .ref (ad 0)), (0, .ref b)]) hx hb dL_law_1182 hl (by decide) rfl (fun ls hl => ?_)
  refine lv_aload_n hx hb dL_law_1184 rfl (lv_at hl 3 rfl) ?_
  refine lv_aload_n hx hb dL_law_1185 rfl (lv_at hl 5 rfl) ?_
  refine lv_iload hx hb dL_law_1186 (lv_at hl 1 rfl) ?_
  refine lv_iconst (v := 1) hx hb dL_law_1188 (by decide) ?_
  refine lv_iadd hx hb dL_law_1189 ?_
  obtain ⟨q, hf⟩ := zck_use hf
  refine va_sld hx hb hX hbl hbA hI.2.2.2.1 (zin_in q) dL_law_1190 ?_
  obtain ⟨μ156, v157, g156, hf⟩ := zbi_use hf
  refine z_fcallVi (u := zHo ao co o154 ++ wC ad cy σ154) (w := wM am cm) (As := [.int (xs (x4 + 1).toNatClampNeg)]) (rest := []) hC (zI.swap hI) (zKM hI.1) (cX12_register_met st l D am cm μ (xs (x4 + 1).toNatClampNeg) _ g156) (zgV zw85_3 zw85_4 zw85_5 zw1_5 zw85_6) rfl ⟨rfl, rfl⟩ 1 hdX12_register ⟨Nat.le_of_ble_eq_true rfl, Nat.le_of_ble_eq_true rfl⟩ rfl rfl (wM_e0 am cm μ) rfl hl rfl (Nat.le_of_ble_eq_true rfl) dL_law_1191 ⟨by show cells + 1 ≤ 600002; omega, by show slots + 6 ≤ 7302198; omega⟩ (fun H locs hI => ?_)
  have hI : zLw st D ad cy am cm ao co μ156 o154 σ154 s H locs := zI.swap hI
  refine lv_istore (lv' := [(6, .int v157), (5, .int v155), (4, .int x4), (3, .ref ao), (2, .ref (am 0)), (1, .ref (ad 0)), (0, .ref b)]) hx hb dL_law_1194 hl (by decide) rfl (fun ls hl => ?_)
  refine lv_aload_n hx hb dL_law_1196 rfl (lv_at hl 4 rfl) ?_
  obtain ⟨μ158, v159, g158, hf⟩ := zbi_use hf
  refine z_fcallVi (u := zHo ao co o154 ++ wC ad cy σ154) (w := wM am cm) (As := []) (rest := []) hC (zI.swap hI) (zKM hI.1) (cX12_thrown_met st l D am cm μ156  _ g158) (zgV zw12_2 zw12_3 zw12_4 zw1_5 zw12_5) rfl ⟨rfl, rfl⟩ 0 hdX12_thrown ⟨Nat.le_of_ble_eq_true rfl, Nat.le_of_ble_eq_true rfl⟩ rfl rfl (wM_e0 am cm μ156) rfl hl rfl (Nat.le_of_ble_eq_true rfl) dL_law_1197 ⟨by show cells + 1 ≤ 600002; omega, by show slots + 6 ≤ 7302198; omega⟩ (fun H locs hI => ?_)
  have hI : zLw st D ad cy am cm ao co μ158 o154 σ154 s H locs := zI.swap hI
  refine lv_iload hx hb dL_law_1200 (lv_at hl 1 rfl) ?_
  refine lv_icmp_eq (tgt := 1207) hx hb dL_law_1202 (by decide) (fun q => ?_) (fun q => ?_)
  · replace hf := zif_t q hf
    refine lv_iload hx hb dL_law_1207 (lv_at hl 1 rfl) ?_
    refine lv_if_ne (tgt := 1224) hx hb dL_law_1209 (by decide) (fun q => ?_) (fun q => ?_)
    · replace hf := zif_f q hf
      refine lv_goto (tgt := 1946) hx hb dL_law_1224 (by decide) ?_
      obtain ⟨v160, ev160⟩ : ∃ z : Int32, z = x4 + 8 := ⟨_, rfl⟩
      replace hf := zbv_use ev160 hf
      refine lv_iinc (v := v160) (lv' := [(4, .int v160), (6, .int v157), (5, .int v155), (3, .ref ao), (2, .ref (am 0)), (1, .ref (ad 0)), (0, .ref b)]) hx hb dL_law_1946 hl (k := 2) rfl (by rw [ev160]; rfl) (by decide) rfl (fun ls hl => ?_)
      refine lv_goto (tgt := 33) hx hb dL_law_1949 (by decide) ?_
      exact hk _ _ _ _ _ _ _ _ _ (by omega) (by omega) hI (lv_sub hl [0, 3, 4, 5, 6] rfl) hf
    replace hf := zif_t q hf
    refine lv_aload_n hx hb dL_law_1212 rfl (lv_at hl 3 rfl) ?_
    refine lv_iconst (v := 0) hx hb dL_law_1213 (by decide) ?_
    refine z_lald (i := 0) hC hI 27 63 (zLo_e am cm ao co μ158 o154 _) (zLo_t cy cm co) (by decide) dL_law_1214 ?_
    refine lv_iload hx hb dL_law_1215 (lv_at hl 0 rfl) ?_
    refine lv_i2l (v := v157.toInt64) hx hb dL_law_1217 rfl ?_
    refine W.lcmp hx hb dL_law_1218 ?_
    refine lv_if_eq (tgt := 1224) hx hb dL_law_1219 (by decide) (fun q => ?_) (fun q => ?_)
    · replace hf := zif_t q hf
      refine lv_goto (tgt := 1946) hx hb dL_law_1224 (by decide) ?_
      obtain ⟨v161, ev161⟩ : ∃ z : Int32, z = x4 + 8 := ⟨_, rfl⟩
      replace hf := zbv_use ev161 hf
      refine lv_iinc (v := v161) (lv' := [(4, .int v161), (6, .int v157), (5, .int v155), (3, .ref ao), (2, .ref (am 0)), (1, .ref (ad 0)), (0, .ref b)]) hx hb dL_law_1946 hl (k := 2) rfl (by rw [ev161]; rfl) (by decide) rfl (fun ls hl => ?_)
      refine lv_goto (tgt := 33) hx hb dL_law_1949 (by decide) ?_
      exact hk _ _ _ _ _ _ _ _ _ (by omega) (by omega) hI (lv_sub hl [0, 3, 4, 5, 6] rfl) hf
    replace hf := zif_f q hf
    refine lv_iconst (v := 0) hx hb dL_law_1222 (by decide) ?_
    exact absurd (Option.some.inj hf) (by decide)
  replace hf := zif_f q hf
  refine lv_iconst (v := 0) hx hb dL_law_1205 (by decide) ?_
  exact absurd (Option.some.inj hf) (by decide)
def fLaw_1227 (xs : Nat → Int32) (L : Nat) (kn : zSt → (Nat → Int64) → zSt → Int32 → Option Int32) (μ : zSt) (o : Nat → Int64) (σ : zSt) (x4 : Int32) : Option Int32 :=
  zck (zin (x4 + 1) L) (zck (zin (x4 + 2) L) (zbi (fL_set σ (xs (x4 + 1).toNatClampNeg) (xs (x4 + 2).toNatClampNeg)) (fun σ162 v163 =>
  zck (zin (x4 + 1) L) (zck (zin (x4 + 2) L) (zbu (fX12_set μ (xs (x4 + 1).toNatClampNeg) (xs (x4 + 2).toNatClampNeg)) (fun μ164 =>
  zbi (fX12_thrown μ164 ) (fun μ165 v166 =>
  if v166 = v163 then zbv (x4 + 8) (fun v167 => kn μ165 o σ162 v167) else
  some 0)))))))
set_option maxRecDepth 20000 in
set_option maxHeartbeats 4000000 in
theorem bLaw_1227 {p : Program} {l : Launch} {e : Env} {s : State} {m : MethodId} {below : List Frame} {meth : Method} {c : Code} {st : Nat → Nat} {D : va_G} {b L : Nat} {xs : Nat → Int32} {ad am : Nat → Nat} {cy cm : Nat → ClassId} {ao : Nat} {co : ClassId} (hC : zC p m c cL_law 8 s #[Value.ref b] wzL_law RL meth ret) (hst : l.stackTraces = false) (hX : va_X b L xs s s.heap) (hbl : b < s.heap.size) (hbA : ¬ (fun q : Nat => s.heap.size ≤ q) b) {n : Nat} {kn : zSt → (Nat → Int64) → zSt → Int32 → Option Int32} (hk : ∀ (H : Heap) (locs : List Loc) (μ : zSt) (o : Nat → Int64) (σ : zSt) (ls : Array Slot) (x4 : Int32) (cells slots : Nat), cells + n ≤ 600002 → slots + 6 * n ≤ 7302198 → zLw st D ad cy am cm ao co μ o σ s H locs → lv_has ls 8 [(4, .int x4), (3, .ref ao), (2, .ref (am 0)), (1, .ref (ad 0)), (0, .ref b)] → kn μ o σ x4 = some 1 → W p l e room_1 s m #[Value.ref b] below meth c H locs cells slots (lw_Z below #[Value.ref b] s) (F0 m 33 ls [])) {H : Heap} {locs : List Loc} {μ : zSt} {o : Nat → Int64} {σ : zSt} {ls : Array Slot} {x4 : Int32} {cells slots : Nat} (hc : cells + (n + 1) ≤ 600002) (hs : slots + 6 * (n + 1) ≤ 7302198) (hI : zLw st D ad cy am cm ao co μ o σ s H locs) (hl : lv_has ls 8 [(4, .int x4), (3, .ref ao), (2, .ref (am 0)), (1, .ref (ad 0)), (0, .ref b)]) (hf : fLaw_1227 xs L kn μ o σ x4 = some 1) : W p l e room_1 s m #[Value.ref b] below meth c H locs cells slots (lw_Z below #[Value.ref b] s) (F0 m 1227 ls []) := by
  have hx := hC.1
  have hb := hC.2.1
  unfold fLaw_1227 at hf
  refine lv_aload_n hx hb dL_law_1227 rfl (lv_at hl 3 rfl) ?_
  refine lv_aload_n hx hb dL_law_1228 rfl (lv_at hl 4 rfl) ?_
  refine lv_iload hx hb dL_law_1229 (lv_at hl 0 rfl) ?_
  refine lv_iconst (v := 1) hx hb dL_law_1231 (by decide) ?_
  refine lv_iadd hx hb dL_law_1232 ?_
  obtain ⟨q, hf⟩ := zck_use hf
  refine va_sld hx hb hX hbl hbA hI.2.2.2.1 (zin_in q) dL_law_1233 ?_
  refine lv_aload_n hx hb dL_law_1234 rfl (lv_at hl 4 rfl) ?_
  refine lv_iload hx hb dL_law_1235 (lv_at hl 0 rfl) ?_
  refine lv_iconst (v := 2) hx hb dL_law_1237 (by decide) ?_
  refine lv_iadd hx hb dL_law_1238 ?_
  obtain ⟨q, hf⟩ := zck_use hf
  refine va_sld hx hb hX hbl hbA hI.2.2.2.1 (zin_in q) dL_law_1239 ?_
  obtain ⟨σ162, v163, g162, hf⟩ := zbi_use hf
  refine z_fcallH (u := wM am cm μ ++ zHo ao co o) (w := wC ad cy) (x := σ) (As := [.ref (ad 0), .int (xs (x4 + 1).toNatClampNeg), .int (xs (x4 + 2).toNatClampNeg)]) (rest := []) hC (zI.al hI) (zKC hI.1) (cL_set_met st l hst D ad cy σ (xs (x4 + 1).toNatClampNeg) (xs (x4 + 2).toNatClampNeg) _ g162) (zgS zw85_8 zw85_9 zw1_10 zw85_10) rfl ⟨rfl, rfl⟩ 3 hdL_set ⟨Nat.le_of_ble_eq_true rfl, Nat.le_of_ble_eq_true rfl⟩ rfl hl rfl (Nat.le_of_ble_eq_true rfl) dL_law_1240 ⟨by show cells + 1 ≤ 600002; omega, by show slots + 6 ≤ 7302198; omega⟩ (fun H locs hI => ?_)
  have hI : zLw st D ad cy am cm ao co μ o σ162 s H locs := zI.ar hI
  refine lv_istore (lv' := [(5, .int v163), (4, .int x4), (3, .ref ao), (2, .ref (am 0)), (1, .ref (ad 0)), (0, .ref b)]) hx hb dL_law_1243 hl (by decide) rfl (fun ls hl => ?_)
  refine lv_aload_n hx hb dL_law_1245 rfl (lv_at hl 3 rfl) ?_
  refine lv_aload_n hx hb dL_law_1246 rfl (lv_at hl 5 rfl) ?_
  refine lv_iload hx hb dL_law_1247 (lv_at hl 1 rfl) ?_
  refine lv_iconst (v := 1) hx hb dL_law_1249 (by decide) ?_
  refine lv_iadd hx hb dL_law_1250 ?_
  obtain ⟨q, hf⟩ := zck_use hf
  refine va_sld hx hb hX hbl hbA hI.2.2.2.1 (zin_in q) dL_law_1251 ?_
  refine lv_aload_n hx hb dL_law_1252 rfl (lv_at hl 5 rfl) ?_
  refine lv_iload hx hb dL_law_1253 (lv_at hl 1 rfl) ?_
  refine lv_iconst (v := 2) hx hb dL_law_1255 (by decide) ?_
  refine lv_iadd hx hb dL_law_1256 ?_
  obtain ⟨q, hf⟩ := zck_use hf
  refine va_sld hx hb hX hbl hbA hI.2.2.2.1 (zin_in q) dL_law_1257 ?_
  obtain ⟨μ164, g164, hf⟩ := zbu_use hf
  refine z_fcallVu (u := zHo ao co o ++ wC ad cy σ162) (w := wM am cm) (As := [.int (xs (x4 + 1).toNatClampNeg), .int (xs (x4 + 2).toNatClampNeg)]) (rest := []) hC (zI.swap hI) (zKM hI.1) (cX12_set_met st l D am cm μ (xs (x4 + 1).toNatClampNeg) (xs (x4 + 2).toNatClampNeg) _ g164) (zgV zw85_20 zw85_21 zw85_22 zw1_5 zw85_23) rfl ⟨rfl, rfl⟩ 2 hdX12_set ⟨Nat.le_of_ble_eq_true rfl, Nat.le_of_ble_eq_true rfl⟩ rfl rfl (wM_e0 am cm μ) rfl hl rfl (Nat.le_of_ble_eq_true rfl) dL_law_1258 ⟨by show cells + 1 ≤ 600002; omega, by show slots + 6 ≤ 7302198; omega⟩ (fun H locs hI => ?_)
  have hI : zLw st D ad cy am cm ao co μ164 o σ162 s H locs := zI.swap hI
  refine lv_aload_n hx hb dL_law_1261 rfl (lv_at hl 3 rfl) ?_
  obtain ⟨μ165, v166, g165, hf⟩ := zbi_use hf
  refine z_fcallVi (u := zHo ao co o ++ wC ad cy σ162) (w := wM am cm) (As := []) (rest := []) hC (zI.swap hI) (zKM hI.1) (cX12_thrown_met st l D am cm μ164  _ g165) (zgV zw12_2 zw12_3 zw12_4 zw1_5 zw12_5) rfl ⟨rfl, rfl⟩ 0 hdX12_thrown ⟨Nat.le_of_ble_eq_true rfl, Nat.le_of_ble_eq_true rfl⟩ rfl rfl (wM_e0 am cm μ164) rfl hl rfl (Nat.le_of_ble_eq_true rfl) dL_law_1262 ⟨by show cells + 1 ≤ 600002; omega, by show slots + 6 ≤ 7302198; omega⟩ (fun H locs hI => ?_)
  have hI : zLw st D ad cy am cm ao co μ165 o σ162 s H locs := zI.swap hI
  refine lv_iload hx hb dL_law_1265 (lv_at hl 0 rfl) ?_
  refine lv_icmp_eq (tgt := 1272) hx hb dL_law_1267 (by decide) (fun q => ?_) (fun q => ?_)
  · replace hf := zif_t q hf
    refine lv_goto (tgt := 1946) hx hb dL_law_1272 (by decide) ?_
    obtain ⟨v167, ev167⟩ : ∃ z : Int32, z = x4 + 8 := ⟨_, rfl⟩
    replace hf := zbv_use ev167 hf
    refine lv_iinc (v := v167) (lv' := [(4, .int v167), (5, .int v163), (3, .ref ao), (2, .ref (am 0)), (1, .ref (ad 0)), (0, .ref b)]) hx hb dL_law_1946 hl (k := 1) rfl (by rw [ev167]; rfl) (by decide) rfl (fun ls hl => ?_)
    refine lv_goto (tgt := 33) hx hb dL_law_1949 (by decide) ?_
    exact hk _ _ _ _ _ _ _ _ _ (by omega) (by omega) hI (lv_sub hl [0, 2, 3, 4, 5] rfl) hf
  replace hf := zif_f q hf
  refine lv_iconst (v := 0) hx hb dL_law_1270 (by decide) ?_
  exact absurd (Option.some.inj hf) (by decide)
def fLaw_1275 (xs : Nat → Int32) (L : Nat) (kn : zSt → (Nat → Int64) → zSt → Int32 → Option Int32) (μ : zSt) (o : Nat → Int64) (σ : zSt) (x4 : Int32) : Option Int32 :=
  zck (zin (x4 + 1) L) (zbi (fX11_peek σ (xs (x4 + 1).toNatClampNeg)) (fun σ168 v169 =>
  zck (zin (x4 + 1) L) (zbi (fX12_peek μ (xs (x4 + 1).toNatClampNeg)) (fun μ170 v171 =>
  if v169 = v171 then zbv (x4 + 8) (fun v172 => kn μ170 o σ168 v172) else
  some 0))))
set_option maxRecDepth 20000 in
set_option maxHeartbeats 4000000 in
theorem bLaw_1275 {p : Program} {l : Launch} {e : Env} {s : State} {m : MethodId} {below : List Frame} {meth : Method} {c : Code} {st : Nat → Nat} {D : va_G} {b L : Nat} {xs : Nat → Int32} {ad am : Nat → Nat} {cy cm : Nat → ClassId} {ao : Nat} {co : ClassId} (hC : zC p m c cL_law 8 s #[Value.ref b] wzL_law RL meth ret) (hst : l.stackTraces = false) (hX : va_X b L xs s s.heap) (hbl : b < s.heap.size) (hbA : ¬ (fun q : Nat => s.heap.size ≤ q) b) {n : Nat} {kn : zSt → (Nat → Int64) → zSt → Int32 → Option Int32} (hk : ∀ (H : Heap) (locs : List Loc) (μ : zSt) (o : Nat → Int64) (σ : zSt) (ls : Array Slot) (x4 : Int32) (cells slots : Nat), cells + n ≤ 600002 → slots + 6 * n ≤ 7302198 → zLw st D ad cy am cm ao co μ o σ s H locs → lv_has ls 8 [(4, .int x4), (3, .ref ao), (2, .ref (am 0)), (1, .ref (ad 0)), (0, .ref b)] → kn μ o σ x4 = some 1 → W p l e room_1 s m #[Value.ref b] below meth c H locs cells slots (lw_Z below #[Value.ref b] s) (F0 m 33 ls [])) {H : Heap} {locs : List Loc} {μ : zSt} {o : Nat → Int64} {σ : zSt} {ls : Array Slot} {x4 : Int32} {cells slots : Nat} (hc : cells + (n + 1) ≤ 600002) (hs : slots + 6 * (n + 1) ≤ 7302198) (hI : zLw st D ad cy am cm ao co μ o σ s H locs) (hl : lv_has ls 8 [(4, .int x4), (3, .ref ao), (2, .ref (am 0)), (1, .ref (ad 0)), (0, .ref b)]) (hf : fLaw_1275 xs L kn μ o σ x4 = some 1) : W p l e room_1 s m #[Value.ref b] below meth c H locs cells slots (lw_Z below #[Value.ref b] s) (F0 m 1275 ls []) := by
  have hx := hC.1
  have hb := hC.2.1
  unfold fLaw_1275 at hf
  refine lv_aload_n hx hb dL_law_1275 rfl (lv_at hl 3 rfl) ?_
  refine lv_aload_n hx hb dL_law_1276 rfl (lv_at hl 4 rfl) ?_
  refine lv_iload hx hb dL_law_1277 (lv_at hl 0 rfl) ?_
  refine lv_iconst (v := 1) hx hb dL_law_1279 (by decide) ?_
  refine lv_iadd hx hb dL_law_1280 ?_
  obtain ⟨q, hf⟩ := zck_use hf
  refine va_sld hx hb hX hbl hbA hI.2.2.2.1 (zin_in q) dL_law_1281 ?_
  obtain ⟨σ168, v169, g168, hf⟩ := zbi_use hf
  refine z_fcallVi (u := wM am cm μ ++ zHo ao co o) (w := wC ad cy) (As := [.int (xs (x4 + 1).toNatClampNeg)]) (rest := []) hC (zI.al hI) (zKC hI.1) (cX11_peek_met st l D ad cy σ (xs (x4 + 1).toNatClampNeg) _ g168) (zgV zw86_1 zw86_2 zw86_3 zw1_2 zw86_4) rfl ⟨rfl, rfl⟩ 1 hdX11_peek ⟨Nat.le_of_ble_eq_true rfl, Nat.le_of_ble_eq_true rfl⟩ rfl rfl (wC_e0 ad cy σ) rfl hl rfl (Nat.le_of_ble_eq_true rfl) dL_law_1282 ⟨by show cells ≤ 600002; omega, by show slots ≤ 7302198; omega⟩ (fun H locs hI => ?_)
  have hI : zLw st D ad cy am cm ao co μ o σ168 s H locs := zI.ar hI
  refine lv_aload_n hx hb dL_law_1285 rfl (lv_at hl 2 rfl) ?_
  refine lv_aload_n hx hb dL_law_1286 rfl (lv_at hl 4 rfl) ?_
  refine lv_iload hx hb dL_law_1287 (lv_at hl 0 rfl) ?_
  refine lv_iconst (v := 1) hx hb dL_law_1289 (by decide) ?_
  refine lv_iadd hx hb dL_law_1290 ?_
  obtain ⟨q, hf⟩ := zck_use hf
  refine va_sld hx hb hX hbl hbA hI.2.2.2.1 (zin_in q) dL_law_1291 ?_
  obtain ⟨μ170, v171, g170, hf⟩ := zbi_use hf
  refine z_fcallVi (u := zHo ao co o ++ wC ad cy σ168) (w := wM am cm) (As := [.int (xs (x4 + 1).toNatClampNeg)]) (rest := [.int v169]) hC (zI.swap hI) (zKM hI.1) (cX12_peek_met st l D am cm μ (xs (x4 + 1).toNatClampNeg) _ g170) (zgV zw86_6 zw86_7 zw86_8 zw1_5 zw86_9) rfl ⟨rfl, rfl⟩ 1 hdX12_peek ⟨Nat.le_of_ble_eq_true rfl, Nat.le_of_ble_eq_true rfl⟩ rfl rfl (wM_e0 am cm μ) rfl hl rfl (Nat.le_of_ble_eq_true rfl) dL_law_1292 ⟨by show cells ≤ 600002; omega, by show slots ≤ 7302198; omega⟩ (fun H locs hI => ?_)
  have hI : zLw st D ad cy am cm ao co μ170 o σ168 s H locs := zI.swap hI
  refine lv_icmp_eq (tgt := 1946) hx hb dL_law_1295 (by decide) (fun q => ?_) (fun q => ?_)
  · replace hf := zif_t q hf
    obtain ⟨v172, ev172⟩ : ∃ z : Int32, z = x4 + 8 := ⟨_, rfl⟩
    replace hf := zbv_use ev172 hf
    refine lv_iinc (v := v172) (lv' := [(4, .int v172), (3, .ref ao), (2, .ref (am 0)), (1, .ref (ad 0)), (0, .ref b)]) hx hb dL_law_1946 hl (k := 0) rfl (by rw [ev172]; rfl) (by decide) rfl (fun ls hl => ?_)
    refine lv_goto (tgt := 33) hx hb dL_law_1949 (by decide) ?_
    exact hk _ _ _ _ _ _ _ _ _ (by omega) (by omega) hI (lv_sub hl [0, 1, 2, 3, 4] rfl) hf
  replace hf := zif_f q hf
  refine lv_iconst (v := 0) hx hb dL_law_1298 (by decide) ?_
  exact absurd (Option.some.inj hf) (by decide)
