def fLaw_1300 (xs : Nat → Int32) (L : Nat) (kn : zSt → (Nat → Int64) → zSt → Int32 → Option Int32) (μ : zSt) (o : Nat → Int64) (σ : zSt) (x4 : Int32) : Option Int32 :=
  zck (zin (x4 + 1) L) (zck (zin (x4 + 2) L) (zbu (fX11_poke σ (xs (x4 + 1).toNatClampNeg) (xs (x4 + 2).toNatClampNeg)) (fun σ173 =>
  zck (zin (x4 + 1) L) (zck (zin (x4 + 2) L) (zbu (fX12_poke μ (xs (x4 + 1).toNatClampNeg) (xs (x4 + 2).toNatClampNeg)) (fun μ174 =>
  zbv (x4 + 8) (fun v175 => kn μ174 o σ173 v175)))))))
set_option maxRecDepth 20000 in
set_option maxHeartbeats 4000000 in
theorem bLaw_1300 {p : Program} {l : Launch} {e : Env} {s : State} {m : MethodId} {below : List Frame} {meth : Method} {c : Code} {st : Nat → Nat} {D : va_G} {b L : Nat} {xs : Nat → Int32} {ad am : Nat → Nat} {cy cm : Nat → ClassId} {ao : Nat} {co : ClassId} (hC : zC p m c cL_law 8 s #[Value.ref b] wzL_law RL meth ret) (hst : l.stackTraces = false) (hX : va_X b L xs s s.heap) (hbl : b < s.heap.size) (hbA : ¬ (fun q : Nat => s.heap.size ≤ q) b) {n : Nat} {kn : zSt → (Nat → Int64) → zSt → Int32 → Option Int32} (hk : ∀ (H : Heap) (locs : List Loc) (μ : zSt) (o : Nat → Int64) (σ : zSt) (ls : Array Slot) (x4 : Int32) (cells slots : Nat), cells + n ≤ 600002 → slots + 6 * n ≤ 7302198 → zLw st D ad cy am cm ao co μ o σ s H locs → lv_has ls 8 [(4, .int x4), (3, .ref ao), (2, .ref (am 0)), (1, .ref (ad 0)), (0, .ref b)] → kn μ o σ x4 = some 1 → W p l e room_1 s m #[Value.ref b] below meth c H locs cells slots (lw_Z below #[Value.ref b] s) (F0 m 33 ls [])) {H : Heap} {locs : List Loc} {μ : zSt} {o : Nat → Int64} {σ : zSt} {ls : Array Slot} {x4 : Int32} {cells slots : Nat} (hc : cells + (n + 1) ≤ 600002) (hs : slots + 6 * (n + 1) ≤ 7302198) (hI : zLw st D ad cy am cm ao co μ o σ s H locs) (hl : lv_has ls 8 [(4, .int x4), (3, .ref ao), (2, .ref (am 0)), (1, .ref (ad 0)), (0, .ref b)]) (hf : fLaw_1300 xs L kn μ o σ x4 = some 1) : W p l e room_1 s m #[Value.ref b] below meth c H locs cells slots (lw_Z below #[Value.ref b] s) (F0 m 1300 ls []) := by
  have hx := hC.1
  have hb := hC.2.1
  unfold fLaw_1300 at hf
  refine lv_aload_n hx hb dL_law_1300 rfl (lv_at hl 3 rfl) ?_
  refine lv_aload_n hx hb dL_law_1301 rfl (lv_at hl 4 rfl) ?_
  refine lv_iload hx hb dL_law_1302 (lv_at hl 0 rfl) ?_
  refine lv_iconst (v := 1) hx hb dL_law_1304 (by decide) ?_
  refine lv_iadd hx hb dL_law_1305 ?_
  obtain ⟨q, hf⟩ := zck_use hf
  refine va_sld hx hb hX hbl hbA hI.2.2.2.1 (zin_in q) dL_law_1306 ?_
  refine lv_aload_n hx hb dL_law_1307 rfl (lv_at hl 4 rfl) ?_
  refine lv_iload hx hb dL_law_1308 (lv_at hl 0 rfl) ?_
  refine lv_iconst (v := 2) hx hb dL_law_1310 (by decide) ?_
  refine lv_iadd hx hb dL_law_1311 ?_
  obtain ⟨q, hf⟩ := zck_use hf
  refine va_sld hx hb hX hbl hbA hI.2.2.2.1 (zin_in q) dL_law_1312 ?_
  obtain ⟨σ173, g173, hf⟩ := zbu_use hf
  refine z_fcallVu (u := wM am cm μ ++ zHo ao co o) (w := wC ad cy) (As := [.int (xs (x4 + 1).toNatClampNeg), .int (xs (x4 + 2).toNatClampNeg)]) (rest := []) hC (zI.al hI) (zKC hI.1) (cX11_poke_met st l D ad cy σ (xs (x4 + 1).toNatClampNeg) (xs (x4 + 2).toNatClampNeg) _ g173) (zgV zw86_10 zw86_11 zw86_12 zw1_2 zw86_13) rfl ⟨rfl, rfl⟩ 2 hdX11_poke ⟨Nat.le_of_ble_eq_true rfl, Nat.le_of_ble_eq_true rfl⟩ rfl rfl (wC_e0 ad cy σ) rfl hl rfl (Nat.le_of_ble_eq_true rfl) dL_law_1313 ⟨by show cells ≤ 600002; omega, by show slots ≤ 7302198; omega⟩ (fun H locs hI => ?_)
  have hI : zLw st D ad cy am cm ao co μ o σ173 s H locs := zI.ar hI
  refine lv_aload_n hx hb dL_law_1316 rfl (lv_at hl 2 rfl) ?_
  refine lv_aload_n hx hb dL_law_1317 rfl (lv_at hl 4 rfl) ?_
  refine lv_iload hx hb dL_law_1318 (lv_at hl 0 rfl) ?_
  refine lv_iconst (v := 1) hx hb dL_law_1320 (by decide) ?_
  refine lv_iadd hx hb dL_law_1321 ?_
  obtain ⟨q, hf⟩ := zck_use hf
  refine va_sld hx hb hX hbl hbA hI.2.2.2.1 (zin_in q) dL_law_1322 ?_
  refine lv_aload_n hx hb dL_law_1323 rfl (lv_at hl 4 rfl) ?_
  refine lv_iload hx hb dL_law_1324 (lv_at hl 0 rfl) ?_
  refine lv_iconst (v := 2) hx hb dL_law_1326 (by decide) ?_
  refine lv_iadd hx hb dL_law_1327 ?_
  obtain ⟨q, hf⟩ := zck_use hf
  refine va_sld hx hb hX hbl hbA hI.2.2.2.1 (zin_in q) dL_law_1328 ?_
  obtain ⟨μ174, g174, hf⟩ := zbu_use hf
  refine z_fcallVu (u := zHo ao co o ++ wC ad cy σ173) (w := wM am cm) (As := [.int (xs (x4 + 1).toNatClampNeg), .int (xs (x4 + 2).toNatClampNeg)]) (rest := []) hC (zI.swap hI) (zKM hI.1) (cX12_poke_met st l D am cm μ (xs (x4 + 1).toNatClampNeg) (xs (x4 + 2).toNatClampNeg) _ g174) (zgV zw86_15 zw86_16 zw86_17 zw1_5 zw86_18) rfl ⟨rfl, rfl⟩ 2 hdX12_poke ⟨Nat.le_of_ble_eq_true rfl, Nat.le_of_ble_eq_true rfl⟩ rfl rfl (wM_e0 am cm μ) rfl hl rfl (Nat.le_of_ble_eq_true rfl) dL_law_1329 ⟨by show cells ≤ 600002; omega, by show slots ≤ 7302198; omega⟩ (fun H locs hI => ?_)
  have hI : zLw st D ad cy am cm ao co μ174 o σ173 s H locs := zI.swap hI
  refine lv_goto (tgt := 1946) hx hb dL_law_1332 (by decide) ?_
  obtain ⟨v175, ev175⟩ : ∃ z : Int32, z = x4 + 8 := ⟨_, rfl⟩
  replace hf := zbv_use ev175 hf
  refine lv_iinc (v := v175) (lv' := [(4, .int v175), (3, .ref ao), (2, .ref (am 0)), (1, .ref (ad 0)), (0, .ref b)]) hx hb dL_law_1946 hl (k := 0) rfl (by rw [ev175]; rfl) (by decide) rfl (fun ls hl => ?_)
  refine lv_goto (tgt := 33) hx hb dL_law_1949 (by decide) ?_
  exact hk _ _ _ _ _ _ _ _ _ (by omega) (by omega) hI (lv_sub hl [0, 1, 2, 3, 4] rfl) hf
def fLaw_1335 (xs : Nat → Int32) (L : Nat) (kn : zSt → (Nat → Int64) → zSt → Int32 → Option Int32) (μ : zSt) (o : Nat → Int64) (σ : zSt) (x4 : Int32) : Option Int32 :=
  zck (zin (x4 + 1) L) (zbi (fX11_in σ (xs (x4 + 1).toNatClampNeg)) (fun σ176 v177 =>
  zck (zin (x4 + 1) L) (zbi (fX12_in μ (xs (x4 + 1).toNatClampNeg)) (fun μ178 v179 =>
  if v177 = v179 then zbv (x4 + 8) (fun v180 => kn μ178 o σ176 v180) else
  some 0))))
set_option maxRecDepth 20000 in
set_option maxHeartbeats 4000000 in
theorem bLaw_1335 {p : Program} {l : Launch} {e : Env} {s : State} {m : MethodId} {below : List Frame} {meth : Method} {c : Code} {st : Nat → Nat} {D : va_G} {b L : Nat} {xs : Nat → Int32} {ad am : Nat → Nat} {cy cm : Nat → ClassId} {ao : Nat} {co : ClassId} (hC : zC p m c cL_law 8 s #[Value.ref b] wzL_law RL meth ret) (hst : l.stackTraces = false) (hX : va_X b L xs s s.heap) (hbl : b < s.heap.size) (hbA : ¬ (fun q : Nat => s.heap.size ≤ q) b) {n : Nat} {kn : zSt → (Nat → Int64) → zSt → Int32 → Option Int32} (hk : ∀ (H : Heap) (locs : List Loc) (μ : zSt) (o : Nat → Int64) (σ : zSt) (ls : Array Slot) (x4 : Int32) (cells slots : Nat), cells + n ≤ 600002 → slots + 6 * n ≤ 7302198 → zLw st D ad cy am cm ao co μ o σ s H locs → lv_has ls 8 [(4, .int x4), (3, .ref ao), (2, .ref (am 0)), (1, .ref (ad 0)), (0, .ref b)] → kn μ o σ x4 = some 1 → W p l e room_1 s m #[Value.ref b] below meth c H locs cells slots (lw_Z below #[Value.ref b] s) (F0 m 33 ls [])) {H : Heap} {locs : List Loc} {μ : zSt} {o : Nat → Int64} {σ : zSt} {ls : Array Slot} {x4 : Int32} {cells slots : Nat} (hc : cells + (n + 1) ≤ 600002) (hs : slots + 6 * (n + 1) ≤ 7302198) (hI : zLw st D ad cy am cm ao co μ o σ s H locs) (hl : lv_has ls 8 [(4, .int x4), (3, .ref ao), (2, .ref (am 0)), (1, .ref (ad 0)), (0, .ref b)]) (hf : fLaw_1335 xs L kn μ o σ x4 = some 1) : W p l e room_1 s m #[Value.ref b] below meth c H locs cells slots (lw_Z below #[Value.ref b] s) (F0 m 1335 ls []) := by
  have hx := hC.1
  have hb := hC.2.1
  unfold fLaw_1335 at hf
  refine lv_aload_n hx hb dL_law_1335 rfl (lv_at hl 3 rfl) ?_
  refine lv_aload_n hx hb dL_law_1336 rfl (lv_at hl 4 rfl) ?_
  refine lv_iload hx hb dL_law_1337 (lv_at hl 0 rfl) ?_
  refine lv_iconst (v := 1) hx hb dL_law_1339 (by decide) ?_
  refine lv_iadd hx hb dL_law_1340 ?_
  obtain ⟨q, hf⟩ := zck_use hf
  refine va_sld hx hb hX hbl hbA hI.2.2.2.1 (zin_in q) dL_law_1341 ?_
  obtain ⟨σ176, v177, g176, hf⟩ := zbi_use hf
  refine z_fcallVi (u := wM am cm μ ++ zHo ao co o) (w := wC ad cy) (As := [.int (xs (x4 + 1).toNatClampNeg)]) (rest := []) hC (zI.al hI) (zKC hI.1) (cX11_in_met st l D ad cy σ (xs (x4 + 1).toNatClampNeg) _ g176) (zgV zw86_19 zw86_20 zw86_21 zw1_2 zw86_22) rfl ⟨rfl, rfl⟩ 1 hdX11_in ⟨Nat.le_of_ble_eq_true rfl, Nat.le_of_ble_eq_true rfl⟩ rfl rfl (wC_e0 ad cy σ) rfl hl rfl (Nat.le_of_ble_eq_true rfl) dL_law_1342 ⟨by show cells ≤ 600002; omega, by show slots ≤ 7302198; omega⟩ (fun H locs hI => ?_)
  have hI : zLw st D ad cy am cm ao co μ o σ176 s H locs := zI.ar hI
  refine lv_aload_n hx hb dL_law_1345 rfl (lv_at hl 2 rfl) ?_
  refine lv_aload_n hx hb dL_law_1346 rfl (lv_at hl 4 rfl) ?_
  refine lv_iload hx hb dL_law_1347 (lv_at hl 0 rfl) ?_
  refine lv_iconst (v := 1) hx hb dL_law_1349 (by decide) ?_
  refine lv_iadd hx hb dL_law_1350 ?_
  obtain ⟨q, hf⟩ := zck_use hf
  refine va_sld hx hb hX hbl hbA hI.2.2.2.1 (zin_in q) dL_law_1351 ?_
  obtain ⟨μ178, v179, g178, hf⟩ := zbi_use hf
  refine z_fcallVi (u := zHo ao co o ++ wC ad cy σ176) (w := wM am cm) (As := [.int (xs (x4 + 1).toNatClampNeg)]) (rest := [.int v177]) hC (zI.swap hI) (zKM hI.1) (cX12_in_met st l D am cm μ (xs (x4 + 1).toNatClampNeg) _ g178) (zgV zw87_0 zw87_1 zw87_2 zw1_5 zw87_3) rfl ⟨rfl, rfl⟩ 1 hdX12_in ⟨Nat.le_of_ble_eq_true rfl, Nat.le_of_ble_eq_true rfl⟩ rfl rfl (wM_e0 am cm μ) rfl hl rfl (Nat.le_of_ble_eq_true rfl) dL_law_1352 ⟨by show cells ≤ 600002; omega, by show slots ≤ 7302198; omega⟩ (fun H locs hI => ?_)
  have hI : zLw st D ad cy am cm ao co μ178 o σ176 s H locs := zI.swap hI
  refine lv_icmp_eq (tgt := 1946) hx hb dL_law_1355 (by decide) (fun q => ?_) (fun q => ?_)
  · replace hf := zif_t q hf
    obtain ⟨v180, ev180⟩ : ∃ z : Int32, z = x4 + 8 := ⟨_, rfl⟩
    replace hf := zbv_use ev180 hf
    refine lv_iinc (v := v180) (lv' := [(4, .int v180), (3, .ref ao), (2, .ref (am 0)), (1, .ref (ad 0)), (0, .ref b)]) hx hb dL_law_1946 hl (k := 0) rfl (by rw [ev180]; rfl) (by decide) rfl (fun ls hl => ?_)
    refine lv_goto (tgt := 33) hx hb dL_law_1949 (by decide) ?_
    exact hk _ _ _ _ _ _ _ _ _ (by omega) (by omega) hI (lv_sub hl [0, 1, 2, 3, 4] rfl) hf
  replace hf := zif_f q hf
  refine lv_iconst (v := 0) hx hb dL_law_1358 (by decide) ?_
  exact absurd (Option.some.inj hf) (by decide)
def fLaw_1360 (xs : Nat → Int32) (L : Nat) (kn : zSt → (Nat → Int64) → zSt → Int32 → Option Int32) (μ : zSt) (o : Nat → Int64) (σ : zSt) (x4 : Int32) : Option Int32 :=
  zck (zin (x4 + 1) L) (zck (zin (x4 + 2) L) (zbu (fX11_out σ (xs (x4 + 1).toNatClampNeg) (xs (x4 + 2).toNatClampNeg)) (fun σ181 =>
  zck (zin (x4 + 1) L) (zck (zin (x4 + 2) L) (zbu (fX12_out μ (xs (x4 + 1).toNatClampNeg) (xs (x4 + 2).toNatClampNeg)) (fun μ182 =>
  zbv (x4 + 8) (fun v183 => kn μ182 o σ181 v183)))))))
set_option maxRecDepth 20000 in
set_option maxHeartbeats 4000000 in
theorem bLaw_1360 {p : Program} {l : Launch} {e : Env} {s : State} {m : MethodId} {below : List Frame} {meth : Method} {c : Code} {st : Nat → Nat} {D : va_G} {b L : Nat} {xs : Nat → Int32} {ad am : Nat → Nat} {cy cm : Nat → ClassId} {ao : Nat} {co : ClassId} (hC : zC p m c cL_law 8 s #[Value.ref b] wzL_law RL meth ret) (hst : l.stackTraces = false) (hX : va_X b L xs s s.heap) (hbl : b < s.heap.size) (hbA : ¬ (fun q : Nat => s.heap.size ≤ q) b) {n : Nat} {kn : zSt → (Nat → Int64) → zSt → Int32 → Option Int32} (hk : ∀ (H : Heap) (locs : List Loc) (μ : zSt) (o : Nat → Int64) (σ : zSt) (ls : Array Slot) (x4 : Int32) (cells slots : Nat), cells + n ≤ 600002 → slots + 6 * n ≤ 7302198 → zLw st D ad cy am cm ao co μ o σ s H locs → lv_has ls 8 [(4, .int x4), (3, .ref ao), (2, .ref (am 0)), (1, .ref (ad 0)), (0, .ref b)] → kn μ o σ x4 = some 1 → W p l e room_1 s m #[Value.ref b] below meth c H locs cells slots (lw_Z below #[Value.ref b] s) (F0 m 33 ls [])) {H : Heap} {locs : List Loc} {μ : zSt} {o : Nat → Int64} {σ : zSt} {ls : Array Slot} {x4 : Int32} {cells slots : Nat} (hc : cells + (n + 1) ≤ 600002) (hs : slots + 6 * (n + 1) ≤ 7302198) (hI : zLw st D ad cy am cm ao co μ o σ s H locs) (hl : lv_has ls 8 [(4, .int x4), (3, .ref ao), (2, .ref (am 0)), (1, .ref (ad 0)), (0, .ref b)]) (hf : fLaw_1360 xs L kn μ o σ x4 = some 1) : W p l e room_1 s m #[Value.ref b] below meth c H locs cells slots (lw_Z below #[Value.ref b] s) (F0 m 1360 ls []) := by
  have hx := hC.1
  have hb := hC.2.1
  unfold fLaw_1360 at hf
  refine lv_aload_n hx hb dL_law_1360 rfl (lv_at hl 3 rfl) ?_
  refine lv_aload_n hx hb dL_law_1361 rfl (lv_at hl 4 rfl) ?_
  refine lv_iload hx hb dL_law_1362 (lv_at hl 0 rfl) ?_
  refine lv_iconst (v := 1) hx hb dL_law_1364 (by decide) ?_
  refine lv_iadd hx hb dL_law_1365 ?_
  obtain ⟨q, hf⟩ := zck_use hf
  refine va_sld hx hb hX hbl hbA hI.2.2.2.1 (zin_in q) dL_law_1366 ?_
  refine lv_aload_n hx hb dL_law_1367 rfl (lv_at hl 4 rfl) ?_
  refine lv_iload hx hb dL_law_1368 (lv_at hl 0 rfl) ?_
  refine lv_iconst (v := 2) hx hb dL_law_1370 (by decide) ?_
  refine lv_iadd hx hb dL_law_1371 ?_
  obtain ⟨q, hf⟩ := zck_use hf
  refine va_sld hx hb hX hbl hbA hI.2.2.2.1 (zin_in q) dL_law_1372 ?_
  obtain ⟨σ181, g181, hf⟩ := zbu_use hf
  refine z_fcallVu (u := wM am cm μ ++ zHo ao co o) (w := wC ad cy) (As := [.int (xs (x4 + 1).toNatClampNeg), .int (xs (x4 + 2).toNatClampNeg)]) (rest := []) hC (zI.al hI) (zKC hI.1) (cX11_out_met st l D ad cy σ (xs (x4 + 1).toNatClampNeg) (xs (x4 + 2).toNatClampNeg) _ g181) (zgV zw87_4 zw87_5 zw87_6 zw1_2 zw87_7) rfl ⟨rfl, rfl⟩ 2 hdX11_out ⟨Nat.le_of_ble_eq_true rfl, Nat.le_of_ble_eq_true rfl⟩ rfl rfl (wC_e0 ad cy σ) rfl hl rfl (Nat.le_of_ble_eq_true rfl) dL_law_1373 ⟨by show cells ≤ 600002; omega, by show slots ≤ 7302198; omega⟩ (fun H locs hI => ?_)
  have hI : zLw st D ad cy am cm ao co μ o σ181 s H locs := zI.ar hI
  refine lv_aload_n hx hb dL_law_1376 rfl (lv_at hl 2 rfl) ?_
  refine lv_aload_n hx hb dL_law_1377 rfl (lv_at hl 4 rfl) ?_
  refine lv_iload hx hb dL_law_1378 (lv_at hl 0 rfl) ?_
  refine lv_iconst (v := 1) hx hb dL_law_1380 (by decide) ?_
  refine lv_iadd hx hb dL_law_1381 ?_
  obtain ⟨q, hf⟩ := zck_use hf
  refine va_sld hx hb hX hbl hbA hI.2.2.2.1 (zin_in q) dL_law_1382 ?_
  refine lv_aload_n hx hb dL_law_1383 rfl (lv_at hl 4 rfl) ?_
  refine lv_iload hx hb dL_law_1384 (lv_at hl 0 rfl) ?_
  refine lv_iconst (v := 2) hx hb dL_law_1386 (by decide) ?_
  refine lv_iadd hx hb dL_law_1387 ?_
  obtain ⟨q, hf⟩ := zck_use hf
  refine va_sld hx hb hX hbl hbA hI.2.2.2.1 (zin_in q) dL_law_1388 ?_
  obtain ⟨μ182, g182, hf⟩ := zbu_use hf
  refine z_fcallVu (u := zHo ao co o ++ wC ad cy σ181) (w := wM am cm) (As := [.int (xs (x4 + 1).toNatClampNeg), .int (xs (x4 + 2).toNatClampNeg)]) (rest := []) hC (zI.swap hI) (zKM hI.1) (cX12_out_met st l D am cm μ (xs (x4 + 1).toNatClampNeg) (xs (x4 + 2).toNatClampNeg) _ g182) (zgV zw87_9 zw87_10 zw87_11 zw1_5 zw87_12) rfl ⟨rfl, rfl⟩ 2 hdX12_out ⟨Nat.le_of_ble_eq_true rfl, Nat.le_of_ble_eq_true rfl⟩ rfl rfl (wM_e0 am cm μ) rfl hl rfl (Nat.le_of_ble_eq_true rfl) dL_law_1389 ⟨by show cells ≤ 600002; omega, by show slots ≤ 7302198; omega⟩ (fun H locs hI => ?_)
  have hI : zLw st D ad cy am cm ao co μ182 o σ181 s H locs := zI.swap hI
  refine lv_goto (tgt := 1946) hx hb dL_law_1392 (by decide) ?_
  obtain ⟨v183, ev183⟩ : ∃ z : Int32, z = x4 + 8 := ⟨_, rfl⟩
  replace hf := zbv_use ev183 hf
  refine lv_iinc (v := v183) (lv' := [(4, .int v183), (3, .ref ao), (2, .ref (am 0)), (1, .ref (ad 0)), (0, .ref b)]) hx hb dL_law_1946 hl (k := 0) rfl (by rw [ev183]; rfl) (by decide) rfl (fun ls hl => ?_)
  refine lv_goto (tgt := 33) hx hb dL_law_1949 (by decide) ?_
  exact hk _ _ _ _ _ _ _ _ _ (by omega) (by omega) hI (lv_sub hl [0, 1, 2, 3, 4] rfl) hf
def fLaw_1395 (xs : Nat → Int32) (L : Nat) (kn : zSt → (Nat → Int64) → zSt → Int32 → Option Int32) (μ : zSt) (o : Nat → Int64) (σ : zSt) (x4 : Int32) : Option Int32 :=
  zck (zin (x4 + 1) L) (zbh (fL_battery o σ (xs (x4 + 1).toNatClampNeg)) (fun o184 σ184 v185 =>
  zck (zin (x4 + 1) L) (zbi (fX12_battery μ (xs (x4 + 1).toNatClampNeg)) (fun μ186 v187 =>
  zbi (fX12_thrown μ186 ) (fun μ188 v189 =>
  if v189 = v185 then if v185 = 0 then if (lg_cmp (o184 0) (v187.toInt64)) = 0 then zbv (x4 + 8) (fun v191 => kn μ188 o184 σ184 v191) else
  some 0 else
  zbv (x4 + 8) (fun v190 => kn μ188 o184 σ184 v190) else
  some 0)))))
set_option maxRecDepth 20000 in
set_option maxHeartbeats 4000000 in
theorem bLaw_1395 {p : Program} {l : Launch} {e : Env} {s : State} {m : MethodId} {below : List Frame} {meth : Method} {c : Code} {st : Nat → Nat} {D : va_G} {b L : Nat} {xs : Nat → Int32} {ad am : Nat → Nat} {cy cm : Nat → ClassId} {ao : Nat} {co : ClassId} (hC : zC p m c cL_law 8 s #[Value.ref b] wzL_law RL meth ret) (hst : l.stackTraces = false) (hX : va_X b L xs s s.heap) (hbl : b < s.heap.size) (hbA : ¬ (fun q : Nat => s.heap.size ≤ q) b) {n : Nat} {kn : zSt → (Nat → Int64) → zSt → Int32 → Option Int32} (hk : ∀ (H : Heap) (locs : List Loc) (μ : zSt) (o : Nat → Int64) (σ : zSt) (ls : Array Slot) (x4 : Int32) (cells slots : Nat), cells + n ≤ 600002 → slots + 6 * n ≤ 7302198 → zLw st D ad cy am cm ao co μ o σ s H locs → lv_has ls 8 [(4, .int x4), (3, .ref ao), (2, .ref (am 0)), (1, .ref (ad 0)), (0, .ref b)] → kn μ o σ x4 = some 1 → W p l e room_1 s m #[Value.ref b] below meth c H locs cells slots (lw_Z below #[Value.ref b] s) (F0 m 33 ls [])) {H : Heap} {locs : List Loc} {μ : zSt} {o : Nat → Int64} {σ : zSt} {ls : Array Slot} {x4 : Int32} {cells slots : Nat} (hc : cells + (n + 1) ≤ 600002) (hs : slots + 6 * (n + 1) ≤ 7302198) (hI : zLw st D ad cy am cm ao co μ o σ s H locs) (hl : lv_has ls 8 [(4, .int x4), (3, .ref ao), (2, .ref (am 0)), (1, .ref (ad 0)), (0, .ref b)]) (hf : fLaw_1395 xs L kn μ o σ x4 = some 1) : W p l e room_1 s m #[Value.ref b] below meth c H locs cells slots (lw_Z below #[Value.ref b] s) (F0 m 1395 ls []) := by
  have hx := hC.1
  have hb := hC.2.1
  unfold fLaw_1395 at hf
  refine lv_aload_n hx hb dL_law_1395 rfl (lv_at hl 3 rfl) ?_
  refine lv_aload_n hx hb dL_law_1396 rfl (lv_at hl 4 rfl) ?_
  refine lv_iload hx hb dL_law_1397 (lv_at hl 0 rfl) ?_
  refine lv_iconst (v := 1) hx hb dL_law_1399 (by decide) ?_
  refine lv_iadd hx hb dL_law_1400 ?_
  obtain ⟨q, hf⟩ := zck_use hf
  refine va_sld hx hb hX hbl hbA hI.2.2.2.1 (zin_in q) dL_law_1401 ?_
  refine lv_aload_n hx hb dL_law_1402 rfl (lv_at hl 1 rfl) ?_
  obtain ⟨o184, σ184, v185, g184, hf⟩ := zbh_use hf
  refine z_fcallH (u := wM am cm μ) (w := fun x : zHs => zHo ao co x.1 ++ wC ad cy x.2) (x := (o, σ)) (As := [.ref (ad 0), .int (xs (x4 + 1).toNatClampNeg), .ref ao]) (rest := []) hC hI (zKH hI.1) (cL_battery_met st l hst D ad cy ao co o σ (xs (x4 + 1).toNatClampNeg) _ g184) (zgS zw87_13 zw87_14 zw1_10 zw87_15) rfl ⟨rfl, rfl⟩ 3 hdL_battery ⟨Nat.le_of_ble_eq_true rfl, Nat.le_of_ble_eq_true rfl⟩ rfl hl rfl (Nat.le_of_ble_eq_true rfl) dL_law_1403 ⟨by show cells + 1 ≤ 600002; omega, by show slots + 6 ≤ 7302198; omega⟩ (fun H locs hI => ?_)
  have hI : zLw st D ad cy am cm ao co μ o184 σ184 s H locs := hI
  refine lv_istore (lv' := [(5, .int v185), (4, .int x4), (3, .ref ao), (2, .ref (am 0)), (1, .ref (ad 0)), (0, .ref b)]) hx hb dL_law_1406 hl (by decide) rfl (fun ls hl => ?_)
  refine lv_aload_n hx hb dL_law_1408 rfl (lv_at hl 3 rfl) ?_
  refine lv_aload_n hx hb dL_law_1409 rfl (lv_at hl 5 rfl) ?_
  refine lv_iload hx hb dL_law_1410 (lv_at hl 1 rfl) ?_
  refine lv_iconst (v := 1) hx hb dL_law_1412 (by decide) ?_
  refine lv_iadd hx hb dL_law_1413 ?_
  obtain ⟨q, hf⟩ := zck_use hf
  refine va_sld hx hb hX hbl hbA hI.2.2.2.1 (zin_in q) dL_law_1414 ?_
  obtain ⟨μ186, v187, g186, hf⟩ := zbi_use hf
  refine z_fcallVi (u := zHo ao co o184 ++ wC ad cy σ184) (w := wM am cm) (As := [.int (xs (x4 + 1).toNatClampNeg)]) (rest := []) hC (zI.swap hI) (zKM hI.1) (cX12_battery_met st l D am cm μ (xs (x4 + 1).toNatClampNeg) _ g186) (zgV zw88_1 zw88_2 zw88_3 zw1_5 zw88_4) rfl ⟨rfl, rfl⟩ 1 hdX12_battery ⟨Nat.le_of_ble_eq_true rfl, Nat.le_of_ble_eq_true rfl⟩ rfl rfl (wM_e0 am cm μ) rfl hl rfl (Nat.le_of_ble_eq_true rfl) dL_law_1415 ⟨by show cells + 1 ≤ 600002; omega, by show slots + 6 ≤ 7302198; omega⟩ (fun H locs hI => ?_)
  have hI : zLw st D ad cy am cm ao co μ186 o184 σ184 s H locs := zI.swap hI
  refine lv_istore (lv' := [(6, .int v187), (5, .int v185), (4, .int x4), (3, .ref ao), (2, .ref (am 0)), (1, .ref (ad 0)), (0, .ref b)]) hx hb dL_law_1418 hl (by decide) rfl (fun ls hl => ?_)
  refine lv_aload_n hx hb dL_law_1420 rfl (lv_at hl 4 rfl) ?_
  obtain ⟨μ188, v189, g188, hf⟩ := zbi_use hf
  refine z_fcallVi (u := zHo ao co o184 ++ wC ad cy σ184) (w := wM am cm) (As := []) (rest := []) hC (zI.swap hI) (zKM hI.1) (cX12_thrown_met st l D am cm μ186  _ g188) (zgV zw12_2 zw12_3 zw12_4 zw1_5 zw12_5) rfl ⟨rfl, rfl⟩ 0 hdX12_thrown ⟨Nat.le_of_ble_eq_true rfl, Nat.le_of_ble_eq_true rfl⟩ rfl rfl (wM_e0 am cm μ186) rfl hl rfl (Nat.le_of_ble_eq_true rfl) dL_law_1421 ⟨by show cells + 1 ≤ 600002; omega, by show slots + 6 ≤ 7302198; omega⟩ (fun H locs hI => ?_)
  have hI : zLw st D ad cy am cm ao co μ188 o184 σ184 s H locs := zI.swap hI
  refine lv_iload hx hb dL_law_1424 (lv_at hl 1 rfl) ?_
  refine lv_icmp_eq (tgt := 1431) hx hb dL_law_1426 (by decide) (fun q => ?_) (fun q => ?_)
  · replace hf := zif_t q hf
    refine lv_iload hx hb dL_law_1431 (lv_at hl 1 rfl) ?_
    refine lv_if_ne (tgt := 1448) hx hb dL_law_1433 (by decide) (fun q => ?_) (fun q => ?_)
    · replace hf := zif_f q hf
      refine lv_goto (tgt := 1946) hx hb dL_law_1448 (by decide) ?_
      obtain ⟨v190, ev190⟩ : ∃ z : Int32, z = x4 + 8 := ⟨_, rfl⟩
      replace hf := zbv_use ev190 hf
      refine lv_iinc (v := v190) (lv' := [(4, .int v190), (6, .int v187), (5, .int v185), (3, .ref ao), (2, .ref (am 0)), (1, .ref (ad 0)), (0, .ref b)]) hx hb dL_law_1946 hl (k := 2) rfl (by rw [ev190]; rfl) (by decide) rfl (fun ls hl => ?_)
      refine lv_goto (tgt := 33) hx hb dL_law_1949 (by decide) ?_
      exact hk _ _ _ _ _ _ _ _ _ (by omega) (by omega) hI (lv_sub hl [0, 3, 4, 5, 6] rfl) hf
    replace hf := zif_t q hf
    refine lv_aload_n hx hb dL_law_1436 rfl (lv_at hl 3 rfl) ?_
    refine lv_iconst (v := 0) hx hb dL_law_1437 (by decide) ?_
    refine z_lald (i := 0) hC hI 27 63 (zLo_e am cm ao co μ188 o184 _) (zLo_t cy cm co) (by decide) dL_law_1438 ?_
    refine lv_iload hx hb dL_law_1439 (lv_at hl 0 rfl) ?_
    refine lv_i2l (v := v187.toInt64) hx hb dL_law_1441 rfl ?_
    refine W.lcmp hx hb dL_law_1442 ?_
    refine lv_if_eq (tgt := 1448) hx hb dL_law_1443 (by decide) (fun q => ?_) (fun q => ?_)
    · replace hf := zif_t q hf
      refine lv_goto (tgt := 1946) hx hb dL_law_1448 (by decide) ?_
      obtain ⟨v191, ev191⟩ : ∃ z : Int32, z = x4 + 8 := ⟨_, rfl⟩
      replace hf := zbv_use ev191 hf
      refine lv_iinc (v := v191) (lv' := [(4, .int v191), (6, .int v187), (5, .int v185), (3, .ref ao), (2, .ref (am 0)), (1, .ref (ad 0)), (0, .ref b)]) hx hb dL_law_1946 hl (k := 2) rfl (by rw [ev191]; rfl) (by decide) rfl (fun ls hl => ?_)
      refine lv_goto (tgt := 33) hx hb dL_law_1949 (by decide) ?_
      exact hk _ _ _ _ _ _ _ _ _ (by omega) (by omega) hI (lv_sub hl [0, 3, 4, 5, 6] rfl) hf
    replace hf := zif_f q hf
    refine lv_iconst (v := 0) hx hb dL_law_1446 (by decide) ?_
    exact absurd (Option.some.inj hf) (by decide)
  replace hf := zif_f q hf
  refine lv_iconst (v := 0) hx hb dL_law_1429 (by decide) ?_
  exact absurd (Option.some.inj hf) (by decide)
def fLaw_1451 (xs : Nat → Int32) (L : Nat) (kn : zSt → (Nat → Int64) → zSt → Int32 → Option Int32) (μ : zSt) (o : Nat → Int64) (σ : zSt) (x4 : Int32) : Option Int32 :=
  zbu (fX11_wipe σ ) (fun σ192 =>
  zbu (fX12_wipe μ ) (fun μ193 =>
  zbv (x4 + 8) (fun v194 => kn μ193 o σ192 v194)))
set_option maxRecDepth 20000 in
set_option maxHeartbeats 4000000 in
theorem bLaw_1451 {p : Program} {l : Launch} {e : Env} {s : State} {m : MethodId} {below : List Frame} {meth : Method} {c : Code} {st : Nat → Nat} {D : va_G} {b L : Nat} {xs : Nat → Int32} {ad am : Nat → Nat} {cy cm : Nat → ClassId} {ao : Nat} {co : ClassId} (hC : zC p m c cL_law 8 s #[Value.ref b] wzL_law RL meth ret) (hst : l.stackTraces = false) (hX : va_X b L xs s s.heap) (hbl : b < s.heap.size) (hbA : ¬ (fun q : Nat => s.heap.size ≤ q) b) {n : Nat} {kn : zSt → (Nat → Int64) → zSt → Int32 → Option Int32} (hk : ∀ (H : Heap) (locs : List Loc) (μ : zSt) (o : Nat → Int64) (σ : zSt) (ls : Array Slot) (x4 : Int32) (cells slots : Nat), cells + n ≤ 600002 → slots + 6 * n ≤ 7302198 → zLw st D ad cy am cm ao co μ o σ s H locs → lv_has ls 8 [(4, .int x4), (3, .ref ao), (2, .ref (am 0)), (1, .ref (ad 0)), (0, .ref b)] → kn μ o σ x4 = some 1 → W p l e room_1 s m #[Value.ref b] below meth c H locs cells slots (lw_Z below #[Value.ref b] s) (F0 m 33 ls [])) {H : Heap} {locs : List Loc} {μ : zSt} {o : Nat → Int64} {σ : zSt} {ls : Array Slot} {x4 : Int32} {cells slots : Nat} (hc : cells + (n + 1) ≤ 600002) (hs : slots + 6 * (n + 1) ≤ 7302198) (hI : zLw st D ad cy am cm ao co μ o σ s H locs) (hl : lv_has ls 8 [(4, .int x4), (3, .ref ao), (2, .ref (am 0)), (1, .ref (ad 0)), (0, .ref b)]) (hf : fLaw_1451 xs L kn μ o σ x4 = some 1) : W p l e room_1 s m #[Value.ref b] below meth c H locs cells slots (lw_Z below #[Value.ref b] s) (F0 m 1451 ls []) := by
  have hx := hC.1
  have hb := hC.2.1
  unfold fLaw_1451 at hf
  refine lv_aload_n hx hb dL_law_1451 rfl (lv_at hl 3 rfl) ?_
  obtain ⟨σ192, g192, hf⟩ := zbu_use hf
  refine z_fcallVu (u := wM am cm μ ++ zHo ao co o) (w := wC ad cy) (As := []) (rest := []) hC (zI.al hI) (zKC hI.1) (cX11_wipe_met st l D ad cy σ  _ g192) (zgV zw88_6 zw88_7 zw88_8 zw1_2 zw88_9) rfl ⟨rfl, rfl⟩ 0 hdX11_wipe ⟨Nat.le_of_ble_eq_true rfl, Nat.le_of_ble_eq_true rfl⟩ rfl rfl (wC_e0 ad cy σ) rfl hl rfl (Nat.le_of_ble_eq_true rfl) dL_law_1452 ⟨by show cells ≤ 600002; omega, by show slots ≤ 7302198; omega⟩ (fun H locs hI => ?_)
  have hI : zLw st D ad cy am cm ao co μ o σ192 s H locs := zI.ar hI
  refine lv_aload_n hx hb dL_law_1455 rfl (lv_at hl 2 rfl) ?_
  obtain ⟨μ193, g193, hf⟩ := zbu_use hf
  refine z_fcallVu (u := zHo ao co o ++ wC ad cy σ192) (w := wM am cm) (As := []) (rest := []) hC (zI.swap hI) (zKM hI.1) (cX12_wipe_met st l D am cm μ  _ g193) (zgV zw88_14 zw88_15 zw88_16 zw1_5 zw88_17) rfl ⟨rfl, rfl⟩ 0 hdX12_wipe ⟨Nat.le_of_ble_eq_true rfl, Nat.le_of_ble_eq_true rfl⟩ rfl rfl (wM_e0 am cm μ) rfl hl rfl (Nat.le_of_ble_eq_true rfl) dL_law_1456 ⟨by show cells ≤ 600002; omega, by show slots ≤ 7302198; omega⟩ (fun H locs hI => ?_)
  have hI : zLw st D ad cy am cm ao co μ193 o σ192 s H locs := zI.swap hI
  refine lv_goto (tgt := 1946) hx hb dL_law_1459 (by decide) ?_
  obtain ⟨v194, ev194⟩ : ∃ z : Int32, z = x4 + 8 := ⟨_, rfl⟩
  replace hf := zbv_use ev194 hf
  refine lv_iinc (v := v194) (lv' := [(4, .int v194), (3, .ref ao), (2, .ref (am 0)), (1, .ref (ad 0)), (0, .ref b)]) hx hb dL_law_1946 hl (k := 0) rfl (by rw [ev194]; rfl) (by decide) rfl (fun ls hl => ?_)
  refine lv_goto (tgt := 33) hx hb dL_law_1949 (by decide) ?_
  exact hk _ _ _ _ _ _ _ _ _ (by omega) (by omega) hI (lv_sub hl [0, 1, 2, 3, 4] rfl) hf
def fLaw_1462 (xs : Nat → Int32) (L : Nat) (kn : zSt → (Nat → Int64) → zSt → Int32 → Option Int32) (μ : zSt) (o : Nat → Int64) (σ : zSt) (x4 : Int32) : Option Int32 :=
  zck (zin (x4 + 1) L) (zbl (fX11_video σ (xs (x4 + 1).toNatClampNeg)) (fun σ195 v196 =>
  zck (zin (x4 + 1) L) (zbl (fX12_video μ (xs (x4 + 1).toNatClampNeg)) (fun μ197 v198 =>
  if (lg_cmp v196 v198) = 0 then zbv (x4 + 8) (fun v199 => kn μ197 o σ195 v199) else
  some 0))))
set_option maxRecDepth 20000 in
set_option maxHeartbeats 4000000 in
theorem bLaw_1462 {p : Program} {l : Launch} {e : Env} {s : State} {m : MethodId} {below : List Frame} {meth : Method} {c : Code} {st : Nat → Nat} {D : va_G} {b L : Nat} {xs : Nat → Int32} {ad am : Nat → Nat} {cy cm : Nat → ClassId} {ao : Nat} {co : ClassId} (hC : zC p m c cL_law 8 s #[Value.ref b] wzL_law RL meth ret) (hst : l.stackTraces = false) (hX : va_X b L xs s s.heap) (hbl : b < s.heap.size) (hbA : ¬ (fun q : Nat => s.heap.size ≤ q) b) {n : Nat} {kn : zSt → (Nat → Int64) → zSt → Int32 → Option Int32} (hk : ∀ (H : Heap) (locs : List Loc) (μ : zSt) (o : Nat → Int64) (σ : zSt) (ls : Array Slot) (x4 : Int32) (cells slots : Nat), cells + n ≤ 600002 → slots + 6 * n ≤ 7302198 → zLw st D ad cy am cm ao co μ o σ s H locs → lv_has ls 8 [(4, .int x4), (3, .ref ao), (2, .ref (am 0)), (1, .ref (ad 0)), (0, .ref b)] → kn μ o σ x4 = some 1 → W p l e room_1 s m #[Value.ref b] below meth c H locs cells slots (lw_Z below #[Value.ref b] s) (F0 m 33 ls [])) {H : Heap} {locs : List Loc} {μ : zSt} {o : Nat → Int64} {σ : zSt} {ls : Array Slot} {x4 : Int32} {cells slots : Nat} (hc : cells + (n + 1) ≤ 600002) (hs : slots + 6 * (n + 1) ≤ 7302198) (hI : zLw st D ad cy am cm ao co μ o σ s H locs) (hl : lv_has ls 8 [(4, .int x4), (3, .ref ao), (2, .ref (am 0)), (1, .ref (ad 0)), (0, .ref b)]) (hf : fLaw_1462 xs L kn μ o σ x4 = some 1) : W p l e room_1 s m #[Value.ref b] below meth c H locs cells slots (lw_Z below #[Value.ref b] s) (F0 m 1462 ls []) := by
  have hx := hC.1
  have hb := hC.2.1
  unfold fLaw_1462 at hf
  refine lv_aload_n hx hb dL_law_1462 rfl (lv_at hl 3 rfl) ?_
  refine lv_aload_n hx hb dL_law_1463 rfl (lv_at hl 4 rfl) ?_
  refine lv_iload hx hb dL_law_1464 (lv_at hl 0 rfl) ?_
  refine lv_iconst (v := 1) hx hb dL_law_1466 (by decide) ?_
  refine lv_iadd hx hb dL_law_1467 ?_
  obtain ⟨q, hf⟩ := zck_use hf
  refine va_sld hx hb hX hbl hbA hI.2.2.2.1 (zin_in q) dL_law_1468 ?_
  obtain ⟨σ195, v196, g195, hf⟩ := zbl_use hf
  refine z_fcallVl (u := wM am cm μ ++ zHo ao co o) (w := wC ad cy) (As := [.int (xs (x4 + 1).toNatClampNeg)]) (rest := []) hC (zI.al hI) (zKC hI.1) (cX11_video_met st l D ad cy σ (xs (x4 + 1).toNatClampNeg) _ g195) (zgV zw88_18 zw88_19 zw88_20 zw1_2 zw88_21) rfl ⟨rfl, rfl⟩ 1 hdX11_video ⟨Nat.le_of_ble_eq_true rfl, Nat.le_of_ble_eq_true rfl⟩ rfl rfl (wC_e0 ad cy σ) rfl hl rfl (Nat.le_of_ble_eq_true rfl) dL_law_1469 ⟨by show cells ≤ 600002; omega, by show slots ≤ 7302198; omega⟩ (fun H locs hI => ?_)
  have hI : zLw st D ad cy am cm ao co μ o σ195 s H locs := zI.ar hI
  refine lv_aload_n hx hb dL_law_1472 rfl (lv_at hl 2 rfl) ?_
  refine lv_aload_n hx hb dL_law_1473 rfl (lv_at hl 4 rfl) ?_
  refine lv_iload hx hb dL_law_1474 (lv_at hl 0 rfl) ?_
  refine lv_iconst (v := 1) hx hb dL_law_1476 (by decide) ?_
  refine lv_iadd hx hb dL_law_1477 ?_
  obtain ⟨q, hf⟩ := zck_use hf
  refine va_sld hx hb hX hbl hbA hI.2.2.2.1 (zin_in q) dL_law_1478 ?_
  obtain ⟨μ197, v198, g197, hf⟩ := zbl_use hf
  refine z_fcallVl (u := zHo ao co o ++ wC ad cy σ195) (w := wM am cm) (As := [.int (xs (x4 + 1).toNatClampNeg)]) (rest := [.long v196]) hC (zI.swap hI) (zKM hI.1) (cX12_video_met st l D am cm μ (xs (x4 + 1).toNatClampNeg) _ g197) (zgV zw89_2 zw89_3 zw89_4 zw1_5 zw89_5) rfl ⟨rfl, rfl⟩ 1 hdX12_video ⟨Nat.le_of_ble_eq_true rfl, Nat.le_of_ble_eq_true rfl⟩ rfl rfl (wM_e0 am cm μ) rfl hl rfl (Nat.le_of_ble_eq_true rfl) dL_law_1479 ⟨by show cells ≤ 600002; omega, by show slots ≤ 7302198; omega⟩ (fun H locs hI => ?_)
  have hI : zLw st D ad cy am cm ao co μ197 o σ195 s H locs := zI.swap hI
  refine W.lcmp hx hb dL_law_1482 ?_
  refine lv_if_eq (tgt := 1946) hx hb dL_law_1483 (by decide) (fun q => ?_) (fun q => ?_)
  · replace hf := zif_t q hf
    obtain ⟨v199, ev199⟩ : ∃ z : Int32, z = x4 + 8 := ⟨_, rfl⟩
    replace hf := zbv_use ev199 hf
    refine lv_iinc (v := v199) (lv' := [(4, .int v199), (3, .ref ao), (2, .ref (am 0)), (1, .ref (ad 0)), (0, .ref b)]) hx hb dL_law_1946 hl (k := 0) rfl (by rw [ev199]; rfl) (by decide) rfl (fun ls hl => ?_)
    refine lv_goto (tgt := 33) hx hb dL_law_1949 (by decide) ?_
    exact hk _ _ _ _ _ _ _ _ _ (by omega) (by omega) hI (lv_sub hl [0, 1, 2, 3, 4] rfl) hf
  replace hf := zif_f q hf
  refine lv_iconst (v := 0) hx hb dL_law_1486 (by decide) ?_
  exact absurd (Option.some.inj hf) (by decide)
def fLaw_1488 (xs : Nat → Int32) (L : Nat) (kn : zSt → (Nat → Int64) → zSt → Int32 → Option Int32) (μ : zSt) (o : Nat → Int64) (σ : zSt) (x4 : Int32) : Option Int32 :=
  zck (zin (x4 + 1) L) (zbh (fL_chip o σ (xs (x4 + 1).toNatClampNeg)) (fun o200 σ200 v201 =>
  zck (zin (x4 + 1) L) (zbi (fX12_chip μ (xs (x4 + 1).toNatClampNeg)) (fun μ202 v203 =>
  zbi (fX12_thrown μ202 ) (fun μ204 v205 =>
  if v205 = v201 then if v201 = 0 then if (lg_cmp (o200 0) (v203.toInt64)) = 0 then zbv (x4 + 8) (fun v207 => kn μ204 o200 σ200 v207) else
  some 0 else
  zbv (x4 + 8) (fun v206 => kn μ204 o200 σ200 v206) else
  some 0)))))
set_option maxRecDepth 20000 in
set_option maxHeartbeats 4000000 in
theorem bLaw_1488 {p : Program} {l : Launch} {e : Env} {s : State} {m : MethodId} {below : List Frame} {meth : Method} {c : Code} {st : Nat → Nat} {D : va_G} {b L : Nat} {xs : Nat → Int32} {ad am : Nat → Nat} {cy cm : Nat → ClassId} {ao : Nat} {co : ClassId} (hC : zC p m c cL_law 8 s #[Value.ref b] wzL_law RL meth ret) (hst : l.stackTraces = false) (hX : va_X b L xs s s.heap) (hbl : b < s.heap.size) (hbA : ¬ (fun q : Nat => s.heap.size ≤ q) b) {n : Nat} {kn : zSt → (Nat → Int64) → zSt → Int32 → Option Int32} (hk : ∀ (H : Heap) (locs : List Loc) (μ : zSt) (o : Nat → Int64) (σ : zSt) (ls : Array Slot) (x4 : Int32) (cells slots : Nat), cells + n ≤ 600002 → slots + 6 * n ≤ 7302198 → zLw st D ad cy am cm ao co μ o σ s H locs → lv_has ls 8 [(4, .int x4), (3, .ref ao), (2, .ref (am 0)), (1, .ref (ad 0)), (0, .ref b)] → kn μ o σ x4 = some 1 → W p l e room_1 s m #[Value.ref b] below meth c H locs cells slots (lw_Z below #[Value.ref b] s) (F0 m 33 ls [])) {H : Heap} {locs : List Loc} {μ : zSt} {o : Nat → Int64} {σ : zSt} {ls : Array Slot} {x4 : Int32} {cells slots : Nat} (hc : cells + (n + 1) ≤ 600002) (hs : slots + 6 * (n + 1) ≤ 7302198) (hI : zLw st D ad cy am cm ao co μ o σ s H locs) (hl : lv_has ls 8 [(4, .int x4), (3, .ref ao), (2, .ref (am 0)), (1, .ref (ad 0)), (0, .ref b)]) (hf : fLaw_1488 xs L kn μ o σ x4 = some 1) : W p l e room_1 s m #[Value.ref b] below meth c H locs cells slots (lw_Z below #[Value.ref b] s) (F0 m 1488 ls []) := by
  have hx := hC.1
  have hb := hC.2.1
  unfold fLaw_1488 at hf
  refine lv_aload_n hx hb dL_law_1488 rfl (lv_at hl 3 rfl) ?_
  refine lv_aload_n hx hb dL_law_1489 rfl (lv_at hl 4 rfl) ?_
  refine lv_iload hx hb dL_law_1490 (lv_at hl 0 rfl) ?_
  refine lv_iconst (v := 1) hx hb dL_law_1492 (by decide) ?_
  refine lv_iadd hx hb dL_law_1493 ?_
  obtain ⟨q, hf⟩ := zck_use hf
  refine va_sld hx hb hX hbl hbA hI.2.2.2.1 (zin_in q) dL_law_1494 ?_
  refine lv_aload_n hx hb dL_law_1495 rfl (lv_at hl 1 rfl) ?_
  obtain ⟨o200, σ200, v201, g200, hf⟩ := zbh_use hf
  refine z_fcallH (u := wM am cm μ) (w := fun x : zHs => zHo ao co x.1 ++ wC ad cy x.2) (x := (o, σ)) (As := [.ref (ad 0), .int (xs (x4 + 1).toNatClampNeg), .ref ao]) (rest := []) hC hI (zKH hI.1) (cL_chip_met st l hst D ad cy ao co o σ (xs (x4 + 1).toNatClampNeg) _ g200) (zgS zw89_6 zw89_7 zw1_10 zw89_8) rfl ⟨rfl, rfl⟩ 3 hdL_chip ⟨Nat.le_of_ble_eq_true rfl, Nat.le_of_ble_eq_true rfl⟩ rfl hl rfl (Nat.le_of_ble_eq_true rfl) dL_law_1496 ⟨by show cells + 1 ≤ 600002; omega, by show slots + 6 ≤ 7302198; omega⟩ (fun H locs hI => ?_)
  have hI : zLw st D ad cy am cm ao co μ o200 σ200 s H locs := hI
  refine lv_istore (lv' := [(5, .int v201), (4, .int x4), (3, .ref ao), (2, .ref (am 0)), (1, .ref (ad 0)), (0, .ref b)]) hx hb dL_law_1499 hl (by decide) rfl (fun ls hl => ?_)
  refine lv_aload_n hx hb dL_law_1501 rfl (lv_at hl 3 rfl) ?_
  refine lv_aload_n hx hb dL_law_1502 rfl (lv_at hl 5 rfl) ?_
  refine lv_iload hx hb dL_law_1503 (lv_at hl 1 rfl) ?_
  refine lv_iconst (v := 1) hx hb dL_law_1505 (by decide) ?_
  refine lv_iadd hx hb dL_law_1506 ?_
  obtain ⟨q, hf⟩ := zck_use hf
  refine va_sld hx hb hX hbl hbA hI.2.2.2.1 (zin_in q) dL_law_1507 ?_
  obtain ⟨μ202, v203, g202, hf⟩ := zbi_use hf
  refine z_fcallVi (u := zHo ao co o200 ++ wC ad cy σ200) (w := wM am cm) (As := [.int (xs (x4 + 1).toNatClampNeg)]) (rest := []) hC (zI.swap hI) (zKM hI.1) (cX12_chip_met st l D am cm μ (xs (x4 + 1).toNatClampNeg) _ g202) (zgV zw90_1 zw90_2 zw90_3 zw1_5 zw90_4) rfl ⟨rfl, rfl⟩ 1 hdX12_chip ⟨Nat.le_of_ble_eq_true rfl, Nat.le_of_ble_eq_true rfl⟩ rfl rfl (wM_e0 am cm μ) rfl hl rfl (Nat.le_of_ble_eq_true rfl) dL_law_1508 ⟨by show cells + 1 ≤ 600002; omega, by show slots + 6 ≤ 7302198; omega⟩ (fun H locs hI => ?_)
  have hI : zLw st D ad cy am cm ao co μ202 o200 σ200 s H locs := zI.swap hI
  refine lv_istore (lv' := [(6, .int v203), (5, .int v201), (4, .int x4), (3, .ref ao), (2, .ref (am 0)), (1, .ref (ad 0)), (0, .ref b)]) hx hb dL_law_1511 hl (by decide) rfl (fun ls hl => ?_)
  refine lv_aload_n hx hb dL_law_1513 rfl (lv_at hl 4 rfl) ?_
  obtain ⟨μ204, v205, g204, hf⟩ := zbi_use hf
  refine z_fcallVi (u := zHo ao co o200 ++ wC ad cy σ200) (w := wM am cm) (As := []) (rest := []) hC (zI.swap hI) (zKM hI.1) (cX12_thrown_met st l D am cm μ202  _ g204) (zgV zw12_2 zw12_3 zw12_4 zw1_5 zw12_5) rfl ⟨rfl, rfl⟩ 0 hdX12_thrown ⟨Nat.le_of_ble_eq_true rfl, Nat.le_of_ble_eq_true rfl⟩ rfl rfl (wM_e0 am cm μ202) rfl hl rfl (Nat.le_of_ble_eq_true rfl) dL_law_1514 ⟨by show cells + 1 ≤ 600002; omega, by show slots + 6 ≤ 7302198; omega⟩ (fun H locs hI => ?_)
  have hI : zLw st D ad cy am cm ao co μ204 o200 σ200 s H locs := zI.swap hI
  refine lv_iload hx hb dL_law_1517 (lv_at hl 1 rfl) ?_
  refine lv_icmp_eq (tgt := 1524) hx hb dL_law_1519 (by decide) (fun q => ?_) (fun q => ?_)
  · replace hf := zif_t q hf
    refine lv_iload hx hb dL_law_1524 (lv_at hl 1 rfl) ?_
    refine lv_if_ne (tgt := 1541) hx hb dL_law_1526 (by decide) (fun q => ?_) (fun q => ?_)
    · replace hf := zif_f q hf
      refine lv_goto (tgt := 1946) hx hb dL_law_1541 (by decide) ?_
      obtain ⟨v206, ev206⟩ : ∃ z : Int32, z = x4 + 8 := ⟨_, rfl⟩
      replace hf := zbv_use ev206 hf
      refine lv_iinc (v := v206) (lv' := [(4, .int v206), (6, .int v203), (5, .int v201), (3, .ref ao), (2, .ref (am 0)), (1, .ref (ad 0)), (0, .ref b)]) hx hb dL_law_1946 hl (k := 2) rfl (by rw [ev206]; rfl) (by decide) rfl (fun ls hl => ?_)
      refine lv_goto (tgt := 33) hx hb dL_law_1949 (by decide) ?_
      exact hk _ _ _ _ _ _ _ _ _ (by omega) (by omega) hI (lv_sub hl [0, 3, 4, 5, 6] rfl) hf
    replace hf := zif_t q hf
    refine lv_aload_n hx hb dL_law_1529 rfl (lv_at hl 3 rfl) ?_
    refine lv_iconst (v := 0) hx hb dL_law_1530 (by decide) ?_
    refine z_lald (i := 0) hC hI 27 63 (zLo_e am cm ao co μ204 o200 _) (zLo_t cy cm co) (by decide) dL_law_1531 ?_
    refine lv_iload hx hb dL_law_1532 (lv_at hl 0 rfl) ?_
    refine lv_i2l (v := v203.toInt64) hx hb dL_law_1534 rfl ?_
    refine W.lcmp hx hb dL_law_1535 ?_
    refine lv_if_eq (tgt := 1541) hx hb dL_law_1536 (by decide) (fun q => ?_) (fun q => ?_)
    · replace hf := zif_t q hf
      refine lv_goto (tgt := 1946) hx hb dL_law_1541 (by decide) ?_
      obtain ⟨v207, ev207⟩ : ∃ z : Int32, z = x4 + 8 := ⟨_, rfl⟩
      replace hf := zbv_use ev207 hf
      refine lv_iinc (v := v207) (lv' := [(4, .int v207), (6, .int v203), (5, .int v201), (3, .ref ao), (2, .ref (am 0)), (1, .ref (ad 0)), (0, .ref b)]) hx hb dL_law_1946 hl (k := 2) rfl (by rw [ev207]; rfl) (by decide) rfl (fun ls hl => ?_)
      refine lv_goto (tgt := 33) hx hb dL_law_1949 (by decide) ?_
      exact hk _ _ _ _ _ _ _ _ _ (by omega) (by omega) hI (lv_sub hl [0, 3, 4, 5, 6] rfl) hf
    replace hf := zif_f q hf
    refine lv_iconst (v := 0) hx hb dL_law_1539 (by decide) ?_
    exact absurd (Option.some.inj hf) (by decide)
  replace hf := zif_f q hf
  refine lv_iconst (v := 0) hx hb dL_law_1522 (by decide) ?_
  exact absurd (Option.some.inj hf) (by decide)
def fLaw_1544 (xs : Nat → Int32) (L : Nat) (kn : zSt → (Nat → Int64) → zSt → Int32 → Option Int32) (μ : zSt) (o : Nat → Int64) (σ : zSt) (x4 : Int32) : Option Int32 :=
  zck (zin (x4 + 1) L) (zck (zin (x4 + 2) L) (zbh (fL_dot o σ (xs (x4 + 1).toNatClampNeg) (xs (x4 + 2).toNatClampNeg)) (fun o208 σ208 v209 =>
  zck (zin (x4 + 1) L) (zck (zin (x4 + 2) L) (zbi (fX12_dot μ (xs (x4 + 1).toNatClampNeg) (xs (x4 + 2).toNatClampNeg)) (fun μ210 v211 =>
  zbi (fX12_thrown μ210 ) (fun μ212 v213 =>
  if v213 = v209 then if v209 = 0 then if (lg_cmp (o208 0) (v211.toInt64)) = 0 then zbv (x4 + 8) (fun v215 => kn μ212 o208 σ208 v215) else
  some 0 else
  zbv (x4 + 8) (fun v214 => kn μ212 o208 σ208 v214) else
  some 0)))))))
set_option maxRecDepth 20000 in
set_option maxHeartbeats 4000000 in
theorem bLaw_1544 {p : Program} {l : Launch} {e : Env} {s : State} {m : MethodId} {below : List Frame} {meth : Method} {c : Code} {st : Nat → Nat} {D : va_G} {b L : Nat} {xs : Nat → Int32} {ad am : Nat → Nat} {cy cm : Nat → ClassId} {ao : Nat} {co : ClassId} (hC : zC p m c cL_law 8 s #[Value.ref b] wzL_law RL meth ret) (hst : l.stackTraces = false) (hX : va_X b L xs s s.heap) (hbl : b < s.heap.size) (hbA : ¬ (fun q : Nat => s.heap.size ≤ q) b) {n : Nat} {kn : zSt → (Nat → Int64) → zSt → Int32 → Option Int32} (hk : ∀ (H : Heap) (locs : List Loc) (μ : zSt) (o : Nat → Int64) (σ : zSt) (ls : Array Slot) (x4 : Int32) (cells slots : Nat), cells + n ≤ 600002 → slots + 6 * n ≤ 7302198 → zLw st D ad cy am cm ao co μ o σ s H locs → lv_has ls 8 [(4, .int x4), (3, .ref ao), (2, .ref (am 0)), (1, .ref (ad 0)), (0, .ref b)] → kn μ o σ x4 = some 1 → W p l e room_1 s m #[Value.ref b] below meth c H locs cells slots (lw_Z below #[Value.ref b] s) (F0 m 33 ls [])) {H : Heap} {locs : List Loc} {μ : zSt} {o : Nat → Int64} {σ : zSt} {ls : Array Slot} {x4 : Int32} {cells slots : Nat} (hc : cells + (n + 1) ≤ 600002) (hs : slots + 6 * (n + 1) ≤ 7302198) (hI : zLw st D ad cy am cm ao co μ o σ s H locs) (hl : lv_has ls 8 [(4, .int x4), (3, .ref ao), (2, .ref (am 0)), (1, .ref (ad 0)), (0, .ref b)]) (hf : fLaw_1544 xs L kn μ o σ x4 = some 1) : W p l e room_1 s m #[Value.ref b] below meth c H locs cells slots (lw_Z below #[Value.ref b] s) (F0 m 1544 ls []) := by
  have hx := hC.1
  have hb := hC.2.1
  unfold fLaw_1544 at hf
  refine lv_aload_n hx hb dL_law_1544 rfl (lv_at hl 3 rfl) ?_
  refine lv_aload_n hx hb dL_law_1545 rfl (lv_at hl 4 rfl) ?_
  refine lv_iload hx hb dL_law_1546 (lv_at hl 0 rfl) ?_
  refine lv_iconst (v := 1) hx hb dL_law_1548 (by decide) ?_
  refine lv_iadd hx hb dL_law_1549 ?_
  obtain ⟨q, hf⟩ := zck_use hf
  refine va_sld hx hb hX hbl hbA hI.2.2.2.1 (zin_in q) dL_law_1550 ?_
  refine lv_aload_n hx hb dL_law_1551 rfl (lv_at hl 4 rfl) ?_
  refine lv_iload hx hb dL_law_1552 (lv_at hl 0 rfl) ?_
  refine lv_iconst (v := 2) hx hb dL_law_1554 (by decide) ?_
  refine lv_iadd hx hb dL_law_1555 ?_
  obtain ⟨q, hf⟩ := zck_use hf
  refine va_sld hx hb hX hbl hbA hI.2.2.2.1 (zin_in q) dL_law_1556 ?_
  refine lv_aload_n hx hb dL_law_1557 rfl (lv_at hl 1 rfl) ?_
  obtain ⟨o208, σ208, v209, g208, hf⟩ := zbh_use hf
  refine z_fcallH (u := wM am cm μ) (w := fun x : zHs => zHo ao co x.1 ++ wC ad cy x.2) (x := (o, σ)) (As := [.ref (ad 0), .int (xs (x4 + 1).toNatClampNeg), .int (xs (x4 + 2).toNatClampNeg), .ref ao]) (rest := []) hC hI (zKH hI.1) (cL_dot_met st l hst D ad cy ao co o σ (xs (x4 + 1).toNatClampNeg) (xs (x4 + 2).toNatClampNeg) _ g208) (zgS zw90_6 zw90_7 zw1_10 zw90_8) rfl ⟨rfl, rfl⟩ 4 hdL_dot ⟨Nat.le_of_ble_eq_true rfl, Nat.le_of_ble_eq_true rfl⟩ rfl hl rfl (Nat.le_of_ble_eq_true rfl) dL_law_1558 ⟨by show cells + 1 ≤ 600002; omega, by show slots + 6 ≤ 7302198; omega⟩ (fun H locs hI => ?_)
  have hI : zLw st D ad cy am cm ao co μ o208 σ208 s H locs := hI
  refine lv_istore (lv' := [(5, .int v209), (4, .int x4), (3, .ref ao), (2, .ref (am 0)), (1, .ref (ad 0)), (0, .ref b)]) hx hb dL_law_1561 hl (by decide) rfl (fun ls hl => ?_)
  refine lv_aload_n hx hb dL_law_1563 rfl (lv_at hl 3 rfl) ?_
  refine lv_aload_n hx hb dL_law_1564 rfl (lv_at hl 5 rfl) ?_
  refine lv_iload hx hb dL_law_1565 (lv_at hl 1 rfl) ?_
  refine lv_iconst (v := 1) hx hb dL_law_1567 (by decide) ?_
  refine lv_iadd hx hb dL_law_1568 ?_
  obtain ⟨q, hf⟩ := zck_use hf
  refine va_sld hx hb hX hbl hbA hI.2.2.2.1 (zin_in q) dL_law_1569 ?_
  refine lv_aload_n hx hb dL_law_1570 rfl (lv_at hl 5 rfl) ?_
  refine lv_iload hx hb dL_law_1571 (lv_at hl 1 rfl) ?_
  refine lv_iconst (v := 2) hx hb dL_law_1573 (by decide) ?_
  refine lv_iadd hx hb dL_law_1574 ?_
  obtain ⟨q, hf⟩ := zck_use hf
  refine va_sld hx hb hX hbl hbA hI.2.2.2.1 (zin_in q) dL_law_1575 ?_
  obtain ⟨μ210, v211, g210, hf⟩ := zbi_use hf
  refine z_fcallVi (u := zHo ao co o208 ++ wC ad cy σ208) (w := wM am cm) (As := [.int (xs (x4 + 1).toNatClampNeg), .int (xs (x4 + 2).toNatClampNeg)]) (rest := []) hC (zI.swap hI) (zKM hI.1) (cX12_dot_met st l D am cm μ (xs (x4 + 1).toNatClampNeg) (xs (x4 + 2).toNatClampNeg) _ g210) (zgV zw91_5 zw91_6 zw91_7 zw1_5 zw91_8) rfl ⟨rfl, rfl⟩ 2 hdX12_dot ⟨Nat.le_of_ble_eq_true rfl, Nat.le_of_ble_eq_true rfl⟩ rfl rfl (wM_e0 am cm μ) rfl hl rfl (Nat.le_of_ble_eq_true rfl) dL_law_1576 ⟨by show cells + 1 ≤ 600002; omega, by show slots + 6 ≤ 7302198; omega⟩ (fun H locs hI => ?_)
  have hI : zLw st D ad cy am cm ao co μ210 o208 σ208 s H locs := zI.swap hI
  refine lv_istore (lv' := [(6, .int v211), (5, .int v209), (4, .int x4), (3, .ref ao), (2, .ref (am 0)), (1, .ref (ad 0)), (0, .ref b)]) hx hb dL_law_1579 hl (by decide) rfl (fun ls hl => ?_)
  refine lv_aload_n hx hb dL_law_1581 rfl (lv_at hl 4 rfl) ?_
  obtain ⟨μ212, v213, g212, hf⟩ := zbi_use hf
  refine z_fcallVi (u := zHo ao co o208 ++ wC ad cy σ208) (w := wM am cm) (As := []) (rest := []) hC (zI.swap hI) (zKM hI.1) (cX12_thrown_met st l D am cm μ210  _ g212) (zgV zw12_2 zw12_3 zw12_4 zw1_5 zw12_5) rfl ⟨rfl, rfl⟩ 0 hdX12_thrown ⟨Nat.le_of_ble_eq_true rfl, Nat.le_of_ble_eq_true rfl⟩ rfl rfl (wM_e0 am cm μ210) rfl hl rfl (Nat.le_of_ble_eq_true rfl) dL_law_1582 ⟨by show cells + 1 ≤ 600002; omega, by show slots + 6 ≤ 7302198; omega⟩ (fun H locs hI => ?_)
  have hI : zLw st D ad cy am cm ao co μ212 o208 σ208 s H locs := zI.swap hI
  refine lv_iload hx hb dL_law_1585 (lv_at hl 1 rfl) ?_
  refine lv_icmp_eq (tgt := 1592) hx hb dL_law_1587 (by decide) (fun q => ?_) (fun q => ?_)
  · replace hf := zif_t q hf
    refine lv_iload hx hb dL_law_1592 (lv_at hl 1 rfl) ?_
    refine lv_if_ne (tgt := 1609) hx hb dL_law_1594 (by decide) (fun q => ?_) (fun q => ?_)
    · replace hf := zif_f q hf
      refine lv_goto (tgt := 1946) hx hb dL_law_1609 (by decide) ?_
      obtain ⟨v214, ev214⟩ : ∃ z : Int32, z = x4 + 8 := ⟨_, rfl⟩
      replace hf := zbv_use ev214 hf
      refine lv_iinc (v := v214) (lv' := [(4, .int v214), (6, .int v211), (5, .int v209), (3, .ref ao), (2, .ref (am 0)), (1, .ref (ad 0)), (0, .ref b)]) hx hb dL_law_1946 hl (k := 2) rfl (by rw [ev214]; rfl) (by decide) rfl (fun ls hl => ?_)
      refine lv_goto (tgt := 33) hx hb dL_law_1949 (by decide) ?_
      exact hk _ _ _ _ _ _ _ _ _ (by omega) (by omega) hI (lv_sub hl [0, 3, 4, 5, 6] rfl) hf
    replace hf := zif_t q hf
    refine lv_aload_n hx hb dL_law_1597 rfl (lv_at hl 3 rfl) ?_
    refine lv_iconst (v := 0) hx hb dL_law_1598 (by decide) ?_
    refine z_lald (i := 0) hC hI 27 63 (zLo_e am cm ao co μ212 o208 _) (zLo_t cy cm co) (by decide) dL_law_1599 ?_
    refine lv_iload hx hb dL_law_1600 (lv_at hl 0 rfl) ?_
    refine lv_i2l (v := v211.toInt64) hx hb dL_law_1602 rfl ?_
    refine W.lcmp hx hb dL_law_1603 ?_
    refine lv_if_eq (tgt := 1609) hx hb dL_law_1604 (by decide) (fun q => ?_) (fun q => ?_)
    · replace hf := zif_t q hf
      refine lv_goto (tgt := 1946) hx hb dL_law_1609 (by decide) ?_
      obtain ⟨v215, ev215⟩ : ∃ z : Int32, z = x4 + 8 := ⟨_, rfl⟩
      replace hf := zbv_use ev215 hf
      refine lv_iinc (v := v215) (lv' := [(4, .int v215), (6, .int v211), (5, .int v209), (3, .ref ao), (2, .ref (am 0)), (1, .ref (ad 0)), (0, .ref b)]) hx hb dL_law_1946 hl (k := 2) rfl (by rw [ev215]; rfl) (by decide) rfl (fun ls hl => ?_)
      refine lv_goto (tgt := 33) hx hb dL_law_1949 (by decide) ?_
      exact hk _ _ _ _ _ _ _ _ _ (by omega) (by omega) hI (lv_sub hl [0, 3, 4, 5, 6] rfl) hf
    replace hf := zif_f q hf
    refine lv_iconst (v := 0) hx hb dL_law_1607 (by decide) ?_
    exact absurd (Option.some.inj hf) (by decide)
  replace hf := zif_f q hf
  refine lv_iconst (v := 0) hx hb dL_law_1590 (by decide) ?_
  exact absurd (Option.some.inj hf) (by decide)
def fLaw_1612 (xs : Nat → Int32) (L : Nat) (kn : zSt → (Nat → Int64) → zSt → Int32 → Option Int32) (μ : zSt) (o : Nat → Int64) (σ : zSt) (x4 : Int32) : Option Int32 :=
  zck (zin (x4 + 1) L) (zbh (fL_row o σ (xs (x4 + 1).toNatClampNeg)) (fun o216 σ216 v217 =>
  zck (zin (x4 + 1) L) (zbi (fX12_row μ (xs (x4 + 1).toNatClampNeg)) (fun μ218 v219 =>
  zbi (fX12_thrown μ218 ) (fun μ220 v221 =>
  if v221 = v217 then if v217 = 0 then if (lg_cmp (o216 0) (v219.toInt64)) = 0 then zbv (x4 + 8) (fun v223 => kn μ220 o216 σ216 v223) else
  some 0 else
  zbv (x4 + 8) (fun v222 => kn μ220 o216 σ216 v222) else
  some 0)))))
set_option maxRecDepth 20000 in
set_option maxHeartbeats 4000000 in
theorem bLaw_1612 {p : Program} {l : Launch} {e : Env} {s : State} {m : MethodId} {below : List Frame} {meth : Method} {c : Code} {st : Nat → Nat} {D : va_G} {b L : Nat} {xs : Nat → Int32} {ad am : Nat → Nat} {cy cm : Nat → ClassId} {ao : Nat} {co : ClassId} (hC : zC p m c cL_law 8 s #[Value.ref b] wzL_law RL meth ret) (hst : l.stackTraces = false) (hX : va_X b L xs s s.heap) (hbl : b < s.heap.size) (hbA : ¬ (fun q : Nat => s.heap.size ≤ q) b) {n : Nat} {kn : zSt → (Nat → Int64) → zSt → Int32 → Option Int32} (hk : ∀ (H : Heap) (locs : List Loc) (μ : zSt) (o : Nat → Int64) (σ : zSt) (ls : Array Slot) (x4 : Int32) (cells slots : Nat), cells + n ≤ 600002 → slots + 6 * n ≤ 7302198 → zLw st D ad cy am cm ao co μ o σ s H locs → lv_has ls 8 [(4, .int x4), (3, .ref ao), (2, .ref (am 0)), (1, .ref (ad 0)), (0, .ref b)] → kn μ o σ x4 = some 1 → W p l e room_1 s m #[Value.ref b] below meth c H locs cells slots (lw_Z below #[Value.ref b] s) (F0 m 33 ls [])) {H : Heap} {locs : List Loc} {μ : zSt} {o : Nat → Int64} {σ : zSt} {ls : Array Slot} {x4 : Int32} {cells slots : Nat} (hc : cells + (n + 1) ≤ 600002) (hs : slots + 6 * (n + 1) ≤ 7302198) (hI : zLw st D ad cy am cm ao co μ o σ s H locs) (hl : lv_has ls 8 [(4, .int x4), (3, .ref ao), (2, .ref (am 0)), (1, .ref (ad 0)), (0, .ref b)]) (hf : fLaw_1612 xs L kn μ o σ x4 = some 1) : W p l e room_1 s m #[Value.ref b] below meth c H locs cells slots (lw_Z below #[Value.ref b] s) (F0 m 1612 ls []) := by
  have hx := hC.1
  have hb := hC.2.1
  unfold fLaw_1612 at hf
  refine lv_aload_n hx hb dL_law_1612 rfl (lv_at hl 3 rfl) ?_
  refine lv_aload_n hx hb dL_law_1613 rfl (lv_at hl 4 rfl) ?_
  refine lv_iload hx hb dL_law_1614 (lv_at hl 0 rfl) ?_
  refine lv_iconst (v := 1) hx hb dL_law_1616 (by decide) ?_
  refine lv_iadd hx hb dL_law_1617 ?_
  obtain ⟨q, hf⟩ := zck_use hf
  refine va_sld hx hb hX hbl hbA hI.2.2.2.1 (zin_in q) dL_law_1618 ?_
  refine lv_aload_n hx hb dL_law_1619 rfl (lv_at hl 1 rfl) ?_
  obtain ⟨o216, σ216, v217, g216, hf⟩ := zbh_use hf
  refine z_fcallH (u := wM am cm μ) (w := fun x : zHs => zHo ao co x.1 ++ wC ad cy x.2) (x := (o, σ)) (As := [.ref (ad 0), .int (xs (x4 + 1).toNatClampNeg), .ref ao]) (rest := []) hC hI (zKH hI.1) (cL_row_met st l hst D ad cy ao co o σ (xs (x4 + 1).toNatClampNeg) _ g216) (zgS zw91_9 zw91_10 zw1_10 zw91_11) rfl ⟨rfl, rfl⟩ 3 hdL_row ⟨Nat.le_of_ble_eq_true rfl, Nat.le_of_ble_eq_true rfl⟩ rfl hl rfl (Nat.le_of_ble_eq_true rfl) dL_law_1620 ⟨by show cells + 1 ≤ 600002; omega, by show slots + 6 ≤ 7302198; omega⟩ (fun H locs hI => ?_)
  have hI : zLw st D ad cy am cm ao co μ o216 σ216 s H locs := hI
  refine lv_istore (lv' := [(5, .int v217), (4, .int x4), (3, .ref ao), (2, .ref (am 0)), (1, .ref (ad 0)), (0, .ref b)]) hx hb dL_law_1623 hl (by decide) rfl (fun ls hl => ?_)
  refine lv_aload_n hx hb dL_law_1625 rfl (lv_at hl 3 rfl) ?_
  refine lv_aload_n hx hb dL_law_1626 rfl (lv_at hl 5 rfl) ?_
  refine lv_iload hx hb dL_law_1627 (lv_at hl 1 rfl) ?_
  refine lv_iconst (v := 1) hx hb dL_law_1629 (by decide) ?_
  refine lv_iadd hx hb dL_law_1630 ?_
  obtain ⟨q, hf⟩ := zck_use hf
  refine va_sld hx hb hX hbl hbA hI.2.2.2.1 (zin_in q) dL_law_1631 ?_
  obtain ⟨μ218, v219, g218, hf⟩ := zbi_use hf
  refine z_fcallVi (u := zHo ao co o216 ++ wC ad cy σ216) (w := wM am cm) (As := [.int (xs (x4 + 1).toNatClampNeg)]) (rest := []) hC (zI.swap hI) (zKM hI.1) (cX12_row_met st l D am cm μ (xs (x4 + 1).toNatClampNeg) _ g218) (zgV zw91_23 zw92_0 zw92_1 zw1_5 zw92_2) rfl ⟨rfl, rfl⟩ 1 hdX12_row ⟨Nat.le_of_ble_eq_true rfl, Nat.le_of_ble_eq_true rfl⟩ rfl rfl (wM_e0 am cm μ) rfl hl rfl (Nat.le_of_ble_eq_true rfl) dL_law_1632 ⟨by show cells + 1 ≤ 600002; omega, by show slots + 6 ≤ 7302198; omega⟩ (fun H locs hI => ?_)
  have hI : zLw st D ad cy am cm ao co μ218 o216 σ216 s H locs := zI.swap hI
  refine lv_istore (lv' := [(6, .int v219), (5, .int v217), (4, .int x4), (3, .ref ao), (2, .ref (am 0)), (1, .ref (ad 0)), (0, .ref b)]) hx hb dL_law_1635 hl (by decide) rfl (fun ls hl => ?_)
  refine lv_aload_n hx hb dL_law_1637 rfl (lv_at hl 4 rfl) ?_
  obtain ⟨μ220, v221, g220, hf⟩ := zbi_use hf
  refine z_fcallVi (u := zHo ao co o216 ++ wC ad cy σ216) (w := wM am cm) (As := []) (rest := []) hC (zI.swap hI) (zKM hI.1) (cX12_thrown_met st l D am cm μ218  _ g220) (zgV zw12_2 zw12_3 zw12_4 zw1_5 zw12_5) rfl ⟨rfl, rfl⟩ 0 hdX12_thrown ⟨Nat.le_of_ble_eq_true rfl, Nat.le_of_ble_eq_true rfl⟩ rfl rfl (wM_e0 am cm μ218) rfl hl rfl (Nat.le_of_ble_eq_true rfl) dL_law_1638 ⟨by show cells + 1 ≤ 600002; omega, by show slots + 6 ≤ 7302198; omega⟩ (fun H locs hI => ?_)
  have hI : zLw st D ad cy am cm ao co μ220 o216 σ216 s H locs := zI.swap hI
  refine lv_iload hx hb dL_law_1641 (lv_at hl 1 rfl) ?_
  refine lv_icmp_eq (tgt := 1648) hx hb dL_law_1643 (by decide) (fun q => ?_) (fun q => ?_)
  · replace hf := zif_t q hf
    refine lv_iload hx hb dL_law_1648 (lv_at hl 1 rfl) ?_
    refine lv_if_ne (tgt := 1665) hx hb dL_law_1650 (by decide) (fun q => ?_) (fun q => ?_)
    · replace hf := zif_f q hf
      refine lv_goto (tgt := 1946) hx hb dL_law_1665 (by decide) ?_
      obtain ⟨v222, ev222⟩ : ∃ z : Int32, z = x4 + 8 := ⟨_, rfl⟩
      replace hf := zbv_use ev222 hf
      refine lv_iinc (v := v222) (lv' := [(4, .int v222), (6, .int v219), (5, .int v217), (3, .ref ao), (2, .ref (am 0)), (1, .ref (ad 0)), (0, .ref b)]) hx hb dL_law_1946 hl (k := 2) rfl (by rw [ev222]; rfl) (by decide) rfl (fun ls hl => ?_)
      refine lv_goto (tgt := 33) hx hb dL_law_1949 (by decide) ?_
      exact hk _ _ _ _ _ _ _ _ _ (by omega) (by omega) hI (lv_sub hl [0, 3, 4, 5, 6] rfl) hf
    replace hf := zif_t q hf
    refine lv_aload_n hx hb dL_law_1653 rfl (lv_at hl 3 rfl) ?_
    refine lv_iconst (v := 0) hx hb dL_law_1654 (by decide) ?_
    refine z_lald (i := 0) hC hI 27 63 (zLo_e am cm ao co μ220 o216 _) (zLo_t cy cm co) (by decide) dL_law_1655 ?_
    refine lv_iload hx hb dL_law_1656 (lv_at hl 0 rfl) ?_
    refine lv_i2l (v := v219.toInt64) hx hb dL_law_1658 rfl ?_
    refine W.lcmp hx hb dL_law_1659 ?_
    refine lv_if_eq (tgt := 1665) hx hb dL_law_1660 (by decide) (fun q => ?_) (fun q => ?_)
    · replace hf := zif_t q hf
      refine lv_goto (tgt := 1946) hx hb dL_law_1665 (by decide) ?_
      obtain ⟨v223, ev223⟩ : ∃ z : Int32, z = x4 + 8 := ⟨_, rfl⟩
      replace hf := zbv_use ev223 hf
      refine lv_iinc (v := v223) (lv' := [(4, .int v223), (6, .int v219), (5, .int v217), (3, .ref ao), (2, .ref (am 0)), (1, .ref (ad 0)), (0, .ref b)]) hx hb dL_law_1946 hl (k := 2) rfl (by rw [ev223]; rfl) (by decide) rfl (fun ls hl => ?_)
      refine lv_goto (tgt := 33) hx hb dL_law_1949 (by decide) ?_
      exact hk _ _ _ _ _ _ _ _ _ (by omega) (by omega) hI (lv_sub hl [0, 3, 4, 5, 6] rfl) hf
    replace hf := zif_f q hf
    refine lv_iconst (v := 0) hx hb dL_law_1663 (by decide) ?_
    exact absurd (Option.some.inj hf) (by decide)
  replace hf := zif_f q hf
  refine lv_iconst (v := 0) hx hb dL_law_1646 (by decide) ?_
  exact absurd (Option.some.inj hf) (by decide)
