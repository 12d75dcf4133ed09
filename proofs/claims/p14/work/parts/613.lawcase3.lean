def fLaw_1249 (xs : Nat → Int32) (L : Nat) (kn : zSt → (Nat → Int64) → zSt → Int32 → Option Int32) (μ : zSt) (o : Nat → Int64) (σ : zSt) (x4 : Int32) : Option Int32 :=
  zck (zin (x4 + 1) L) (zbh (fL_row o σ (xs (x4 + 1).toNatClampNeg)) (fun o158 σ158 v159 =>
  zck (zin (x4 + 1) L) (zbi (fX12_row μ (xs (x4 + 1).toNatClampNeg)) (fun μ160 v161 =>
  zbv (x4 + 8) (fun v162 => kn μ160 o158 σ158 v162)))))
set_option maxRecDepth 20000 in
set_option maxHeartbeats 4000000 in
theorem bLaw_1249 {p : Program} {l : Launch} {e : Env} {s : State} {m : MethodId} {below : List Frame} {meth : Method} {c : Code} {st : Nat → Nat} {D : va_G} {b L : Nat} {xs : Nat → Int32} {ad am : Nat → Nat} {cy cm : Nat → ClassId} {ao : Nat} {co : ClassId} (hC : zC p m c cL_law 8 s #[Value.ref b] wzL_law RL meth ret) (hst : l.stackTraces = false) (hX : va_X b L xs s s.heap) (hbl : b < s.heap.size) (hbA : ¬ (fun q : Nat => s.heap.size ≤ q) b) {n : Nat} {kn : zSt → (Nat → Int64) → zSt → Int32 → Option Int32} (hk : ∀ (H : Heap) (locs : List Loc) (μ : zSt) (o : Nat → Int64) (σ : zSt) (ls : Array Slot) (x4 : Int32) (cells slots : Nat), cells + n ≤ 600128 → slots + 6 * n ≤ 7301064 → zLw st D ad cy am cm ao co μ o σ s H locs → lv_has ls 8 [(4, .int x4), (3, .ref ao), (2, .ref (am 0)), (1, .ref (ad 0)), (0, .ref b)] → kn μ o σ x4 = some 1 → W p l e room_1 s m #[Value.ref b] below meth c H locs cells slots (lw_Z below #[Value.ref b] s) (F0 m 33 ls [])) {H : Heap} {locs : List Loc} {μ : zSt} {o : Nat → Int64} {σ : zSt} {ls : Array Slot} {x4 : Int32} {cells slots : Nat} (hc : cells + (n + 1) ≤ 600128) (hs : slots + 6 * (n + 1) ≤ 7301064) (hI : zLw st D ad cy am cm ao co μ o σ s H locs) (hl : lv_has ls 8 [(4, .int x4), (3, .ref ao), (2, .ref (am 0)), (1, .ref (ad 0)), (0, .ref b)]) (hf : fLaw_1249 xs L kn μ o σ x4 = some 1) : W p l e room_1 s m #[Value.ref b] below meth c H locs cells slots (lw_Z below #[Value.ref b] s) (F0 m 1249 ls []) := by
  have hx := hC.1
  have hb := hC.2.1
  unfold fLaw_1249 at hf
  refine lv_aload_n hx hb dL_law_1249 rfl (lv_at hl 3 rfl) ?_
  refine lv_aload_n hx hb dL_law_1250 rfl (lv_at hl 4 rfl) ?_
  refine lv_iload hx hb dL_law_1251 (lv_at hl 0 rfl) ?_
  refine lv_iconst (v := 1) hx hb dL_law_1253 (by decide) ?_
  refine lv_iadd hx hb dL_law_1254 ?_
  obtain ⟨q, hf⟩ := zck_use hf
  refine va_sld hx hb hX hbl hbA hI.2.2.2.1 (zin_in q) dL_law_1255 ?_
  refine lv_aload_n hx hb dL_law_1256 rfl (lv_at hl 1 rfl) ?_
  obtain ⟨o158, σ158, v159, g158, hf⟩ := zbh_use hf
  refine z_fcallH (u := wM am cm μ) (w := fun x : zHs => zHo ao co x.1 ++ wC ad cy x.2) (x := (o, σ)) (As := [.ref (ad 0), .int (xs (x4 + 1).toNatClampNeg), .ref ao]) (rest := []) hC hI (zKH hI.1) (cL_row_met st l hst D ad cy ao co o σ (xs (x4 + 1).toNatClampNeg) _ g158) (zgS zw91_9 zw91_10 zw1_10 zw91_11) rfl ⟨rfl, rfl⟩ 3 hdL_row ⟨Nat.le_of_ble_eq_true rfl, Nat.le_of_ble_eq_true rfl⟩ rfl hl rfl (Nat.le_of_ble_eq_true rfl) dL_law_1257 ⟨by show cells + 1 ≤ 600128; omega, by show slots + 6 ≤ 7301064; omega⟩ (fun H locs hI => ?_)
  have hI : zLw st D ad cy am cm ao co μ o158 σ158 s H locs := hI
  refine lv_istore (lv' := [(5, .int v159), (4, .int x4), (3, .ref ao), (2, .ref (am 0)), (1, .ref (ad 0)), (0, .ref b)]) hx hb dL_law_1260 hl (by decide) rfl (fun ls hl => ?_)
  refine lv_aload_n hx hb dL_law_1262 rfl (lv_at hl 3 rfl) ?_
  refine lv_aload_n hx hb dL_law_1263 rfl (lv_at hl 5 rfl) ?_
  refine lv_iload hx hb dL_law_1264 (lv_at hl 1 rfl) ?_
  refine lv_iconst (v := 1) hx hb dL_law_1266 (by decide) ?_
  refine lv_iadd hx hb dL_law_1267 ?_
  obtain ⟨q, hf⟩ := zck_use hf
  refine va_sld hx hb hX hbl hbA hI.2.2.2.1 (zin_in q) dL_law_1268 ?_
  obtain ⟨μ160, v161, g160, hf⟩ := zbi_use hf
  refine z_fcallVi (u := zHo ao co o158 ++ wC ad cy σ158) (w := wM am cm) (As := [.int (xs (x4 + 1).toNatClampNeg)]) (rest := []) hC (zI.swap hI) (zKM hI.1) (cX12_row_met st l D am cm μ (xs (x4 + 1).toNatClampNeg) _ g160) (zgV zw91_23 zw92_0 zw92_1 zw1_5 zw92_2) rfl ⟨rfl, rfl⟩ 1 hdX12_row ⟨Nat.le_of_ble_eq_true rfl, Nat.le_of_ble_eq_true rfl⟩ rfl rfl (wM_e0 am cm μ) rfl hl rfl (Nat.le_of_ble_eq_true rfl) dL_law_1269 ⟨by show cells + 1 ≤ 600128; omega, by show slots + 6 ≤ 7301064; omega⟩ (fun H locs hI => ?_)
  have hI : zLw st D ad cy am cm ao co μ160 o158 σ158 s H locs := zI.swap hI
  refine lv_istore (lv' := [(6, .int v161), (5, .int v159), (4, .int x4), (3, .ref ao), (2, .ref (am 0)), (1, .ref (ad 0)), (0, .ref b)]) hx hb dL_law_1272 hl (by decide) rfl (fun ls hl => ?_)
  refine lv_goto (tgt := 1418) hx hb dL_law_1274 (by decide) ?_
  obtain ⟨v162, ev162⟩ : ∃ z : Int32, z = x4 + 8 := ⟨_, rfl⟩
  replace hf := zbv_use ev162 hf
  refine lv_iinc (v := v162) (lv' := [(4, .int v162), (6, .int v161), (5, .int v159), (3, .ref ao), (2, .ref (am 0)), (1, .ref (ad 0)), (0, .ref b)]) hx hb dL_law_1418 hl (k := 2) rfl (by rw [ev162]; rfl) (by decide) rfl (fun ls hl => ?_)
  refine lv_goto (tgt := 33) hx hb dL_law_1421 (by decide) ?_
  exact hk _ _ _ _ _ _ _ _ _ (by omega) (by omega) hI (lv_sub hl [0, 3, 4, 5, 6] rfl) hf
def fLaw_1277 (xs : Nat → Int32) (L : Nat) (kn : zSt → (Nat → Int64) → zSt → Int32 → Option Int32) (μ : zSt) (o : Nat → Int64) (σ : zSt) (x4 : Int32) : Option Int32 :=
  zbh (fL_hear o σ ) (fun o163 σ163 v164 =>
  zbl (fX12_hear μ ) (fun μ165 v166 =>
  zbv (x4 + 8) (fun v167 => kn μ165 o163 σ163 v167)))
set_option maxRecDepth 20000 in
set_option maxHeartbeats 4000000 in
theorem bLaw_1277 {p : Program} {l : Launch} {e : Env} {s : State} {m : MethodId} {below : List Frame} {meth : Method} {c : Code} {st : Nat → Nat} {D : va_G} {b L : Nat} {xs : Nat → Int32} {ad am : Nat → Nat} {cy cm : Nat → ClassId} {ao : Nat} {co : ClassId} (hC : zC p m c cL_law 8 s #[Value.ref b] wzL_law RL meth ret) (hst : l.stackTraces = false) (hX : va_X b L xs s s.heap) (hbl : b < s.heap.size) (hbA : ¬ (fun q : Nat => s.heap.size ≤ q) b) {n : Nat} {kn : zSt → (Nat → Int64) → zSt → Int32 → Option Int32} (hk : ∀ (H : Heap) (locs : List Loc) (μ : zSt) (o : Nat → Int64) (σ : zSt) (ls : Array Slot) (x4 : Int32) (cells slots : Nat), cells + n ≤ 600128 → slots + 6 * n ≤ 7301064 → zLw st D ad cy am cm ao co μ o σ s H locs → lv_has ls 8 [(4, .int x4), (3, .ref ao), (2, .ref (am 0)), (1, .ref (ad 0)), (0, .ref b)] → kn μ o σ x4 = some 1 → W p l e room_1 s m #[Value.ref b] below meth c H locs cells slots (lw_Z below #[Value.ref b] s) (F0 m 33 ls [])) {H : Heap} {locs : List Loc} {μ : zSt} {o : Nat → Int64} {σ : zSt} {ls : Array Slot} {x4 : Int32} {cells slots : Nat} (hc : cells + (n + 1) ≤ 600128) (hs : slots + 6 * (n + 1) ≤ 7301064) (hI : zLw st D ad cy am cm ao co μ o σ s H locs) (hl : lv_has ls 8 [(4, .int x4), (3, .ref ao), (2, .ref (am 0)), (1, .ref (ad 0)), (0, .ref b)]) (hf : fLaw_1277 xs L kn μ o σ x4 = some 1) : W p l e room_1 s m #[Value.ref b] below meth c H locs cells slots (lw_Z below #[Value.ref b] s) (F0 m 1277 ls []) := by
  have hx := hC.1
  have hb := hC.2.1
  unfold fLaw_1277 at hf
  refine lv_aload_n hx hb dL_law_1277 rfl (lv_at hl 3 rfl) ?_
  refine lv_aload_n hx hb dL_law_1278 rfl (lv_at hl 1 rfl) ?_
  obtain ⟨o163, σ163, v164, g163, hf⟩ := zbh_use hf
  refine z_fcallH (u := wM am cm μ) (w := fun x : zHs => zHo ao co x.1 ++ wC ad cy x.2) (x := (o, σ)) (As := [.ref (ad 0), .ref ao]) (rest := []) hC hI (zKH hI.1) (cL_hear_met st l hst D ad cy ao co o σ  _ g163) (zgS zw92_3 zw92_4 zw1_10 zw92_5) rfl ⟨rfl, rfl⟩ 2 hdL_hear ⟨Nat.le_of_ble_eq_true rfl, Nat.le_of_ble_eq_true rfl⟩ rfl hl rfl (Nat.le_of_ble_eq_true rfl) dL_law_1279 ⟨by show cells + 1 ≤ 600128; omega, by show slots + 6 ≤ 7301064; omega⟩ (fun H locs hI => ?_)
  have hI : zLw st D ad cy am cm ao co μ o163 σ163 s H locs := hI
  refine lv_istore (lv' := [(5, .int v164), (4, .int x4), (3, .ref ao), (2, .ref (am 0)), (1, .ref (ad 0)), (0, .ref b)]) hx hb dL_law_1282 hl (by decide) rfl (fun ls hl => ?_)
  refine lv_aload_n hx hb dL_law_1284 rfl (lv_at hl 3 rfl) ?_
  obtain ⟨μ165, v166, g165, hf⟩ := zbl_use hf
  refine z_fcallVl (u := zHo ao co o163 ++ wC ad cy σ163) (w := wM am cm) (As := []) (rest := []) hC (zI.swap hI) (zKM hI.1) (cX12_hear_met st l D am cm μ  _ g165) (zgV zw92_19 zw92_20 zw92_21 zw1_5 zw92_22) rfl ⟨rfl, rfl⟩ 0 hdX12_hear ⟨Nat.le_of_ble_eq_true rfl, Nat.le_of_ble_eq_true rfl⟩ rfl rfl (wM_e0 am cm μ) rfl hl rfl (Nat.le_of_ble_eq_true rfl) dL_law_1285 ⟨by show cells + 1 ≤ 600128; omega, by show slots + 6 ≤ 7301064; omega⟩ (fun H locs hI => ?_)
  have hI : zLw st D ad cy am cm ao co μ165 o163 σ163 s H locs := zI.swap hI
  refine lv_lstore (lv' := [(6, .long v166), (5, .int v164), (4, .int x4), (3, .ref ao), (2, .ref (am 0)), (1, .ref (ad 0)), (0, .ref b)]) hx hb dL_law_1288 hl (by decide) rfl (fun ls hl => ?_)
  refine lv_goto (tgt := 1418) hx hb dL_law_1290 (by decide) ?_
  obtain ⟨v167, ev167⟩ : ∃ z : Int32, z = x4 + 8 := ⟨_, rfl⟩
  replace hf := zbv_use ev167 hf
  refine lv_iinc (v := v167) (lv' := [(4, .int v167), (6, .long v166), (5, .int v164), (3, .ref ao), (2, .ref (am 0)), (1, .ref (ad 0)), (0, .ref b)]) hx hb dL_law_1418 hl (k := 2) rfl (by rw [ev167]; rfl) (by decide) rfl (fun ls hl => ?_)
  refine lv_goto (tgt := 33) hx hb dL_law_1421 (by decide) ?_
  exact hk _ _ _ _ _ _ _ _ _ (by omega) (by omega) hI (lv_sub hl [0, 3, 4, 5, 6] rfl) hf
def fLaw_1293 (xs : Nat → Int32) (L : Nat) (kn : zSt → (Nat → Int64) → zSt → Int32 → Option Int32) (μ : zSt) (o : Nat → Int64) (σ : zSt) (x4 : Int32) : Option Int32 :=
  zbh (fL_mix o σ ) (fun o168 σ168 v169 =>
  zbl (fX12_mix μ ) (fun μ170 v171 =>
  zbv (x4 + 8) (fun v172 => kn μ170 o168 σ168 v172)))
set_option maxRecDepth 20000 in
set_option maxHeartbeats 4000000 in
theorem bLaw_1293 {p : Program} {l : Launch} {e : Env} {s : State} {m : MethodId} {below : List Frame} {meth : Method} {c : Code} {st : Nat → Nat} {D : va_G} {b L : Nat} {xs : Nat → Int32} {ad am : Nat → Nat} {cy cm : Nat → ClassId} {ao : Nat} {co : ClassId} (hC : zC p m c cL_law 8 s #[Value.ref b] wzL_law RL meth ret) (hst : l.stackTraces = false) (hX : va_X b L xs s s.heap) (hbl : b < s.heap.size) (hbA : ¬ (fun q : Nat => s.heap.size ≤ q) b) {n : Nat} {kn : zSt → (Nat → Int64) → zSt → Int32 → Option Int32} (hk : ∀ (H : Heap) (locs : List Loc) (μ : zSt) (o : Nat → Int64) (σ : zSt) (ls : Array Slot) (x4 : Int32) (cells slots : Nat), cells + n ≤ 600128 → slots + 6 * n ≤ 7301064 → zLw st D ad cy am cm ao co μ o σ s H locs → lv_has ls 8 [(4, .int x4), (3, .ref ao), (2, .ref (am 0)), (1, .ref (ad 0)), (0, .ref b)] → kn μ o σ x4 = some 1 → W p l e room_1 s m #[Value.ref b] below meth c H locs cells slots (lw_Z below #[Value.ref b] s) (F0 m 33 ls [])) {H : Heap} {locs : List Loc} {μ : zSt} {o : Nat → Int64} {σ : zSt} {ls : Array Slot} {x4 : Int32} {cells slots : Nat} (hc : cells + (n + 1) ≤ 600128) (hs : slots + 6 * (n + 1) ≤ 7301064) (hI : zLw st D ad cy am cm ao co μ o σ s H locs) (hl : lv_has ls 8 [(4, .int x4), (3, .ref ao), (2, .ref (am 0)), (1, .ref (ad 0)), (0, .ref b)]) (hf : fLaw_1293 xs L kn μ o σ x4 = some 1) : W p l e room_1 s m #[Value.ref b] below meth c H locs cells slots (lw_Z below #[Value.ref b] s) (F0 m 1293 ls []) := by
  have hx := hC.1
  have hb := hC.2.1
  unfold fLaw_1293 at hf
  refine lv_aload_n hx hb dL_law_1293 rfl (lv_at hl 3 rfl) ?_
  refine lv_aload_n hx hb dL_law_1294 rfl (lv_at hl 1 rfl) ?_
  obtain ⟨o168, σ168, v169, g168, hf⟩ := zbh_use hf
  refine z_fcallH (u := wM am cm μ) (w := fun x : zHs => zHo ao co x.1 ++ wC ad cy x.2) (x := (o, σ)) (As := [.ref (ad 0), .ref ao]) (rest := []) hC hI (zKH hI.1) (cL_mix_met st l hst D ad cy ao co o σ  _ g168) (zgS zw92_23 zw93_0 zw1_10 zw93_1) rfl ⟨rfl, rfl⟩ 2 hdL_mix ⟨Nat.le_of_ble_eq_true rfl, Nat.le_of_ble_eq_true rfl⟩ rfl hl rfl (Nat.le_of_ble_eq_true rfl) dL_law_1295 ⟨by show cells + 1 ≤ 600128; omega, by show slots + 6 ≤ 7301064; omega⟩ (fun H locs hI => ?_)
  have hI : zLw st D ad cy am cm ao co μ o168 σ168 s H locs := hI
  refine lv_istore (lv' := [(5, .int v169), (4, .int x4), (3, .ref ao), (2, .ref (am 0)), (1, .ref (ad 0)), (0, .ref b)]) hx hb dL_law_1298 hl (by decide) rfl (fun ls hl => ?_)
  refine lv_aload_n hx hb dL_law_1300 rfl (lv_at hl 3 rfl) ?_
  obtain ⟨μ170, v171, g170, hf⟩ := zbl_use hf
  refine z_fcallVl (u := zHo ao co o168 ++ wC ad cy σ168) (w := wM am cm) (As := []) (rest := []) hC (zI.swap hI) (zKM hI.1) (cX12_mix_met st l D am cm μ  _ g170) (zgV zw93_7 zw93_8 zw93_9 zw1_5 zw93_10) rfl ⟨rfl, rfl⟩ 0 hdX12_mix ⟨Nat.le_of_ble_eq_true rfl, Nat.le_of_ble_eq_true rfl⟩ rfl rfl (wM_e0 am cm μ) rfl hl rfl (Nat.le_of_ble_eq_true rfl) dL_law_1301 ⟨by show cells + 1 ≤ 600128; omega, by show slots + 6 ≤ 7301064; omega⟩ (fun H locs hI => ?_)
  have hI : zLw st D ad cy am cm ao co μ170 o168 σ168 s H locs := zI.swap hI
  refine lv_lstore (lv' := [(6, .long v171), (5, .int v169), (4, .int x4), (3, .ref ao), (2, .ref (am 0)), (1, .ref (ad 0)), (0, .ref b)]) hx hb dL_law_1304 hl (by decide) rfl (fun ls hl => ?_)
  refine lv_goto (tgt := 1418) hx hb dL_law_1306 (by decide) ?_
  obtain ⟨v172, ev172⟩ : ∃ z : Int32, z = x4 + 8 := ⟨_, rfl⟩
  replace hf := zbv_use ev172 hf
  refine lv_iinc (v := v172) (lv' := [(4, .int v172), (6, .long v171), (5, .int v169), (3, .ref ao), (2, .ref (am 0)), (1, .ref (ad 0)), (0, .ref b)]) hx hb dL_law_1418 hl (k := 2) rfl (by rw [ev172]; rfl) (by decide) rfl (fun ls hl => ?_)
  refine lv_goto (tgt := 33) hx hb dL_law_1421 (by decide) ?_
  exact hk _ _ _ _ _ _ _ _ _ (by omega) (by omega) hI (lv_sub hl [0, 3, 4, 5, 6] rfl) hf
def fLaw_1309 (xs : Nat → Int32) (L : Nat) (kn : zSt → (Nat → Int64) → zSt → Int32 → Option Int32) (μ : zSt) (o : Nat → Int64) (σ : zSt) (x4 : Int32) : Option Int32 :=
  zck (zin (x4 + 1) L) (zbh (fL_wave o σ (xs (x4 + 1).toNatClampNeg)) (fun o173 σ173 v174 =>
  zck (zin (x4 + 1) L) (zbi (fX12_wave μ (xs (x4 + 1).toNatClampNeg)) (fun μ175 v176 =>
  zbv (x4 + 8) (fun v177 => kn μ175 o173 σ173 v177)))))
set_option maxRecDepth 20000 in
set_option maxHeartbeats 4000000 in
theorem bLaw_1309 {p : Program} {l : Launch} {e : Env} {s : State} {m : MethodId} {below : List Frame} {meth : Method} {c : Code} {st : Nat → Nat} {D : va_G} {b L : Nat} {xs : Nat → Int32} {ad am : Nat → Nat} {cy cm : Nat → ClassId} {ao : Nat} {co : ClassId} (hC : zC p m c cL_law 8 s #[Value.ref b] wzL_law RL meth ret) (hst : l.stackTraces = false) (hX : va_X b L xs s s.heap) (hbl : b < s.heap.size) (hbA : ¬ (fun q : Nat => s.heap.size ≤ q) b) {n : Nat} {kn : zSt → (Nat → Int64) → zSt → Int32 → Option Int32} (hk : ∀ (H : Heap) (locs : List Loc) (μ : zSt) (o : Nat → Int64) (σ : zSt) (ls : Array Slot) (x4 : Int32) (cells slots : Nat), cells + n ≤ 600128 → slots + 6 * n ≤ 7301064 → zLw st D ad cy am cm ao co μ o σ s H locs → lv_has ls 8 [(4, .int x4), (3, .ref ao), (2, .ref (am 0)), (1, .ref (ad 0)), (0, .ref b)] → kn μ o σ x4 = some 1 → W p l e room_1 s m #[Value.ref b] below meth c H locs cells slots (lw_Z below #[Value.ref b] s) (F0 m 33 ls [])) {H : Heap} {locs : List Loc} {μ : zSt} {o : Nat → Int64} {σ : zSt} {ls : Array Slot} {x4 : Int32} {cells slots : Nat} (hc : cells + (n + 1) ≤ 600128) (hs : slots + 6 * (n + 1) ≤ 7301064) (hI : zLw st D ad cy am cm ao co μ o σ s H locs) (hl : lv_has ls 8 [(4, .int x4), (3, .ref ao), (2, .ref (am 0)), (1, .ref (ad 0)), (0, .ref b)]) (hf : fLaw_1309 xs L kn μ o σ x4 = some 1) : W p l e room_1 s m #[Value.ref b] below meth c H locs cells slots (lw_Z below #[Value.ref b] s) (F0 m 1309 ls []) := by
  have hx := hC.1
  have hb := hC.2.1
  unfold fLaw_1309 at hf
  refine lv_aload_n hx hb dL_law_1309 rfl (lv_at hl 3 rfl) ?_
  refine lv_aload_n hx hb dL_law_1310 rfl (lv_at hl 4 rfl) ?_
  refine lv_iload hx hb dL_law_1311 (lv_at hl 0 rfl) ?_
  refine lv_iconst (v := 1) hx hb dL_law_1313 (by decide) ?_
  refine lv_iadd hx hb dL_law_1314 ?_
  obtain ⟨q, hf⟩ := zck_use hf
  refine va_sld hx hb hX hbl hbA hI.2.2.2.1 (zin_in q) dL_law_1315 ?_
  refine lv_aload_n hx hb dL_law_1316 rfl (lv_at hl 1 rfl) ?_
  obtain ⟨o173, σ173, v174, g173, hf⟩ := zbh_use hf
  refine z_fcallH (u := wM am cm μ) (w := fun x : zHs => zHo ao co x.1 ++ wC ad cy x.2) (x := (o, σ)) (As := [.ref (ad 0), .int (xs (x4 + 1).toNatClampNeg), .ref ao]) (rest := []) hC hI (zKH hI.1) (cL_wave_met st l hst D ad cy ao co o σ (xs (x4 + 1).toNatClampNeg) _ g173) (zgS zw93_11 zw93_12 zw1_10 zw93_13) rfl ⟨rfl, rfl⟩ 3 hdL_wave ⟨Nat.le_of_ble_eq_true rfl, Nat.le_of_ble_eq_true rfl⟩ rfl hl rfl (Nat.le_of_ble_eq_true rfl) dL_law_1317 ⟨by show cells + 1 ≤ 600128; omega, by show slots + 6 ≤ 7301064; omega⟩ (fun H locs hI => ?_)
  have hI : zLw st D ad cy am cm ao co μ o173 σ173 s H locs := hI
  refine lv_istore (lv' := [(5, .int v174), (4, .int x4), (3, .ref ao), (2, .ref (am 0)), (1, .ref (ad 0)), (0, .ref b)]) hx hb dL_law_1320 hl (by decide) rfl (fun ls hl => ?_)
  refine lv_aload_n hx hb dL_law_1322 rfl (lv_at hl 3 rfl) ?_
  refine lv_aload_n hx hb dL_law_1323 rfl (lv_at hl 5 rfl) ?_
  refine lv_iload hx hb dL_law_1324 (lv_at hl 1 rfl) ?_
  refine lv_iconst (v := 1) hx hb dL_law_1326 (by decide) ?_
  refine lv_iadd hx hb dL_law_1327 ?_
  obtain ⟨q, hf⟩ := zck_use hf
  refine va_sld hx hb hX hbl hbA hI.2.2.2.1 (zin_in q) dL_law_1328 ?_
  obtain ⟨μ175, v176, g175, hf⟩ := zbi_use hf
  refine z_fcallVi (u := zHo ao co o173 ++ wC ad cy σ173) (w := wM am cm) (As := [.int (xs (x4 + 1).toNatClampNeg)]) (rest := []) hC (zI.swap hI) (zKM hI.1) (cX12_wave_met st l D am cm μ (xs (x4 + 1).toNatClampNeg) _ g175) (zgV zw93_22 zw93_23 zw94_0 zw1_5 zw94_1) rfl ⟨rfl, rfl⟩ 1 hdX12_wave ⟨Nat.le_of_ble_eq_true rfl, Nat.le_of_ble_eq_true rfl⟩ rfl rfl (wM_e0 am cm μ) rfl hl rfl (Nat.le_of_ble_eq_true rfl) dL_law_1329 ⟨by show cells + 1 ≤ 600128; omega, by show slots + 6 ≤ 7301064; omega⟩ (fun H locs hI => ?_)
  have hI : zLw st D ad cy am cm ao co μ175 o173 σ173 s H locs := zI.swap hI
  refine lv_istore (lv' := [(6, .int v176), (5, .int v174), (4, .int x4), (3, .ref ao), (2, .ref (am 0)), (1, .ref (ad 0)), (0, .ref b)]) hx hb dL_law_1332 hl (by decide) rfl (fun ls hl => ?_)
  refine lv_goto (tgt := 1418) hx hb dL_law_1334 (by decide) ?_
  obtain ⟨v177, ev177⟩ : ∃ z : Int32, z = x4 + 8 := ⟨_, rfl⟩
  replace hf := zbv_use ev177 hf
  refine lv_iinc (v := v177) (lv' := [(4, .int v177), (6, .int v176), (5, .int v174), (3, .ref ao), (2, .ref (am 0)), (1, .ref (ad 0)), (0, .ref b)]) hx hb dL_law_1418 hl (k := 2) rfl (by rw [ev177]; rfl) (by decide) rfl (fun ls hl => ?_)
  refine lv_goto (tgt := 33) hx hb dL_law_1421 (by decide) ?_
  exact hk _ _ _ _ _ _ _ _ _ (by omega) (by omega) hI (lv_sub hl [0, 3, 4, 5, 6] rfl) hf
def fLaw_1337 (xs : Nat → Int32) (L : Nat) (kn : zSt → (Nat → Int64) → zSt → Int32 → Option Int32) (μ : zSt) (o : Nat → Int64) (σ : zSt) (x4 : Int32) : Option Int32 :=
  zck (zin (x4 + 1) L) (zbh (fL_sound o σ (xs (x4 + 1).toNatClampNeg)) (fun o178 σ178 v179 =>
  zck (zin (x4 + 1) L) (zbi (fX12_sound μ (xs (x4 + 1).toNatClampNeg)) (fun μ180 v181 =>
  zbv (x4 + 8) (fun v182 => kn μ180 o178 σ178 v182)))))
set_option maxRecDepth 20000 in
set_option maxHeartbeats 4000000 in
theorem bLaw_1337 {p : Program} {l : Launch} {e : Env} {s : State} {m : MethodId} {below : List Frame} {meth : Method} {c : Code} {st : Nat → Nat} {D : va_G} {b L : Nat} {xs : Nat → Int32} {ad am : Nat → Nat} {cy cm : Nat → ClassId} {ao : Nat} {co : ClassId} (hC : zC p m c cL_law 8 s #[Value.ref b] wzL_law RL meth ret) (hst : l.stackTraces = false) (hX : va_X b L xs s s.heap) (hbl : b < s.heap.size) (hbA : ¬ (fun q : Nat => s.heap.size ≤ q) b) {n : Nat} {kn : zSt → (Nat → Int64) → zSt → Int32 → Option Int32} (hk : ∀ (H : Heap) (locs : List Loc) (μ : zSt) (o : Nat → Int64) (σ : zSt) (ls : Array Slot) (x4 : Int32) (cells slots : Nat), cells + n ≤ 600128 → slots + 6 * n ≤ 7301064 → zLw st D ad cy am cm ao co μ o σ s H locs → lv_has ls 8 [(4, .int x4), (3, .ref ao), (2, .ref (am 0)), (1, .ref (ad 0)), (0, .ref b)] → kn μ o σ x4 = some 1 → W p l e room_1 s m #[Value.ref b] below meth c H locs cells slots (lw_Z below #[Value.ref b] s) (F0 m 33 ls [])) {H : Heap} {locs : List Loc} {μ : zSt} {o : Nat → Int64} {σ : zSt} {ls : Array Slot} {x4 : Int32} {cells slots : Nat} (hc : cells + (n + 1) ≤ 600128) (hs : slots + 6 * (n + 1) ≤ 7301064) (hI : zLw st D ad cy am cm ao co μ o σ s H locs) (hl : lv_has ls 8 [(4, .int x4), (3, .ref ao), (2, .ref (am 0)), (1, .ref (ad 0)), (0, .ref b)]) (hf : fLaw_1337 xs L kn μ o σ x4 = some 1) : W p l e room_1 s m #[Value.ref b] below meth c H locs cells slots (lw_Z below #[Value.ref b] s) (F0 m 1337 ls []) := by
  have hx := hC.1
  have hb := hC.2.1
  unfold fLaw_1337 at hf
  refine lv_aload_n hx hb dL_law_1337 rfl (lv_at hl 3 rfl) ?_
  refine lv_aload_n hx hb dL_law_1338 rfl (lv_at hl 4 rfl) ?_
  refine lv_iload hx hb dL_law_1339 (lv_at hl 0 rfl) ?_
  refine lv_iconst (v := 1) hx hb dL_law_1341 (by decide) ?_
  refine lv_iadd hx hb dL_law_1342 ?_
  obtain ⟨q, hf⟩ := zck_use hf
  refine va_sld hx hb hX hbl hbA hI.2.2.2.1 (zin_in q) dL_law_1343 ?_
  refine lv_aload_n hx hb dL_law_1344 rfl (lv_at hl 1 rfl) ?_
  obtain ⟨o178, σ178, v179, g178, hf⟩ := zbh_use hf
  refine z_fcallH (u := wM am cm μ) (w := fun x : zHs => zHo ao co x.1 ++ wC ad cy x.2) (x := (o, σ)) (As := [.ref (ad 0), .int (xs (x4 + 1).toNatClampNeg), .ref ao]) (rest := []) hC hI (zKH hI.1) (cL_sound_met st l hst D ad cy ao co o σ (xs (x4 + 1).toNatClampNeg) _ g178) (zgS zw94_5 zw94_6 zw1_10 zw94_7) rfl ⟨rfl, rfl⟩ 3 hdL_sound ⟨Nat.le_of_ble_eq_true rfl, Nat.le_of_ble_eq_true rfl⟩ rfl hl rfl (Nat.le_of_ble_eq_true rfl) dL_law_1345 ⟨by show cells + 1 ≤ 600128; omega, by show slots + 6 ≤ 7301064; omega⟩ (fun H locs hI => ?_)
  have hI : zLw st D ad cy am cm ao co μ o178 σ178 s H locs := hI
  refine lv_istore (lv' := [(5, .int v179), (4, .int x4), (3, .ref ao), (2, .ref (am 0)), (1, .ref (ad 0)), (0, .ref b)]) hx hb dL_law_1348 hl (by decide) rfl (fun ls hl => ?_)
  refine lv_aload_n hx hb dL_law_1350 rfl (lv_at hl 3 rfl) ?_
  refine lv_aload_n hx hb dL_law_1351 rfl (lv_at hl 5 rfl) ?_
  refine lv_iload hx hb dL_law_1352 (lv_at hl 1 rfl) ?_
  refine lv_iconst (v := 1) hx hb dL_law_1354 (by decide) ?_
  refine lv_iadd hx hb dL_law_1355 ?_
  obtain ⟨q, hf⟩ := zck_use hf
  refine va_sld hx hb hX hbl hbA hI.2.2.2.1 (zin_in q) dL_law_1356 ?_
  obtain ⟨μ180, v181, g180, hf⟩ := zbi_use hf
  refine z_fcallVi (u := zHo ao co o178 ++ wC ad cy σ178) (w := wM am cm) (As := [.int (xs (x4 + 1).toNatClampNeg)]) (rest := []) hC (zI.swap hI) (zKM hI.1) (cX12_sound_met st l D am cm μ (xs (x4 + 1).toNatClampNeg) _ g180) (zgV zw94_16 zw94_17 zw94_18 zw1_5 zw94_19) rfl ⟨rfl, rfl⟩ 1 hdX12_sound ⟨Nat.le_of_ble_eq_true rfl, Nat.le_of_ble_eq_true rfl⟩ rfl rfl (wM_e0 am cm μ) rfl hl rfl (Nat.le_of_ble_eq_true rfl) dL_law_1357 ⟨by show cells + 1 ≤ 600128; omega, by show slots + 6 ≤ 7301064; omega⟩ (fun H locs hI => ?_)
  have hI : zLw st D ad cy am cm ao co μ180 o178 σ178 s H locs := zI.swap hI
  refine lv_istore (lv' := [(6, .int v181), (5, .int v179), (4, .int x4), (3, .ref ao), (2, .ref (am 0)), (1, .ref (ad 0)), (0, .ref b)]) hx hb dL_law_1360 hl (by decide) rfl (fun ls hl => ?_)
  refine lv_goto (tgt := 1418) hx hb dL_law_1362 (by decide) ?_
  obtain ⟨v182, ev182⟩ : ∃ z : Int32, z = x4 + 8 := ⟨_, rfl⟩
  replace hf := zbv_use ev182 hf
  refine lv_iinc (v := v182) (lv' := [(4, .int v182), (6, .int v181), (5, .int v179), (3, .ref ao), (2, .ref (am 0)), (1, .ref (ad 0)), (0, .ref b)]) hx hb dL_law_1418 hl (k := 2) rfl (by rw [ev182]; rfl) (by decide) rfl (fun ls hl => ?_)
  refine lv_goto (tgt := 33) hx hb dL_law_1421 (by decide) ?_
  exact hk _ _ _ _ _ _ _ _ _ (by omega) (by omega) hI (lv_sub hl [0, 3, 4, 5, 6] rfl) hf
def fLaw_1365 (xs : Nat → Int32) (L : Nat) (kn : zSt → (Nat → Int64) → zSt → Int32 → Option Int32) (μ : zSt) (o : Nat → Int64) (σ : zSt) (x4 : Int32) : Option Int32 :=
  zck (zin (x4 + 1) L) (zbi (fX11_trace σ (xs (x4 + 1).toNatClampNeg)) (fun σ183 v184 =>
  zck (zin (x4 + 1) L) (zbi (fX12_trace μ (xs (x4 + 1).toNatClampNeg)) (fun μ185 v186 =>
  zbv (x4 + 8) (fun v187 => kn μ185 o σ183 v187)))))
set_option maxRecDepth 20000 in
set_option maxHeartbeats 4000000 in
theorem bLaw_1365 {p : Program} {l : Launch} {e : Env} {s : State} {m : MethodId} {below : List Frame} {meth : Method} {c : Code} {st : Nat → Nat} {D : va_G} {b L : Nat} {xs : Nat → Int32} {ad am : Nat → Nat} {cy cm : Nat → ClassId} {ao : Nat} {co : ClassId} (hC : zC p m c cL_law 8 s #[Value.ref b] wzL_law RL meth ret) (hst : l.stackTraces = false) (hX : va_X b L xs s s.heap) (hbl : b < s.heap.size) (hbA : ¬ (fun q : Nat => s.heap.size ≤ q) b) {n : Nat} {kn : zSt → (Nat → Int64) → zSt → Int32 → Option Int32} (hk : ∀ (H : Heap) (locs : List Loc) (μ : zSt) (o : Nat → Int64) (σ : zSt) (ls : Array Slot) (x4 : Int32) (cells slots : Nat), cells + n ≤ 600128 → slots + 6 * n ≤ 7301064 → zLw st D ad cy am cm ao co μ o σ s H locs → lv_has ls 8 [(4, .int x4), (3, .ref ao), (2, .ref (am 0)), (1, .ref (ad 0)), (0, .ref b)] → kn μ o σ x4 = some 1 → W p l e room_1 s m #[Value.ref b] below meth c H locs cells slots (lw_Z below #[Value.ref b] s) (F0 m 33 ls [])) {H : Heap} {locs : List Loc} {μ : zSt} {o : Nat → Int64} {σ : zSt} {ls : Array Slot} {x4 : Int32} {cells slots : Nat} (hc : cells + (n + 1) ≤ 600128) (hs : slots + 6 * (n + 1) ≤ 7301064) (hI : zLw st D ad cy am cm ao co μ o σ s H locs) (hl : lv_has ls 8 [(4, .int x4), (3, .ref ao), (2, .ref (am 0)), (1, .ref (ad 0)), (0, .ref b)]) (hf : fLaw_1365 xs L kn μ o σ x4 = some 1) : W p l e room_1 s m #[Value.ref b] below meth c H locs cells slots (lw_Z below #[Value.ref b] s) (F0 m 1365 ls []) := by
  have hx := hC.1
  have hb := hC.2.1
  unfold fLaw_1365 at hf
  refine lv_aload_n hx hb dL_law_1365 rfl (lv_at hl 3 rfl) ?_
  refine lv_aload_n hx hb dL_law_1366 rfl (lv_at hl 4 rfl) ?_
  refine lv_iload hx hb dL_law_1367 (lv_at hl 0 rfl) ?_
  refine lv_iconst (v := 1) hx hb dL_law_1369 (by decide) ?_
  refine lv_iadd hx hb dL_law_1370 ?_
  obtain ⟨q, hf⟩ := zck_use hf
  refine va_sld hx hb hX hbl hbA hI.2.2.2.1 (zin_in q) dL_law_1371 ?_
  obtain ⟨σ183, v184, g183, hf⟩ := zbi_use hf
  refine z_fcallVi (u := wM am cm μ ++ zHo ao co o) (w := wC ad cy) (As := [.int (xs (x4 + 1).toNatClampNeg)]) (rest := []) hC (zI.al hI) (zKC hI.1) (cX11_trace_met st l D ad cy σ (xs (x4 + 1).toNatClampNeg) _ g183) (zgV zw94_21 zw94_22 zw94_23 zw1_2 zw95_0) rfl ⟨rfl, rfl⟩ 1 hdX11_trace ⟨Nat.le_of_ble_eq_true rfl, Nat.le_of_ble_eq_true rfl⟩ rfl rfl (wC_e0 ad cy σ) rfl hl rfl (Nat.le_of_ble_eq_true rfl) dL_law_1372 ⟨by show cells ≤ 600128; omega, by show slots ≤ 7301064; omega⟩ (fun H locs hI => ?_)
  have hI : zLw st D ad cy am cm ao co μ o σ183 s H locs := zI.ar hI
  refine lv_pop hx hb dL_law_1375 rfl ?_
  refine lv_aload_n hx hb dL_law_1376 rfl (lv_at hl 2 rfl) ?_
  refine lv_aload_n hx hb dL_law_1377 rfl (lv_at hl 4 rfl) ?_
  refine lv_iload hx hb dL_law_1378 (lv_at hl 0 rfl) ?_
  refine lv_iconst (v := 1) hx hb dL_law_1380 (by decide) ?_
  refine lv_iadd hx hb dL_law_1381 ?_
  obtain ⟨q, hf⟩ := zck_use hf
  refine va_sld hx hb hX hbl hbA hI.2.2.2.1 (zin_in q) dL_law_1382 ?_
  obtain ⟨μ185, v186, g185, hf⟩ := zbi_use hf
  refine z_fcallVi (u := zHo ao co o ++ wC ad cy σ183) (w := wM am cm) (As := [.int (xs (x4 + 1).toNatClampNeg)]) (rest := []) hC (zI.swap hI) (zKM hI.1) (cX12_trace_met st l D am cm μ (xs (x4 + 1).toNatClampNeg) _ g185) (zgV zw95_5 zw95_6 zw95_7 zw1_5 zw95_8) rfl ⟨rfl, rfl⟩ 1 hdX12_trace ⟨Nat.le_of_ble_eq_true rfl, Nat.le_of_ble_eq_true rfl⟩ rfl rfl (wM_e0 am cm μ) rfl hl rfl (Nat.le_of_ble_eq_true rfl) dL_law_1383 ⟨by show cells ≤ 600128; omega, by show slots ≤ 7301064; omega⟩ (fun H locs hI => ?_)
  have hI : zLw st D ad cy am cm ao co μ185 o σ183 s H locs := zI.swap hI
  refine lv_pop hx hb dL_law_1386 rfl ?_
  refine lv_goto (tgt := 1418) hx hb dL_law_1387 (by decide) ?_
  obtain ⟨v187, ev187⟩ : ∃ z : Int32, z = x4 + 8 := ⟨_, rfl⟩
  replace hf := zbv_use ev187 hf
  refine lv_iinc (v := v187) (lv' := [(4, .int v187), (3, .ref ao), (2, .ref (am 0)), (1, .ref (ad 0)), (0, .ref b)]) hx hb dL_law_1418 hl (k := 0) rfl (by rw [ev187]; rfl) (by decide) rfl (fun ls hl => ?_)
  refine lv_goto (tgt := 33) hx hb dL_law_1421 (by decide) ?_
  exact hk _ _ _ _ _ _ _ _ _ (by omega) (by omega) hI (lv_sub hl [0, 1, 2, 3, 4] rfl) hf
def fLaw_1390 (xs : Nat → Int32) (L : Nat) (kn : zSt → (Nat → Int64) → zSt → Int32 → Option Int32) (μ : zSt) (o : Nat → Int64) (σ : zSt) (x4 : Int32) : Option Int32 :=
  zck (zin (x4 + 1) L) (zbh (fL_look o σ (xs (x4 + 1).toNatClampNeg)) (fun o188 σ188 v189 =>
  zck (zin (x4 + 1) L) (zbl (fX12_look μ (xs (x4 + 1).toNatClampNeg)) (fun μ190 v191 =>
  zbv (x4 + 8) (fun v192 => kn μ190 o188 σ188 v192)))))
set_option maxRecDepth 20000 in
set_option maxHeartbeats 4000000 in
theorem bLaw_1390 {p : Program} {l : Launch} {e : Env} {s : State} {m : MethodId} {below : List Frame} {meth : Method} {c : Code} {st : Nat → Nat} {D : va_G} {b L : Nat} {xs : Nat → Int32} {ad am : Nat → Nat} {cy cm : Nat → ClassId} {ao : Nat} {co : ClassId} (hC : zC p m c cL_law 8 s #[Value.ref b] wzL_law RL meth ret) (hst : l.stackTraces = false) (hX : va_X b L xs s s.heap) (hbl : b < s.heap.size) (hbA : ¬ (fun q : Nat => s.heap.size ≤ q) b) {n : Nat} {kn : zSt → (Nat → Int64) → zSt → Int32 → Option Int32} (hk : ∀ (H : Heap) (locs : List Loc) (μ : zSt) (o : Nat → Int64) (σ : zSt) (ls : Array Slot) (x4 : Int32) (cells slots : Nat), cells + n ≤ 600128 → slots + 6 * n ≤ 7301064 → zLw st D ad cy am cm ao co μ o σ s H locs → lv_has ls 8 [(4, .int x4), (3, .ref ao), (2, .ref (am 0)), (1, .ref (ad 0)), (0, .ref b)] → kn μ o σ x4 = some 1 → W p l e room_1 s m #[Value.ref b] below meth c H locs cells slots (lw_Z below #[Value.ref b] s) (F0 m 33 ls [])) {H : Heap} {locs : List Loc} {μ : zSt} {o : Nat → Int64} {σ : zSt} {ls : Array Slot} {x4 : Int32} {cells slots : Nat} (hc : cells + (n + 1) ≤ 600128) (hs : slots + 6 * (n + 1) ≤ 7301064) (hI : zLw st D ad cy am cm ao co μ o σ s H locs) (hl : lv_has ls 8 [(4, .int x4), (3, .ref ao), (2, .ref (am 0)), (1, .ref (ad 0)), (0, .ref b)]) (hf : fLaw_1390 xs L kn μ o σ x4 = some 1) : W p l e room_1 s m #[Value.ref b] below meth c H locs cells slots (lw_Z below #[Value.ref b] s) (F0 m 1390 ls []) := by
  have hx := hC.1
  have hb := hC.2.1
  unfold fLaw_1390 at hf
  refine lv_aload_n hx hb dL_law_1390 rfl (lv_at hl 3 rfl) ?_
  refine lv_aload_n hx hb dL_law_1391 rfl (lv_at hl 4 rfl) ?_
  refine lv_iload hx hb dL_law_1392 (lv_at hl 0 rfl) ?_
  refine lv_iconst (v := 1) hx hb dL_law_1394 (by decide) ?_
  refine lv_iadd hx hb dL_law_1395 ?_
  obtain ⟨q, hf⟩ := zck_use hf
  refine va_sld hx hb hX hbl hbA hI.2.2.2.1 (zin_in q) dL_law_1396 ?_
  refine lv_aload_n hx hb dL_law_1397 rfl (lv_at hl 1 rfl) ?_
  obtain ⟨o188, σ188, v189, g188, hf⟩ := zbh_use hf
  refine z_fcallH (u := wM am cm μ) (w := fun x : zHs => zHo ao co x.1 ++ wC ad cy x.2) (x := (o, σ)) (As := [.ref (ad 0), .int (xs (x4 + 1).toNatClampNeg), .ref ao]) (rest := []) hC hI (zKH hI.1) (cL_look_met st l hst D ad cy ao co o σ (xs (x4 + 1).toNatClampNeg) _ g188) (zgS zw95_10 zw95_11 zw1_10 zw95_12) rfl ⟨rfl, rfl⟩ 3 hdL_look ⟨Nat.le_of_ble_eq_true rfl, Nat.le_of_ble_eq_true rfl⟩ rfl hl rfl (Nat.le_of_ble_eq_true rfl) dL_law_1398 ⟨by show cells + 1 ≤ 600128; omega, by show slots + 6 ≤ 7301064; omega⟩ (fun H locs hI => ?_)
  have hI : zLw st D ad cy am cm ao co μ o188 σ188 s H locs := hI
  refine lv_istore (lv' := [(5, .int v189), (4, .int x4), (3, .ref ao), (2, .ref (am 0)), (1, .ref (ad 0)), (0, .ref b)]) hx hb dL_law_1401 hl (by decide) rfl (fun ls hl => ?_)
  refine lv_aload_n hx hb dL_law_1403 rfl (lv_at hl 3 rfl) ?_
  refine lv_aload_n hx hb dL_law_1404 rfl (lv_at hl 5 rfl) ?_
  refine lv_iload hx hb dL_law_1405 (lv_at hl 1 rfl) ?_
  refine lv_iconst (v := 1) hx hb dL_law_1407 (by decide) ?_
  refine lv_iadd hx hb dL_law_1408 ?_
  obtain ⟨q, hf⟩ := zck_use hf
  refine va_sld hx hb hX hbl hbA hI.2.2.2.1 (zin_in q) dL_law_1409 ?_
  obtain ⟨μ190, v191, g190, hf⟩ := zbl_use hf
  refine z_fcallVl (u := zHo ao co o188 ++ wC ad cy σ188) (w := wM am cm) (As := [.int (xs (x4 + 1).toNatClampNeg)]) (rest := []) hC (zI.swap hI) (zKM hI.1) (cX12_look_met st l D am cm μ (xs (x4 + 1).toNatClampNeg) _ g190) (zgV zw96_9 zw96_10 zw96_11 zw1_5 zw96_12) rfl ⟨rfl, rfl⟩ 1 hdX12_look ⟨Nat.le_of_ble_eq_true rfl, Nat.le_of_ble_eq_true rfl⟩ rfl rfl (wM_e0 am cm μ) rfl hl rfl (Nat.le_of_ble_eq_true rfl) dL_law_1410 ⟨by show cells + 1 ≤ 600128; omega, by show slots + 6 ≤ 7301064; omega⟩ (fun H locs hI => ?_)
  have hI : zLw st D ad cy am cm ao co μ190 o188 σ188 s H locs := zI.swap hI
  refine lv_lstore (lv' := [(6, .long v191), (5, .int v189), (4, .int x4), (3, .ref ao), (2, .ref (am 0)), (1, .ref (ad 0)), (0, .ref b)]) hx hb dL_law_1413 hl (by decide) rfl (fun ls hl => ?_)
  refine lv_goto (tgt := 1418) hx hb dL_law_1415 (by decide) ?_
  obtain ⟨v192, ev192⟩ : ∃ z : Int32, z = x4 + 8 := ⟨_, rfl⟩
  replace hf := zbv_use ev192 hf
  refine lv_iinc (v := v192) (lv' := [(4, .int v192), (6, .long v191), (5, .int v189), (3, .ref ao), (2, .ref (am 0)), (1, .ref (ad 0)), (0, .ref b)]) hx hb dL_law_1418 hl (k := 2) rfl (by rw [ev192]; rfl) (by decide) rfl (fun ls hl => ?_)
  refine lv_goto (tgt := 33) hx hb dL_law_1421 (by decide) ?_
  exact hk _ _ _ _ _ _ _ _ _ (by omega) (by omega) hI (lv_sub hl [0, 3, 4, 5, 6] rfl) hf
def fLaw_1418 (xs : Nat → Int32) (L : Nat) (kn : zSt → (Nat → Int64) → zSt → Int32 → Option Int32) (μ : zSt) (o : Nat → Int64) (σ : zSt) (x4 : Int32) : Option Int32 :=
  zbv (x4 + 8) (fun v193 => kn μ o σ v193)
set_option maxRecDepth 20000 in
set_option maxHeartbeats 4000000 in
theorem bLaw_1418 {p : Program} {l : Launch} {e : Env} {s : State} {m : MethodId} {below : List Frame} {meth : Method} {c : Code} {st : Nat → Nat} {D : va_G} {b L : Nat} {xs : Nat → Int32} {ad am : Nat → Nat} {cy cm : Nat → ClassId} {ao : Nat} {co : ClassId} (hC : zC p m c cL_law 8 s #[Value.ref b] wzL_law RL meth ret) (hst : l.stackTraces = false) (hX : va_X b L xs s s.heap) (hbl : b < s.heap.size) (hbA : ¬ (fun q : Nat => s.heap.size ≤ q) b) {n : Nat} {kn : zSt → (Nat → Int64) → zSt → Int32 → Option Int32} (hk : ∀ (H : Heap) (locs : List Loc) (μ : zSt) (o : Nat → Int64) (σ : zSt) (ls : Array Slot) (x4 : Int32) (cells slots : Nat), cells + n ≤ 600128 → slots + 6 * n ≤ 7301064 → zLw st D ad cy am cm ao co μ o σ s H locs → lv_has ls 8 [(4, .int x4), (3, .ref ao), (2, .ref (am 0)), (1, .ref (ad 0)), (0, .ref b)] → kn μ o σ x4 = some 1 → W p l e room_1 s m #[Value.ref b] below meth c H locs cells slots (lw_Z below #[Value.ref b] s) (F0 m 33 ls [])) {H : Heap} {locs : List Loc} {μ : zSt} {o : Nat → Int64} {σ : zSt} {ls : Array Slot} {x4 : Int32} {cells slots : Nat} (hc : cells + (n + 1) ≤ 600128) (hs : slots + 6 * (n + 1) ≤ 7301064) (hI : zLw st D ad cy am cm ao co μ o σ s H locs) (hl : lv_has ls 8 [(4, .int x4), (3, .ref ao), (2, .ref (am 0)), (1, .ref (ad 0)), (0, .ref b)]) (hf : fLaw_1418 xs L kn μ o σ x4 = some 1) : W p l e room_1 s m #[Value.ref b] below meth c H locs cells slots (lw_Z below #[Value.ref b] s) (F0 m 1418 ls []) := by
  have hx := hC.1
  have hb := hC.2.1
  unfold fLaw_1418 at hf
  obtain ⟨v193, ev193⟩ : ∃ z : Int32, z = x4 + 8 := ⟨_, rfl⟩
  replace hf := zbv_use ev193 hf
  refine lv_iinc (v := v193) (lv' := [(4, .int v193), (3, .ref ao), (2, .ref (am 0)), (1, .ref (ad 0)), (0, .ref b)]) hx hb dL_law_1418 hl (k := 0) rfl (by rw [ev193]; rfl) (by decide) rfl (fun ls hl => ?_)
  refine lv_goto (tgt := 33) hx hb dL_law_1421 (by decide) ?_
  exact hk _ _ _ _ _ _ _ _ _ (by omega) (by omega) hI (lv_sub hl [0, 1, 2, 3, 4] rfl) hf
