def fLaw_208 (xs : Nat → Int32) (L : Nat) (kn : zSt → (Nat → Int64) → zSt → Int32 → Option Int32) (μ : zSt) (o : Nat → Int64) (σ : zSt) (x4 : Int32) : Option Int32 :=
  zck (zin (x4 + 1) L) (zck (zin (x4 + 2) L) (zck (zin (x4 + 3) L) (zck (zin (x4 + 4) L) (zck (zin (x4 + 5) L) (zck (zin (x4 + 6) L) (zck (zin (x4 + 7) L) (zbh (fL_feed o σ (xs (x4 + 1).toNatClampNeg) ((zlshl ((xs (x4 + 2).toNatClampNeg).toInt64) 32) ||| (((xs (x4 + 3).toNatClampNeg).toInt64) &&& 4294967295)) ((zlshl ((xs (x4 + 4).toNatClampNeg).toInt64) 32) ||| (((xs (x4 + 5).toNatClampNeg).toInt64) &&& 4294967295)) ((zlshl ((xs (x4 + 6).toNatClampNeg).toInt64) 32) ||| (((xs (x4 + 7).toNatClampNeg).toInt64) &&& 4294967295))) (fun o1 σ1 v2 =>
  zck (zin (x4 + 1) L) (zck (zin (x4 + 2) L) (zck (zin (x4 + 3) L) (zck (zin (x4 + 4) L) (zck (zin (x4 + 5) L) (zck (zin (x4 + 6) L) (zck (zin (x4 + 7) L) (zbi (fX12_feed μ (xs (x4 + 1).toNatClampNeg) ((zlshl ((xs (x4 + 2).toNatClampNeg).toInt64) 32) ||| (((xs (x4 + 3).toNatClampNeg).toInt64) &&& 4294967295)) ((zlshl ((xs (x4 + 4).toNatClampNeg).toInt64) 32) ||| (((xs (x4 + 5).toNatClampNeg).toInt64) &&& 4294967295)) ((zlshl ((xs (x4 + 6).toNatClampNeg).toInt64) 32) ||| (((xs (x4 + 7).toNatClampNeg).toInt64) &&& 4294967295))) (fun μ3 v4 =>
  zbi (fX12_thrown μ3 ) (fun μ5 v6 =>
  if v6 = v2 then if v2 = 0 then if (lg_cmp (o1 0) (v4.toInt64)) = 0 then zbv (x4 + 8) (fun v8 => kn μ5 o1 σ1 v8) else
  some 0 else
  zbv (x4 + 8) (fun v7 => kn μ5 o1 σ1 v7) else
  some 0)))))))))))))))))
set_option maxRecDepth 20000 in
set_option maxHeartbeats 4000000 in
theorem bLaw_208 {p : Program} {l : Launch} {e : Env} {s : State} {m : MethodId} {below : List Frame} {meth : Method} {c : Code} {st : Nat → Nat} {D : va_G} {b L : Nat} {xs : Nat → Int32} {ad am : Nat → Nat} {cy cm : Nat → ClassId} {ao : Nat} {co : ClassId} (hC : zC p m c cL_law 8 s #[Value.ref b] wzL_law RL meth ret) (hst : l.stackTraces = false) (hX : va_X b L xs s s.heap) (hbl : b < s.heap.size) (hbA : ¬ (fun q : Nat => s.heap.size ≤ q) b) {n : Nat} {kn : zSt → (Nat → Int64) → zSt → Int32 → Option Int32} (hk : ∀ (H : Heap) (locs : List Loc) (μ : zSt) (o : Nat → Int64) (σ : zSt) (ls : Array Slot) (x4 : Int32) (cells slots : Nat), cells + n ≤ 600002 → slots + 6 * n ≤ 7302198 → zLw st D ad cy am cm ao co μ o σ s H locs → lv_has ls 8 [(4, .int x4), (3, .ref ao), (2, .ref (am 0)), (1, .ref (ad 0)), (0, .ref b)] → kn μ o σ x4 = some 1 → W p l e room_1 s m #[Value.ref b] below meth c H locs cells slots (lw_Z below #[Value.ref b] s) (F0 m 33 ls [])) {H : Heap} {locs : List Loc} {μ : zSt} {o : Nat → Int64} {σ : zSt} {ls : Array Slot} {x4 : Int32} {cells slots : Nat} (hc : cells + (n + 1) ≤ 600002) (hs : slots + 6 * (n + 1) ≤ 7302198) (hI : zLw st D ad cy am cm ao co μ o σ s H locs) (hl : lv_has ls 8 [(4, .int x4), (3, .ref ao), (2, .ref (am 0)), (1, .ref (ad 0)), (0, .ref b)]) (hf : fLaw_208 xs L kn μ o σ x4 = some 1) : W p l e room_1 s m #[Value.ref b] below meth c H locs cells slots (lw_Z below #[Value.ref b] s) (F0 m 208 ls []) := by
  have hx := hC.1
  have hb := hC.2.1
  unfold fLaw_208 at hf
  refine lv_aload_n hx hb dL_law_208 rfl (lv_at hl 3 rfl) ?_
  refine lv_aload_n hx hb dL_law_209 rfl (lv_at hl 4 rfl) ?_
  refine lv_iload hx hb dL_law_210 (lv_at hl 0 rfl) ?_
  refine lv_iconst (v := 1) hx hb dL_law_212 (by decide) ?_
  refine lv_iadd hx hb dL_law_213 ?_
  obtain ⟨q, hf⟩ := zck_use hf
  refine va_sld hx hb hX hbl hbA hI.2.2.2.1 (zin_in q) dL_law_214 ?_
  refine lv_aload_n hx hb dL_law_215 rfl (lv_at hl 4 rfl) ?_
  refine lv_iload hx hb dL_law_216 (lv_at hl 0 rfl) ?_
  refine lv_iconst (v := 2) hx hb dL_law_218 (by decide) ?_
  refine lv_iadd hx hb dL_law_219 ?_
  obtain ⟨q, hf⟩ := zck_use hf
  refine va_sld hx hb hX hbl hbA hI.2.2.2.1 (zin_in q) dL_law_220 ?_
  refine lv_i2l (v := (xs (x4 + 2).toNatClampNeg).toInt64) hx hb dL_law_221 rfl ?_
  refine lv_bipush (v := 32) hx hb dL_law_222 (by decide) ?_
  refine lv_lshl (v := zlshl ((xs (x4 + 2).toNatClampNeg).toInt64) 32) hx hb dL_law_224 rfl ?_
  refine lv_aload_n hx hb dL_law_225 rfl (lv_at hl 4 rfl) ?_
  refine lv_iload hx hb dL_law_226 (lv_at hl 0 rfl) ?_
  refine lv_iconst (v := 3) hx hb dL_law_228 (by decide) ?_
  refine lv_iadd hx hb dL_law_229 ?_
  obtain ⟨q, hf⟩ := zck_use hf
  refine va_sld hx hb hX hbl hbA hI.2.2.2.1 (zin_in q) dL_law_230 ?_
  refine lv_i2l (v := (xs (x4 + 3).toNatClampNeg).toInt64) hx hb dL_law_231 rfl ?_
  refine lv_ldc2 (v := 4294967295) hx hb hC.2.2.2.1 (hC.2.2.2.2.1 _ (List.mem_cons_of_mem _ zw1_7)) dL_law_232 ?_
  refine lv_land hx hb dL_law_235 ?_
  refine lv_lor hx hb dL_law_236 ?_
  refine lv_aload_n hx hb dL_law_237 rfl (lv_at hl 4 rfl) ?_
  refine lv_iload hx hb dL_law_238 (lv_at hl 0 rfl) ?_
  refine lv_iconst (v := 4) hx hb dL_law_240 (by decide) ?_
  refine lv_iadd hx hb dL_law_241 ?_
  obtain ⟨q, hf⟩ := zck_use hf
  refine va_sld hx hb hX hbl hbA hI.2.2.2.1 (zin_in q) dL_law_242 ?_
  refine lv_i2l (v := (xs (x4 + 4).toNatClampNeg).toInt64) hx hb dL_law_243 rfl ?_
  refine lv_bipush (v := 32) hx hb dL_law_244 (by decide) ?_
  refine lv_lshl (v := zlshl ((xs (x4 + 4).toNatClampNeg).toInt64) 32) hx hb dL_law_246 rfl ?_
  refine lv_aload_n hx hb dL_law_247 rfl (lv_at hl 4 rfl) ?_
  refine lv_iload hx hb dL_law_248 (lv_at hl 0 rfl) ?_
  refine lv_iconst (v := 5) hx hb dL_law_250 (by decide) ?_
  refine lv_iadd hx hb dL_law_251 ?_
  obtain ⟨q, hf⟩ := zck_use hf
  refine va_sld hx hb hX hbl hbA hI.2.2.2.1 (zin_in q) dL_law_252 ?_
  refine lv_i2l (v := (xs (x4 + 5).toNatClampNeg).toInt64) hx hb dL_law_253 rfl ?_
  refine lv_ldc2 (v := 4294967295) hx hb hC.2.2.2.1 (hC.2.2.2.2.1 _ (List.mem_cons_of_mem _ zw1_7)) dL_law_254 ?_
  refine lv_land hx hb dL_law_257 ?_
  refine lv_lor hx hb dL_law_258 ?_
  refine lv_aload_n hx hb dL_law_259 rfl (lv_at hl 4 rfl) ?_
  refine lv_iload hx hb dL_law_260 (lv_at hl 0 rfl) ?_
  refine lv_bipush (v := 6) hx hb dL_law_262 (by decide) ?_
  refine lv_iadd hx hb dL_law_264 ?_
  obtain ⟨q, hf⟩ := zck_use hf
  refine va_sld hx hb hX hbl hbA hI.2.2.2.1 (zin_in q) dL_law_265 ?_
  refine lv_i2l (v := (xs (x4 + 6).toNatClampNeg).toInt64) hx hb dL_law_266 rfl ?_
  refine lv_bipush (v := 32) hx hb dL_law_267 (by decide) ?_
  refine lv_lshl (v := zlshl ((xs (x4 + 6).toNatClampNeg).toInt64) 32) hx hb dL_law_269 rfl ?_
  refine lv_aload_n hx hb dL_law_270 rfl (lv_at hl 4 rfl) ?_
  refine lv_iload hx hb dL_law_271 (lv_at hl 0 rfl) ?_
  refine lv_bipush (v := 7) hx hb dL_law_273 (by decide) ?_
  refine lv_iadd hx hb dL_law_275 ?_
  obtain ⟨q, hf⟩ := zck_use hf
  refine va_sld hx hb hX hbl hbA hI.2.2.2.1 (zin_in q) dL_law_276 ?_
  refine lv_i2l (v := (xs (x4 + 7).toNatClampNeg).toInt64) hx hb dL_law_277 rfl ?_
  refine lv_ldc2 (v := 4294967295) hx hb hC.2.2.2.1 (hC.2.2.2.2.1 _ (List.mem_cons_of_mem _ zw1_7)) dL_law_278 ?_
  refine lv_land hx hb dL_law_281 ?_
  refine lv_lor hx hb dL_law_282 ?_
  refine lv_aload_n hx hb dL_law_283 rfl (lv_at hl 1 rfl) ?_
  obtain ⟨o1, σ1, v2, g1, hf⟩ := zbh_use hf
  refine z_fcallH (u := wM am cm μ) (w := fun x : zHs => zHo ao co x.1 ++ wC ad cy x.2) (x := (o, σ)) (As := [.ref (ad 0), .int (xs (x4 + 1).toNatClampNeg), .long ((zlshl ((xs (x4 + 2).toNatClampNeg).toInt64) 32) ||| (((xs (x4 + 3).toNatClampNeg).toInt64) &&& 4294967295)), .long ((zlshl ((xs (x4 + 4).toNatClampNeg).toInt64) 32) ||| (((xs (x4 + 5).toNatClampNeg).toInt64) &&& 4294967295)), .long ((zlshl ((xs (x4 + 6).toNatClampNeg).toInt64) 32) ||| (((xs (x4 + 7).toNatClampNeg).toInt64) &&& 4294967295)), .ref ao]) (rest := []) hC hI (zKH hI.1) (cL_feed_met st l hst D ad cy ao co o σ (xs (x4 + 1).toNatClampNeg) ((zlshl ((xs (x4 + 2).toNatClampNeg).toInt64) 32) ||| (((xs (x4 + 3).toNatClampNeg).toInt64) &&& 4294967295)) ((zlshl ((xs (x4 + 4).toNatClampNeg).toInt64) 32) ||| (((xs (x4 + 5).toNatClampNeg).toInt64) &&& 4294967295)) ((zlshl ((xs (x4 + 6).toNatClampNeg).toInt64) 32) ||| (((xs (x4 + 7).toNatClampNeg).toInt64) &&& 4294967295)) _ g1) (zgS zw10_17 zw10_18 zw1_10 zw10_19) rfl ⟨rfl, rfl⟩ 6 hdL_feed ⟨Nat.le_of_ble_eq_true rfl, Nat.le_of_ble_eq_true rfl⟩ rfl hl rfl (Nat.le_of_ble_eq_true rfl) dL_law_284 ⟨by show cells + 1 ≤ 600002; omega, by show slots + 6 ≤ 7302198; omega⟩ (fun H locs hI => ?_)
  have hI : zLw st D ad cy am cm ao co μ o1 σ1 s H locs := hI
  refine lv_istore (lv' := [(5, .int v2), (4, .int x4), (3, .ref ao), (2, .ref (am 0)), (1, .ref (ad 0)), (0, .ref b)]) hx hb dL_law_287 hl (by decide) rfl (fun ls hl => ?_)
  refine lv_aload_n hx hb dL_law_289 rfl (lv_at hl 3 rfl) ?_
  refine lv_aload_n hx hb dL_law_290 rfl (lv_at hl 5 rfl) ?_
  refine lv_iload hx hb dL_law_291 (lv_at hl 1 rfl) ?_
  refine lv_iconst (v := 1) hx hb dL_law_293 (by decide) ?_
  refine lv_iadd hx hb dL_law_294 ?_
  obtain ⟨q, hf⟩ := zck_use hf
  refine va_sld hx hb hX hbl hbA hI.2.2.2.1 (zin_in q) dL_law_295 ?_
  refine lv_aload_n hx hb dL_law_296 rfl (lv_at hl 5 rfl) ?_
  refine lv_iload hx hb dL_law_297 (lv_at hl 1 rfl) ?_
  refine lv_iconst (v := 2) hx hb dL_law_299 (by decide) ?_
  refine lv_iadd hx hb dL_law_300 ?_
  obtain ⟨q, hf⟩ := zck_use hf
  refine va_sld hx hb hX hbl hbA hI.2.2.2.1 (zin_in q) dL_law_301 ?_
  refine lv_i2l (v := (xs (x4 + 2).toNatClampNeg).toInt64) hx hb dL_law_302 rfl ?_
  refine lv_bipush (v := 32) hx hb dL_law_303 (by decide) ?_
  refine lv_lshl (v := zlshl ((xs (x4 + 2).toNatClampNeg).toInt64) 32) hx hb dL_law_305 rfl ?_
  refine lv_aload_n hx hb dL_law_306 rfl (lv_at hl 5 rfl) ?_
  refine lv_iload hx hb dL_law_307 (lv_at hl 1 rfl) ?_
  refine lv_iconst (v := 3) hx hb dL_law_309 (by decide) ?_
  refine lv_iadd hx hb dL_law_310 ?_
  obtain ⟨q, hf⟩ := zck_use hf
  refine va_sld hx hb hX hbl hbA hI.2.2.2.1 (zin_in q) dL_law_311 ?_
  refine lv_i2l (v := (xs (x4 + 3).toNatClampNeg).toInt64) hx hb dL_law_312 rfl ?_
  refine lv_ldc2 (v := 4294967295) hx hb hC.2.2.2.1 (hC.2.2.2.2.1 _ (List.mem_cons_of_mem _ zw1_7)) dL_law_313 ?_
  refine lv_land hx hb dL_law_316 ?_
  refine lv_lor hx hb dL_law_317 ?_
  refine lv_aload_n hx hb dL_law_318 rfl (lv_at hl 5 rfl) ?_
  refine lv_iload hx hb dL_law_319 (lv_at hl 1 rfl) ?_
  refine lv_iconst (v := 4) hx hb dL_law_321 (by decide) ?_
  refine lv_iadd hx hb dL_law_322 ?_
  obtain ⟨q, hf⟩ := zck_use hf
  refine va_sld hx hb hX hbl hbA hI.2.2.2.1 (zin_in q) dL_law_323 ?_
  refine lv_i2l (v := (xs (x4 + 4).toNatClampNeg).toInt64) hx hb dL_law_324 rfl ?_
  refine lv_bipush (v := 32) hx hb dL_law_325 (by decide) ?_
  refine lv_lshl (v := zlshl ((xs (x4 + 4).toNatClampNeg).toInt64) 32) hx hb dL_law_327 rfl ?_
  refine lv_aload_n hx hb dL_law_328 rfl (lv_at hl 5 rfl) ?_
  refine lv_iload hx hb dL_law_329 (lv_at hl 1 rfl) ?_
  refine lv_iconst (v := 5) hx hb dL_law_331 (by decide) ?_
  refine lv_iadd hx hb dL_law_332 ?_
  obtain ⟨q, hf⟩ := zck_use hf
  refine va_sld hx hb hX hbl hbA hI.2.2.2.1 (zin_in q) dL_law_333 ?_
  refine lv_i2l (v := (xs (x4 + 5).toNatClampNeg).toInt64) hx hb dL_law_334 rfl ?_
  refine lv_ldc2 (v := 4294967295) hx hb hC.2.2.2.1 (hC.2.2.2.2.1 _ (List.mem_cons_of_mem _ zw1_7)) dL_law_335 ?_
  refine lv_land hx hb dL_law_338 ?_
  refine lv_lor hx hb dL_law_339 ?_
  refine lv_aload_n hx hb dL_law_340 rfl (lv_at hl 5 rfl) ?_
  refine lv_iload hx hb dL_law_341 (lv_at hl 1 rfl) ?_
  refine lv_bipush (v := 6) hx hb dL_law_343 (by decide) ?_
  refine lv_iadd hx hb dL_law_345 ?_
  obtain ⟨q, hf⟩ := zck_use hf
  refine va_sld hx hb hX hbl hbA hI.2.2.2.1 (zin_in q) dL_law_346 ?_
  refine lv_i2l (v := (xs (x4 + 6).toNatClampNeg).toInt64) hx hb dL_law_347 rfl ?_
  refine lv_bipush (v := 32) hx hb dL_law_348 (by decide) ?_
  refine lv_lshl (v := zlshl ((xs (x4 + 6).toNatClampNeg).toInt64) 32) hx hb dL_law_350 rfl ?_
  refine lv_aload_n hx hb dL_law_351 rfl (lv_at hl 5 rfl) ?_
  refine lv_iload hx hb dL_law_352 (lv_at hl 1 rfl) ?_
  refine lv_bipush (v := 7) hx hb dL_law_354 (by decide) ?_
  refine lv_iadd hx hb dL_law_356 ?_
  obtain ⟨q, hf⟩ := zck_use hf
  refine va_sld hx hb hX hbl hbA hI.2.2.2.1 (zin_in q) dL_law_357 ?_
  refine lv_i2l (v := (xs (x4 + 7).toNatClampNeg).toInt64) hx hb dL_law_358 rfl ?_
  refine lv_ldc2 (v := 4294967295) hx hb hC.2.2.2.1 (hC.2.2.2.2.1 _ (List.mem_cons_of_mem _ zw1_7)) dL_law_359 ?_
  refine lv_land hx hb dL_law_362 ?_
  refine lv_lor hx hb dL_law_363 ?_
  obtain ⟨μ3, v4, g3, hf⟩ := zbi_use hf
  refine z_fcallVi (u := zHo ao co o1 ++ wC ad cy σ1) (w := wM am cm) (As := [.int (xs (x4 + 1).toNatClampNeg), .long ((zlshl ((xs (x4 + 2).toNatClampNeg).toInt64) 32) ||| (((xs (x4 + 3).toNatClampNeg).toInt64) &&& 4294967295)), .long ((zlshl ((xs (x4 + 4).toNatClampNeg).toInt64) 32) ||| (((xs (x4 + 5).toNatClampNeg).toInt64) &&& 4294967295)), .long ((zlshl ((xs (x4 + 6).toNatClampNeg).toInt64) 32) ||| (((xs (x4 + 7).toNatClampNeg).toInt64) &&& 4294967295))]) (rest := []) hC (zI.swap hI) (zKM hI.1) (cX12_feed_met st l D am cm μ (xs (x4 + 1).toNatClampNeg) ((zlshl ((xs (x4 + 2).toNatClampNeg).toInt64) 32) ||| (((xs (x4 + 3).toNatClampNeg).toInt64) &&& 4294967295)) ((zlshl ((xs (x4 + 4).toNatClampNeg).toInt64) 32) ||| (((xs (x4 + 5).toNatClampNeg).toInt64) &&& 4294967295)) ((zlshl ((xs (x4 + 6).toNatClampNeg).toInt64) 32) ||| (((xs (x4 + 7).toNatClampNeg).toInt64) &&& 4294967295)) _ g3) (zgV zw11_12 zw11_13 zw11_14 zw1_5 zw11_15) rfl ⟨rfl, rfl⟩ 4 hdX12_feed ⟨Nat.le_of_ble_eq_true rfl, Nat.le_of_ble_eq_true rfl⟩ rfl rfl (wM_e0 am cm μ) rfl hl rfl (Nat.le_of_ble_eq_true rfl) dL_law_364 ⟨by show cells + 1 ≤ 600002; omega, by show slots + 6 ≤ 7302198; omega⟩ (fun H locs hI => ?_)
  have hI : zLw st D ad cy am cm ao co μ3 o1 σ1 s H locs := zI.swap hI
  refine lv_istore (lv' := [(6, .int v4), (5, .int v2), (4, .int x4), (3, .ref ao), (2, .ref (am 0)), (1, .ref (ad 0)), (0, .ref b)]) hx hb dL_law_367 hl (by decide) rfl (fun ls hl => ?_)
  refine lv_aload_n hx hb dL_law_369 rfl (lv_at hl 4 rfl) ?_
  obtain ⟨μ5, v6, g5, hf⟩ := zbi_use hf
  refine z_fcallVi (u := zHo ao co o1 ++ wC ad cy σ1) (w := wM am cm) (As := []) (rest := []) hC (zI.swap hI) (zKM hI.1) (cX12_thrown_met st l D am cm μ3  _ g5) (zgV zw12_2 zw12_3 zw12_4 zw1_5 zw12_5) rfl ⟨rfl, rfl⟩ 0 hdX12_thrown ⟨Nat.le_of_ble_eq_true rfl, Nat.le_of_ble_eq_true rfl⟩ rfl rfl (wM_e0 am cm μ3) rfl hl rfl (Nat.le_of_ble_eq_true rfl) dL_law_370 ⟨by show cells + 1 ≤ 600002; omega, by show slots + 6 ≤ 7302198; omega⟩ (fun H locs hI => ?_)
  have hI : zLw st D ad cy am cm ao co μ5 o1 σ1 s H locs := zI.swap hI
  refine lv_iload hx hb dL_law_373 (lv_at hl 1 rfl) ?_
  refine lv_icmp_eq (tgt := 380) hx hb dL_law_375 (by decide) (fun q => ?_) (fun q => ?_)
  · replace hf := zif_t q hf
    refine lv_iload hx hb dL_law_380 (lv_at hl 1 rfl) ?_
    refine lv_if_ne (tgt := 397) hx hb dL_law_382 (by decide) (fun q => ?_) (fun q => ?_)
    · replace hf := zif_f q hf
      refine lv_goto (tgt := 1946) hx hb dL_law_397 (by decide) ?_
      obtain ⟨v7, ev7⟩ : ∃ z : Int32, z = x4 + 8 := ⟨_, rfl⟩
      replace hf := zbv_use ev7 hf
      refine lv_iinc (v := v7) (lv' := [(4, .int v7), (6, .int v4), (5, .int v2), (3, .ref ao), (2, .ref (am 0)), (1, .ref (ad 0)), (0, .ref b)]) hx hb dL_law_1946 hl (k := 2) rfl (by rw [ev7]; rfl) (by decide) rfl (fun ls hl => ?_)
      refine lv_goto (tgt := 33) hx hb dL_law_1949 (by decide) ?_
      exact hk _ _ _ _ _ _ _ _ _ (by omega) (by omega) hI (lv_sub hl [0, 3, 4, 5, 6] rfl) hf
    replace hf := zif_t q hf
    refine lv_aload_n hx hb dL_law_385 rfl (lv_at hl 3 rfl) ?_
    refine lv_iconst (v := 0) hx hb dL_law_386 (by decide) ?_
    refine z_lald (i := 0) hC hI 27 63 (zLo_e am cm ao co μ5 o1 _) (zLo_t cy cm co) (by decide) dL_law_387 ?_
    refine lv_iload hx hb dL_law_388 (lv_at hl 0 rfl) ?_
    refine lv_i2l (v := v4.toInt64) hx hb dL_law_390 rfl ?_
    refine W.lcmp hx hb dL_law_391 ?_
    refine lv_if_eq (tgt := 397) hx hb dL_law_392 (by decide) (fun q => ?_) (fun q => ?_)
    · replace hf := zif_t q hf
      refine lv_goto (tgt := 1946) hx hb dL_law_397 (by decide) ?_
      obtain ⟨v8, ev8⟩ : ∃ z : Int32, z = x4 + 8 := ⟨_, rfl⟩
      replace hf := zbv_use ev8 hf
      refine lv_iinc (v := v8) (lv' := [(4, .int v8), (6, .int v4), (5, .int v2), (3, .ref ao), (2, .ref (am 0)), (1, .ref (ad 0)), (0, .ref b)]) hx hb dL_law_1946 hl (k := 2) rfl (by rw [ev8]; rfl) (by decide) rfl (fun ls hl => ?_)
      refine lv_goto (tgt := 33) hx hb dL_law_1949 (by decide) ?_
      exact hk _ _ _ _ _ _ _ _ _ (by omega) (by omega) hI (lv_sub hl [0, 3, 4, 5, 6] rfl) hf
    replace hf := zif_f q hf
    refine lv_iconst (v := 0) hx hb dL_law_395 (by decide) ?_
    exact absurd (Option.some.inj hf) (by decide)
  replace hf := zif_f q hf
  refine lv_iconst (v := 0) hx hb dL_law_378 (by decide) ?_
  exact absurd (Option.some.inj hf) (by decide)
def fLaw_400 (xs : Nat → Int32) (L : Nat) (kn : zSt → (Nat → Int64) → zSt → Int32 → Option Int32) (μ : zSt) (o : Nat → Int64) (σ : zSt) (x4 : Int32) : Option Int32 :=
  zck (zin (x4 + 1) L) (zbh (fL_grow o σ (xs (x4 + 1).toNatClampNeg)) (fun o9 σ9 v10 =>
  zck (zin (x4 + 1) L) (zbi (fX12_grow μ (xs (x4 + 1).toNatClampNeg)) (fun μ11 v12 =>
  zbi (fX12_thrown μ11 ) (fun μ13 v14 =>
  if v14 = v10 then if v10 = 0 then if (lg_cmp (o9 0) (v12.toInt64)) = 0 then zbv (x4 + 8) (fun v16 => kn μ13 o9 σ9 v16) else
  some 0 else
  zbv (x4 + 8) (fun v15 => kn μ13 o9 σ9 v15) else
  some 0)))))
set_option maxRecDepth 20000 in
set_option maxHeartbeats 4000000 in
theorem bLaw_400 {p : Program} {l : Launch} {e : Env} {s : State} {m : MethodId} {below : List Frame} {meth : Method} {c : Code} {st : Nat → Nat} {D : va_G} {b L : Nat} {xs : Nat → Int32} {ad am : Nat → Nat} {cy cm : Nat → ClassId} {ao : Nat} {co : ClassId} (hC : zC p m c cL_law 8 s #[Value.ref b] wzL_law RL meth ret) (hst : l.stackTraces = false) (hX : va_X b L xs s s.heap) (hbl : b < s.heap.size) (hbA : ¬ (fun q : Nat => s.heap.size ≤ q) b) {n : Nat} {kn : zSt → (Nat → Int64) → zSt → Int32 → Option Int32} (hk : ∀ (H : Heap) (locs : List Loc) (μ : zSt) (o : Nat → Int64) (σ : zSt) (ls : Array Slot) (x4 : Int32) (cells slots : Nat), cells + n ≤ 600002 → slots + 6 * n ≤ 7302198 → zLw st D ad cy am cm ao co μ o σ s H locs → lv_has ls 8 [(4, .int x4), (3, .ref ao), (2, .ref (am 0)), (1, .ref (ad 0)), (0, .ref b)] → kn μ o σ x4 = some 1 → W p l e room_1 s m #[Value.ref b] below meth c H locs cells slots (lw_Z below #[Value.ref b] s) (F0 m 33 ls [])) {H : Heap} {locs : List Loc} {μ : zSt} {o : Nat → Int64} {σ : zSt} {ls : Array Slot} {x4 : Int32} {cells slots : Nat} (hc : cells + (n + 1) ≤ 600002) (hs : slots + 6 * (n + 1) ≤ 7302198) (hI : zLw st D ad cy am cm ao co μ o σ s H locs) (hl : lv_has ls 8 [(4, .int x4), (3, .ref ao), (2, .ref (am 0)), (1, .ref (ad 0)), (0, .ref b)]) (hf : fLaw_400 xs L kn μ o σ x4 = some 1) : W p l e room_1 s m #[Value.ref b] below meth c H locs cells slots (lw_Z below #[Value.ref b] s) (F0 m 400 ls []) := by
  have hx := hC.1
  have hb := hC.2.1
  unfold fLaw_400 at hf
  refine lv_aload_n hx hb dL_law_400 rfl (lv_at hl 3 rfl) ?_
  refine lv_aload_n hx hb dL_law_401 rfl (lv_at hl 4 rfl) ?_
  refine lv_iload hx hb dL_law_402 (lv_at hl 0 rfl) ?_
  refine lv_iconst (v := 1) hx hb dL_law_404 (by decide) ?_
  refine lv_iadd hx hb dL_law_405 ?_
  obtain ⟨q, hf⟩ := zck_use hf
  refine va_sld hx hb hX hbl hbA hI.2.2.2.1 (zin_in q) dL_law_406 ?_
  refine lv_aload_n hx hb dL_law_407 rfl (lv_at hl 1 rfl) ?_
  obtain ⟨o9, σ9, v10, g9, hf⟩ := zbh_use hf
  refine z_fcallH (u := wM am cm μ) (w := fun x : zHs => zHo ao co x.1 ++ wC ad cy x.2) (x := (o, σ)) (As := [.ref (ad 0), .int (xs (x4 + 1).toNatClampNeg), .ref ao]) (rest := []) hC hI (zKH hI.1) (cL_grow_met st l hst D ad cy ao co o σ (xs (x4 + 1).toNatClampNeg) _ g9) (zgS zw12_6 zw12_7 zw1_10 zw12_8) rfl ⟨rfl, rfl⟩ 3 hdL_grow ⟨Nat.le_of_ble_eq_true rfl, Nat.le_of_ble_eq_true rfl⟩ rfl hl rfl (Nat.le_of_ble_eq_true rfl) dL_law_408 ⟨by show cells + 1 ≤ 600002; omega, by show slots + 6 ≤ 7302198; omega⟩ (fun H locs hI => ?_)
  have hI : zLw st D ad cy am cm ao co μ o9 σ9 s H locs := hI
  refine lv_istore (lv' := [(5, .int v10), (4, .int x4), (3, .ref ao), (2, .ref (am 0)), (1, .ref (ad 0)), (0, .ref b)]) hx hb dL_law_411 hl (by decide) rfl (fun ls hl => ?_)
  refine lv_aload_n hx hb dL_law_413 rfl (lv_at hl 3 rfl) ?_
  refine lv_aload_n hx hb dL_law_414 rfl (lv_at hl 5 rfl) ?_
  refine lv_iload hx hb dL_law_415 (lv_at hl 1 rfl) ?_
  refine lv_iconst (v := 1) hx hb dL_law_417 (by decide) ?_
  refine lv_iadd hx hb dL_law_418 ?_
  obtain ⟨q, hf⟩ := zck_use hf
  refine va_sld hx hb hX hbl hbA hI.2.2.2.1 (zin_in q) dL_law_419 ?_
  obtain ⟨μ11, v12, g11, hf⟩ := zbi_use hf
  refine z_fcallVi (u := zHo ao co o9 ++ wC ad cy σ9) (w := wM am cm) (As := [.int (xs (x4 + 1).toNatClampNeg)]) (rest := []) hC (zI.swap hI) (zKM hI.1) (cX12_grow_met st l D am cm μ (xs (x4 + 1).toNatClampNeg) _ g11) (zgV zw13_0 zw13_1 zw13_2 zw1_5 zw13_3) rfl ⟨rfl, rfl⟩ 1 hdX12_grow ⟨Nat.le_of_ble_eq_true rfl, Nat.le_of_ble_eq_true rfl⟩ rfl rfl (wM_e0 am cm μ) rfl hl rfl (Nat.le_of_ble_eq_true rfl) dL_law_420 ⟨by show cells + 1 ≤ 600002; omega, by show slots + 6 ≤ 7302198; omega⟩ (fun H locs hI => ?_)
  have hI : zLw st D ad cy am cm ao co μ11 o9 σ9 s H locs := zI.swap hI
  refine lv_istore (lv' := [(6, .int v12), (5, .int v10), (4, .int x4), (3, .ref ao), (2, .ref (am 0)), (1, .ref (ad 0)), (0, .ref b)]) hx hb dL_law_423 hl (by decide) rfl (fun ls hl => ?_)
  refine lv_aload_n hx hb dL_law_425 rfl (lv_at hl 4 rfl) ?_
  obtain ⟨μ13, v14, g13, hf⟩ := zbi_use hf
  refine z_fcallVi (u := zHo ao co o9 ++ wC ad cy σ9) (w := wM am cm) (As := []) (rest := []) hC (zI.swap hI) (zKM hI.1) (cX12_thrown_met st l D am cm μ11  _ g13) (zgV zw12_2 zw12_3 zw12_4 zw1_5 zw12_5) rfl ⟨rfl, rfl⟩ 0 hdX12_thrown ⟨Nat.le_of_ble_eq_true rfl, Nat.le_of_ble_eq_true rfl⟩ rfl rfl (wM_e0 am cm μ11) rfl hl rfl (Nat.le_of_ble_eq_true rfl) dL_law_426 ⟨by show cells + 1 ≤ 600002; omega, by show slots + 6 ≤ 7302198; omega⟩ (fun H locs hI => ?_)
  have hI : zLw st D ad cy am cm ao co μ13 o9 σ9 s H locs := zI.swap hI
  refine lv_iload hx hb dL_law_429 (lv_at hl 1 rfl) ?_
  refine lv_icmp_eq (tgt := 436) hx hb dL_law_431 (by decide) (fun q => ?_) (fun q => ?_)
  · replace hf := zif_t q hf
    refine lv_iload hx hb dL_law_436 (lv_at hl 1 rfl) ?_
    refine lv_if_ne (tgt := 453) hx hb dL_law_438 (by decide) (fun q => ?_) (fun q => ?_)
    · replace hf := zif_f q hf
      refine lv_goto (tgt := 1946) hx hb dL_law_453 (by decide) ?_
      obtain ⟨v15, ev15⟩ : ∃ z : Int32, z = x4 + 8 := ⟨_, rfl⟩
      replace hf := zbv_use ev15 hf
      refine lv_iinc (v := v15) (lv' := [(4, .int v15), (6, .int v12), (5, .int v10), (3, .ref ao), (2, .ref (am 0)), (1, .ref (ad 0)), (0, .ref b)]) hx hb dL_law_1946 hl (k := 2) rfl (by rw [ev15]; rfl) (by decide) rfl (fun ls hl => ?_)
      refine lv_goto (tgt := 33) hx hb dL_law_1949 (by decide) ?_
      exact hk _ _ _ _ _ _ _ _ _ (by omega) (by omega) hI (lv_sub hl [0, 3, 4, 5, 6] rfl) hf
    replace hf := zif_t q hf
    refine lv_aload_n hx hb dL_law_441 rfl (lv_at hl 3 rfl) ?_
    refine lv_iconst (v := 0) hx hb dL_law_442 (by decide) ?_
    refine z_lald (i := 0) hC hI 27 63 (zLo_e am cm ao co μ13 o9 _) (zLo_t cy cm co) (by decide) dL_law_443 ?_
    refine lv_iload hx hb dL_law_444 (lv_at hl 0 rfl) ?_
    refine lv_i2l (v := v12.toInt64) hx hb dL_law_446 rfl ?_
    refine W.lcmp hx hb dL_law_447 ?_
    refine lv_if_eq (tgt := 453) hx hb dL_law_448 (by decide) (fun q => ?_) (fun q => ?_)
    · replace hf := zif_t q hf
      refine lv_goto (tgt := 1946) hx hb dL_law_453 (by decide) ?_
      obtain ⟨v16, ev16⟩ : ∃ z : Int32, z = x4 + 8 := ⟨_, rfl⟩
      replace hf := zbv_use ev16 hf
      refine lv_iinc (v := v16) (lv' := [(4, .int v16), (6, .int v12), (5, .int v10), (3, .ref ao), (2, .ref (am 0)), (1, .ref (ad 0)), (0, .ref b)]) hx hb dL_law_1946 hl (k := 2) rfl (by rw [ev16]; rfl) (by decide) rfl (fun ls hl => ?_)
      refine lv_goto (tgt := 33) hx hb dL_law_1949 (by decide) ?_
      exact hk _ _ _ _ _ _ _ _ _ (by omega) (by omega) hI (lv_sub hl [0, 3, 4, 5, 6] rfl) hf
    replace hf := zif_f q hf
    refine lv_iconst (v := 0) hx hb dL_law_451 (by decide) ?_
    exact absurd (Option.some.inj hf) (by decide)
  replace hf := zif_f q hf
  refine lv_iconst (v := 0) hx hb dL_law_434 (by decide) ?_
  exact absurd (Option.some.inj hf) (by decide)
def fLaw_456 (xs : Nat → Int32) (L : Nat) (kn : zSt → (Nat → Int64) → zSt → Int32 → Option Int32) (μ : zSt) (o : Nat → Int64) (σ : zSt) (x4 : Int32) : Option Int32 :=
  zck (zin (x4 + 1) L) (zck (zin (x4 + 2) L) (zck (zin (x4 + 3) L) (zbi (fL_patch σ (xs (x4 + 1).toNatClampNeg) ((zlshl ((xs (x4 + 2).toNatClampNeg).toInt64) 32) ||| (((xs (x4 + 3).toNatClampNeg).toInt64) &&& 4294967295))) (fun σ17 v18 =>
  zck (zin (x4 + 1) L) (zck (zin (x4 + 2) L) (zck (zin (x4 + 3) L) (zbu (fX12_patch μ (xs (x4 + 1).toNatClampNeg) ((zlshl ((xs (x4 + 2).toNatClampNeg).toInt64) 32) ||| (((xs (x4 + 3).toNatClampNeg).toInt64) &&& 4294967295))) (fun μ19 =>
  zbi (fX12_thrown μ19 ) (fun μ20 v21 =>
  if v21 = v18 then zbv (x4 + 8) (fun v22 => kn μ20 o σ17 v22) else
  some 0)))))))))
set_option maxRecDepth 20000 in
set_option maxHeartbeats 4000000 in
theorem bLaw_456 {p : Program} {l : Launch} {e : Env} {s : State} {m : MethodId} {below : List Frame} {meth : Method} {c : Code} {st : Nat → Nat} {D : va_G} {b L : Nat} {xs : Nat → Int32} {ad am : Nat → Nat} {cy cm : Nat → ClassId} {ao : Nat} {co : ClassId} (hC : zC p m c cL_law 8 s #[Value.ref b] wzL_law RL meth ret) (hst : l.stackTraces = false) (hX : va_X b L xs s s.heap) (hbl : b < s.heap.size) (hbA : ¬ (fun q : Nat => s.heap.size ≤ q) b) {n : Nat} {kn : zSt → (Nat → Int64) → zSt → Int32 → Option Int32} (hk : ∀ (H : Heap) (locs : List Loc) (μ : zSt) (o : Nat → Int64) (σ : zSt) (ls : Array Slot) (x4 : Int32) (cells slots : Nat), cells + n ≤ 600002 → slots + 6 * n ≤ 7302198 → zLw st D ad cy am cm ao co μ o σ s H locs → lv_has ls 8 [(4, .int x4), (3, .ref ao), (2, .ref (am 0)), (1, .ref (ad 0)), (0, .ref b)] → kn μ o σ x4 = some 1 → W p l e room_1 s m #[Value.ref b] below meth c H locs cells slots (lw_Z below #[Value.ref b] s) (F0 m 33 ls [])) {H : Heap} {locs : List Loc} {μ : zSt} {o : Nat → Int64} {σ : zSt} {ls : Array Slot} {x4 : Int32} {cells slots : Nat} (hc : cells + (n + 1) ≤ 600002) (hs : slots + 6 * (n + 1) ≤ 7302198) (hI : zLw st D ad cy am cm ao co μ o σ s H locs) (hl : lv_has ls 8 [(4, .int x4), (3, .ref ao), (2, .ref (am 0)), (1, .ref (ad 0)), (0, .ref b)]) (hf : fLaw_456 xs L kn μ o σ x4 = some 1) : W p l e room_1 s m #[Value.ref b] below meth c H locs cells slots (lw_Z below #[Value.ref b] s) (F0 m 456 ls []) := by
  have hx := hC.1
  have hb := hC.2.1
  unfold fLaw_456 at hf
  refine lv_aload_n hx hb dL_law_456 rfl (lv_at hl 3 rfl) ?_
  refine lv_aload_n hx hb dL_law_457 rfl (lv_at hl 4 rfl) ?_
  refine lv_iload hx hb dL_law_458 (lv_at hl 0 rfl) ?_
  refine lv_iconst (v := 1) hx hb dL_law_460 (by decide) ?_
  refine lv_iadd hx hb dL_law_461 ?_
  obtain ⟨q, hf⟩ := zck_use hf
  refine va_sld hx hb hX hbl hbA hI.2.2.2.1 (zin_in q) dL_law_462 ?_
  refine lv_aload_n hx hb dL_law_463 rfl (lv_at hl 4 rfl) ?_
  refine lv_iload hx hb dL_law_464 (lv_at hl 0 rfl) ?_
  refine lv_iconst (v := 2) hx hb dL_law_466 (by decide) ?_
  refine lv_iadd hx hb dL_law_467 ?_
  obtain ⟨q, hf⟩ := zck_use hf
  refine va_sld hx hb hX hbl hbA hI.2.2.2.1 (zin_in q) dL_law_468 ?_
  refine lv_i2l (v := (xs (x4 + 2).toNatClampNeg).toInt64) hx hb dL_law_469 rfl ?_
  refine lv_bipush (v := 32) hx hb dL_law_470 (by decide) ?_
  refine lv_lshl (v := zlshl ((xs (x4 + 2).toNatClampNeg).toInt64) 32) hx hb dL_law_472 rfl ?_
  refine lv_aload_n hx hb dL_law_473 rfl (lv_at hl 4 rfl) ?_
  refine lv_iload hx hb dL_law_474 (lv_at hl 0 rfl) ?_
  refine lv_iconst (v := 3) hx hb dL_law_476 (by decide) ?_
  refine lv_iadd hx hb dL_law_477 ?_
  obtain ⟨q, hf⟩ := zck_use hf
  refine va_sld hx hb hX hbl hbA hI.2.2.2.1 (zin_in q) dL_law_478 ?_
  refine lv_i2l (v := (xs (x4 + 3).toNatClampNeg).toInt64) hx hb dL_law_479 rfl ?_
  refine lv_ldc2 (v := 4294967295) hx hb hC.2.2.2.1 (hC.2.2.2.2.1 _ (List.mem_cons_of_mem _ zw1_7)) dL_law_480 ?_
  refine lv_land hx hb dL_law_483 ?_
  refine lv_lor hx hb dL_law_484 ?_
  obtain ⟨σ17, v18, g17, hf⟩ := zbi_use hf
  refine z_fcallH (u := wM am cm μ ++ zHo ao co o) (w := wC ad cy) (x := σ) (As := [.ref (ad 0), .int (xs (x4 + 1).toNatClampNeg), .long ((zlshl ((xs (x4 + 2).toNatClampNeg).toInt64) 32) ||| (((xs (x4 + 3).toNatClampNeg).toInt64) &&& 4294967295))]) (rest := []) hC (zI.al hI) (zKC hI.1) (cL_patch_met st l hst D ad cy σ (xs (x4 + 1).toNatClampNeg) ((zlshl ((xs (x4 + 2).toNatClampNeg).toInt64) 32) ||| (((xs (x4 + 3).toNatClampNeg).toInt64) &&& 4294967295)) _ g17) (zgS zw13_4 zw13_5 zw1_10 zw13_6) rfl ⟨rfl, rfl⟩ 3 hdL_patch ⟨Nat.le_of_ble_eq_true rfl, Nat.le_of_ble_eq_true rfl⟩ rfl hl rfl (Nat.le_of_ble_eq_true rfl) dL_law_485 ⟨by show cells + 1 ≤ 600002; omega, by show slots + 6 ≤ 7302198; omega⟩ (fun H locs hI => ?_)
  have hI : zLw st D ad cy am cm ao co μ o σ17 s H locs := zI.ar hI
  refine lv_istore (lv' := [(5, .int v18), (4, .int x4), (3, .ref ao), (2, .ref (am 0)), (1, .ref (ad 0)), (0, .ref b)]) hx hb dL_law_488 hl (by decide) rfl (fun ls hl => ?_)
  refine lv_aload_n hx hb dL_law_490 rfl (lv_at hl 3 rfl) ?_
  refine lv_aload_n hx hb dL_law_491 rfl (lv_at hl 5 rfl) ?_
  refine lv_iload hx hb dL_law_492 (lv_at hl 1 rfl) ?_
  refine lv_iconst (v := 1) hx hb dL_law_494 (by decide) ?_
  refine lv_iadd hx hb dL_law_495 ?_
  obtain ⟨q, hf⟩ := zck_use hf
  refine va_sld hx hb hX hbl hbA hI.2.2.2.1 (zin_in q) dL_law_496 ?_
  refine lv_aload_n hx hb dL_law_497 rfl (lv_at hl 5 rfl) ?_
  refine lv_iload hx hb dL_law_498 (lv_at hl 1 rfl) ?_
  refine lv_iconst (v := 2) hx hb dL_law_500 (by decide) ?_
  refine lv_iadd hx hb dL_law_501 ?_
  obtain ⟨q, hf⟩ := zck_use hf
  refine va_sld hx hb hX hbl hbA hI.2.2.2.1 (zin_in q) dL_law_502 ?_
  refine lv_i2l (v := (xs (x4 + 2).toNatClampNeg).toInt64) hx hb dL_law_503 rfl ?_
  refine lv_bipush (v := 32) hx hb dL_law_504 (by decide) ?_
  refine lv_lshl (v := zlshl ((xs (x4 + 2).toNatClampNeg).toInt64) 32) hx hb dL_law_506 rfl ?_
  refine lv_aload_n hx hb dL_law_507 rfl (lv_at hl 5 rfl) ?_
  refine lv_iload hx hb dL_law_508 (lv_at hl 1 rfl) ?_
  refine lv_iconst (v := 3) hx hb dL_law_510 (by decide) ?_
  refine lv_iadd hx hb dL_law_511 ?_
  obtain ⟨q, hf⟩ := zck_use hf
  refine va_sld hx hb hX hbl hbA hI.2.2.2.1 (zin_in q) dL_law_512 ?_
  refine lv_i2l (v := (xs (x4 + 3).toNatClampNeg).toInt64) hx hb dL_law_513 rfl ?_
  refine lv_ldc2 (v := 4294967295) hx hb hC.2.2.2.1 (hC.2.2.2.2.1 _ (List.mem_cons_of_mem _ zw1_7)) dL_law_514 ?_
  refine lv_land hx hb dL_law_517 ?_
  refine lv_lor hx hb dL_law_518 ?_
  obtain ⟨μ19, g19, hf⟩ := zbu_use hf
  refine z_fcallVu (u := zHo ao co o ++ wC ad cy σ17) (w := wM am cm) (As := [.int (xs (x4 + 1).toNatClampNeg), .long ((zlshl ((xs (x4 + 2).toNatClampNeg).toInt64) 32) ||| (((xs (x4 + 3).toNatClampNeg).toInt64) &&& 4294967295))]) (rest := []) hC (zI.swap hI) (zKM hI.1) (cX12_patch_met st l D am cm μ (xs (x4 + 1).toNatClampNeg) ((zlshl ((xs (x4 + 2).toNatClampNeg).toInt64) 32) ||| (((xs (x4 + 3).toNatClampNeg).toInt64) &&& 4294967295)) _ g19) (zgV zw13_15 zw13_16 zw13_17 zw1_5 zw13_18) rfl ⟨rfl, rfl⟩ 2 hdX12_patch ⟨Nat.le_of_ble_eq_true rfl, Nat.le_of_ble_eq_true rfl⟩ rfl rfl (wM_e0 am cm μ) rfl hl rfl (Nat.le_of_ble_eq_true rfl) dL_law_519 ⟨by show cells + 1 ≤ 600002; omega, by show slots + 6 ≤ 7302198; omega⟩ (fun H locs hI => ?_)
  have hI : zLw st D ad cy am cm ao co μ19 o σ17 s H locs := zI.swap hI
  refine lv_aload_n hx hb dL_law_522 rfl (lv_at hl 3 rfl) ?_
  obtain ⟨μ20, v21, g20, hf⟩ := zbi_use hf
  refine z_fcallVi (u := zHo ao co o ++ wC ad cy σ17) (w := wM am cm) (As := []) (rest := []) hC (zI.swap hI) (zKM hI.1) (cX12_thrown_met st l D am cm μ19  _ g20) (zgV zw12_2 zw12_3 zw12_4 zw1_5 zw12_5) rfl ⟨rfl, rfl⟩ 0 hdX12_thrown ⟨Nat.le_of_ble_eq_true rfl, Nat.le_of_ble_eq_true rfl⟩ rfl rfl (wM_e0 am cm μ19) rfl hl rfl (Nat.le_of_ble_eq_true rfl) dL_law_523 ⟨by show cells + 1 ≤ 600002; omega, by show slots + 6 ≤ 7302198; omega⟩ (fun H locs hI => ?_)
  have hI : zLw st D ad cy am cm ao co μ20 o σ17 s H locs := zI.swap hI
  refine lv_iload hx hb dL_law_526 (lv_at hl 0 rfl) ?_
  refine lv_icmp_eq (tgt := 533) hx hb dL_law_528 (by decide) (fun q => ?_) (fun q => ?_)
  · replace hf := zif_t q hf
    refine lv_goto (tgt := 1946) hx hb dL_law_533 (by decide) ?_
    obtain ⟨v22, ev22⟩ : ∃ z : Int32, z = x4 + 8 := ⟨_, rfl⟩
    replace hf := zbv_use ev22 hf
    refine lv_iinc (v := v22) (lv' := [(4, .int v22), (5, .int v18), (3, .ref ao), (2, .ref (am 0)), (1, .ref (ad 0)), (0, .ref b)]) hx hb dL_law_1946 hl (k := 1) rfl (by rw [ev22]; rfl) (by decide) rfl (fun ls hl => ?_)
    refine lv_goto (tgt := 33) hx hb dL_law_1949 (by decide) ?_
    exact hk _ _ _ _ _ _ _ _ _ (by omega) (by omega) hI (lv_sub hl [0, 2, 3, 4, 5] rfl) hf
  replace hf := zif_f q hf
  refine lv_iconst (v := 0) hx hb dL_law_531 (by decide) ?_
  exact absurd (Option.some.inj hf) (by decide)
def fLaw_536 (xs : Nat → Int32) (L : Nat) (kn : zSt → (Nat → Int64) → zSt → Int32 → Option Int32) (μ : zSt) (o : Nat → Int64) (σ : zSt) (x4 : Int32) : Option Int32 :=
  zbi (fX11_load σ ) (fun σ23 v24 =>
  zbi (fX12_load μ ) (fun μ25 v26 =>
  if v24 = v26 then zbv (x4 + 8) (fun v27 => kn μ25 o σ23 v27) else
  some 0))
set_option maxRecDepth 20000 in
set_option maxHeartbeats 4000000 in
theorem bLaw_536 {p : Program} {l : Launch} {e : Env} {s : State} {m : MethodId} {below : List Frame} {meth : Method} {c : Code} {st : Nat → Nat} {D : va_G} {b L : Nat} {xs : Nat → Int32} {ad am : Nat → Nat} {cy cm : Nat → ClassId} {ao : Nat} {co : ClassId} (hC : zC p m c cL_law 8 s #[Value.ref b] wzL_law RL meth ret) (hst : l.stackTraces = false) (hX : va_X b L xs s s.heap) (hbl : b < s.heap.size) (hbA : ¬ (fun q : Nat => s.heap.size ≤ q) b) {n : Nat} {kn : zSt → (Nat → Int64) → zSt → Int32 → Option Int32} (hk : ∀ (H : Heap) (locs : List Loc) (μ : zSt) (o : Nat → Int64) (σ : zSt) (ls : Array Slot) (x4 : Int32) (cells slots : Nat), cells + n ≤ 600002 → slots + 6 * n ≤ 7302198 → zLw st D ad cy am cm ao co μ o σ s H locs → lv_has ls 8 [(4, .int x4), (3, .ref ao), (2, .ref (am 0)), (1, .ref (ad 0)), (0, .ref b)] → kn μ o σ x4 = some 1 → W p l e room_1 s m #[Value.ref b] below meth c H locs cells slots (lw_Z below #[Value.ref b] s) (F0 m 33 ls [])) {H : Heap} {locs : List Loc} {μ : zSt} {o : Nat → Int64} {σ : zSt} {ls : Array Slot} {x4 : Int32} {cells slots : Nat} (hc : cells + (n + 1) ≤ 600002) (hs : slots + 6 * (n + 1) ≤ 7302198) (hI : zLw st D ad cy am cm ao co μ o σ s H locs) (hl : lv_has ls 8 [(4, .int x4), (3, .ref ao), (2, .ref (am 0)), (1, .ref (ad 0)), (0, .ref b)]) (hf : fLaw_536 xs L kn μ o σ x4 = some 1) : W p l e room_1 s m #[Value.ref b] below meth c H locs cells slots (lw_Z below #[Value.ref b] s) (F0 m 536 ls []) := by
  have hx := hC.1
  have hb := hC.2.1
  unfold fLaw_536 at hf
  refine lv_aload_n hx hb dL_law_536 rfl (lv_at hl 3 rfl) ?_
  obtain ⟨σ23, v24, g23, hf⟩ := zbi_use hf
  refine z_fcallVi (u := wM am cm μ ++ zHo ao co o) (w := wC ad cy) (As := []) (rest := []) hC (zI.al hI) (zKC hI.1) (cX11_load_met st l D ad cy σ  _ g23) (zgV zw13_19 zw13_20 zw13_21 zw1_2 zw13_22) rfl ⟨rfl, rfl⟩ 0 hdX11_load ⟨Nat.le_of_ble_eq_true rfl, Nat.le_of_ble_eq_true rfl⟩ rfl rfl (wC_e0 ad cy σ) rfl hl rfl (Nat.le_of_ble_eq_true rfl) dL_law_537 ⟨by show cells ≤ 600002; omega, by show slots ≤ 7302198; omega⟩ (fun H locs hI => ?_)
  have hI : zLw st D ad cy am cm ao co μ o σ23 s H locs := zI.ar hI
  refine lv_aload_n hx hb dL_law_540 rfl (lv_at hl 2 rfl) ?_
  obtain ⟨μ25, v26, g25, hf⟩ := zbi_use hf
  refine z_fcallVi (u := zHo ao co o ++ wC ad cy σ23) (w := wM am cm) (As := []) (rest := [.int v24]) hC (zI.swap hI) (zKM hI.1) (cX12_load_met st l D am cm μ  _ g25) (zgV zw16_6 zw16_7 zw16_8 zw1_5 zw16_9) rfl ⟨rfl, rfl⟩ 0 hdX12_load ⟨Nat.le_of_ble_eq_true rfl, Nat.le_of_ble_eq_true rfl⟩ rfl rfl (wM_e0 am cm μ) rfl hl rfl (Nat.le_of_ble_eq_true rfl) dL_law_541 ⟨by show cells ≤ 600002; omega, by show slots ≤ 7302198; omega⟩ (fun H locs hI => ?_)
  have hI : zLw st D ad cy am cm ao co μ25 o σ23 s H locs := zI.swap hI
  refine lv_icmp_eq (tgt := 1946) hx hb dL_law_544 (by decide) (fun q => ?_) (fun q => ?_)
  · replace hf := zif_t q hf
    obtain ⟨v27, ev27⟩ : ∃ z : Int32, z = x4 + 8 := ⟨_, rfl⟩
    replace hf := zbv_use ev27 hf
    refine lv_iinc (v := v27) (lv' := [(4, .int v27), (3, .ref ao), (2, .ref (am 0)), (1, .ref (ad 0)), (0, .ref b)]) hx hb dL_law_1946 hl (k := 0) rfl (by rw [ev27]; rfl) (by decide) rfl (fun ls hl => ?_)
    refine lv_goto (tgt := 33) hx hb dL_law_1949 (by decide) ?_
    exact hk _ _ _ _ _ _ _ _ _ (by omega) (by omega) hI (lv_sub hl [0, 1, 2, 3, 4] rfl) hf
  replace hf := zif_f q hf
  refine lv_iconst (v := 0) hx hb dL_law_547 (by decide) ?_
  exact absurd (Option.some.inj hf) (by decide)
def fLaw_549 (xs : Nat → Int32) (L : Nat) (kn : zSt → (Nat → Int64) → zSt → Int32 → Option Int32) (μ : zSt) (o : Nat → Int64) (σ : zSt) (x4 : Int32) : Option Int32 :=
  zck (zin (x4 + 1) L) (zbh (fL_card o σ (xs (x4 + 1).toNatClampNeg)) (fun o28 σ28 v29 =>
  zck (zin (x4 + 1) L) (zbi (fX12_card μ (xs (x4 + 1).toNatClampNeg)) (fun μ30 v31 =>
  zbi (fX12_thrown μ30 ) (fun μ32 v33 =>
  if v33 = v29 then if v29 = 0 then if (lg_cmp (o28 0) (v31.toInt64)) = 0 then zbv (x4 + 8) (fun v35 => kn μ32 o28 σ28 v35) else
  some 0 else
  zbv (x4 + 8) (fun v34 => kn μ32 o28 σ28 v34) else
  some 0)))))
set_option maxRecDepth 20000 in
set_option maxHeartbeats 4000000 in
theorem bLaw_549 {p : Program} {l : Launch} {e : Env} {s : State} {m : MethodId} {below : List Frame} {meth : Method} {c : Code} {st : Nat → Nat} {D : va_G} {b L : Nat} {xs : Nat → Int32} {ad am : Nat → Nat} {cy cm : Nat → ClassId} {ao : Nat} {co : ClassId} (hC : zC p m c cL_law 8 s #[Value.ref b] wzL_law RL meth ret) (hst : l.stackTraces = false) (hX : va_X b L xs s s.heap) (hbl : b < s.heap.size) (hbA : ¬ (fun q : Nat => s.heap.size ≤ q) b) {n : Nat} {kn : zSt → (Nat → Int64) → zSt → Int32 → Option Int32} (hk : ∀ (H : Heap) (locs : List Loc) (μ : zSt) (o : Nat → Int64) (σ : zSt) (ls : Array Slot) (x4 : Int32) (cells slots : Nat), cells + n ≤ 600002 → slots + 6 * n ≤ 7302198 → zLw st D ad cy am cm ao co μ o σ s H locs → lv_has ls 8 [(4, .int x4), (3, .ref ao), (2, .ref (am 0)), (1, .ref (ad 0)), (0, .ref b)] → kn μ o σ x4 = some 1 → W p l e room_1 s m #[Value.ref b] below meth c H locs cells slots (lw_Z below #[Value.ref b] s) (F0 m 33 ls [])) {H : Heap} {locs : List Loc} {μ : zSt} {o : Nat → Int64} {σ : zSt} {ls : Array Slot} {x4 : Int32} {cells slots : Nat} (hc : cells + (n + 1) ≤ 600002) (hs : slots + 6 * (n + 1) ≤ 7302198) (hI : zLw st D ad cy am cm ao co μ o σ s H locs) (hl : lv_has ls 8 [(4, .int x4), (3, .ref ao), (2, .ref (am 0)), (1, .ref (ad 0)), (0, .ref b)]) (hf : fLaw_549 xs L kn μ o σ x4 = some 1) : W p l e room_1 s m #[Value.ref b] below meth c H locs cells slots (lw_Z below #[Value.ref b] s) (F0 m 549 ls []) := by
  have hx := hC.1
  have hb := hC.2.1
  unfold fLaw_549 at hf
  refine lv_aload_n hx hb dL_law_549 rfl (lv_at hl 3 rfl) ?_
  refine lv_aload_n hx hb dL_law_550 rfl (lv_at hl 4 rfl) ?_
  refine lv_iload hx hb dL_law_551 (lv_at hl 0 rfl) ?_
  refine lv_iconst (v := 1) hx hb dL_law_553 (by decide) ?_
  refine lv_iadd hx hb dL_law_554 ?_
  obtain ⟨q, hf⟩ := zck_use hf
  refine va_sld hx hb hX hbl hbA hI.2.2.2.1 (zin_in q) dL_law_555 ?_
  refine lv_aload_n hx hb dL_law_556 rfl (lv_at hl 1 rfl) ?_
  obtain ⟨o28, σ28, v29, g28, hf⟩ := zbh_use hf
  refine z_fcallH (u := wM am cm μ) (w := fun x : zHs => zHo ao co x.1 ++ wC ad cy x.2) (x := (o, σ)) (As := [.ref (ad 0), .int (xs (x4 + 1).toNatClampNeg), .ref ao]) (rest := []) hC hI (zKH hI.1) (cL_card_met st l hst D ad cy ao co o σ (xs (x4 + 1).toNatClampNeg) _ g28) (zgS zw17_1 zw17_2 zw1_10 zw17_3) rfl ⟨rfl, rfl⟩ 3 hdL_card ⟨Nat.le_of_ble_eq_true rfl, Nat.le_of_ble_eq_true rfl⟩ rfl hl rfl (Nat.le_of_ble_eq_true rfl) dL_law_557 ⟨by show cells + 1 ≤ 600002; omega, by show slots + 6 ≤ 7302198; omega⟩ (fun H locs hI => ?_)
  have hI : zLw st D ad cy am cm ao co μ o28 σ28 s H locs := hI
  refine lv_istore (lv' := [(5, .int v29), (4, .int x4), (3, .ref ao), (2, .ref (am 0)), (1, .ref (ad 0)), (0, .ref b)]) hx hb dL_law_560 hl (by decide) rfl (fun ls hl => ?_)
  refine lv_aload_n hx hb dL_law_562 rfl (lv_at hl 3 rfl) ?_
  refine lv_aload_n hx hb dL_law_563 rfl (lv_at hl 5 rfl) ?_
  refine lv_iload hx hb dL_law_564 (lv_at hl 1 rfl) ?_
  refine lv_iconst (v := 1) hx hb dL_law_566 (by decide) ?_
  refine lv_iadd hx hb dL_law_567 ?_
  obtain ⟨q, hf⟩ := zck_use hf
  refine va_sld hx hb hX hbl hbA hI.2.2.2.1 (zin_in q) dL_law_568 ?_
  obtain ⟨μ30, v31, g30, hf⟩ := zbi_use hf
  refine z_fcallVi (u := zHo ao co o28 ++ wC ad cy σ28) (w := wM am cm) (As := [.int (xs (x4 + 1).toNatClampNeg)]) (rest := []) hC (zI.swap hI) (zKM hI.1) (cX12_card_met st l D am cm μ (xs (x4 + 1).toNatClampNeg) _ g30) (zgV zw17_21 zw17_22 zw17_23 zw1_5 zw18_0) rfl ⟨rfl, rfl⟩ 1 hdX12_card ⟨Nat.le_of_ble_eq_true rfl, Nat.le_of_ble_eq_true rfl⟩ rfl rfl (wM_e0 am cm μ) rfl hl rfl (Nat.le_of_ble_eq_true rfl) dL_law_569 ⟨by show cells + 1 ≤ 600002; omega, by show slots + 6 ≤ 7302198; omega⟩ (fun H locs hI => ?_)
  have hI : zLw st D ad cy am cm ao co μ30 o28 σ28 s H locs := zI.swap hI
  refine lv_istore (lv' := [(6, .int v31), (5, .int v29), (4, .int x4), (3, .ref ao), (2, .ref (am 0)), (1, .ref (ad 0)), (0, .ref b)]) hx hb dL_law_572 hl (by decide) rfl (fun ls hl => ?_)
  refine lv_aload_n hx hb dL_law_574 rfl (lv_at hl 4 rfl) ?_
  obtain ⟨μ32, v33, g32, hf⟩ := zbi_use hf
  refine z_fcallVi (u := zHo ao co o28 ++ wC ad cy σ28) (w := wM am cm) (As := []) (rest := []) hC (zI.swap hI) (zKM hI.1) (cX12_thrown_met st l D am cm μ30  _ g32) (zgV zw12_2 zw12_3 zw12_4 zw1_5 zw12_5) rfl ⟨rfl, rfl⟩ 0 hdX12_thrown ⟨Nat.le_of_ble_eq_true rfl, Nat.le_of_ble_eq_true rfl⟩ rfl rfl (wM_e0 am cm μ30) rfl hl rfl (Nat.le_of_ble_eq_true rfl) dL_law_575 ⟨by show cells + 1 ≤ 600002; omega, by show slots + 6 ≤ 7302198; omega⟩ (fun H locs hI => ?_)
  have hI : zLw st D ad cy am cm ao co μ32 o28 σ28 s H locs := zI.swap hI
  refine lv_iload hx hb dL_law_578 (lv_at hl 1 rfl) ?_
  refine lv_icmp_eq (tgt := 585) hx hb dL_law_580 (by decide) (fun q => ?_) (fun q => ?_)
  · replace hf := zif_t q hf
    refine lv_iload hx hb dL_law_585 (lv_at hl 1 rfl) ?_
    refine lv_if_ne (tgt := 602) hx hb dL_law_587 (by decide) (fun q => ?_) (fun q => ?_)
    · replace hf := zif_f q hf
      refine lv_goto (tgt := 1946) hx hb dL_law_602 (by decide) ?_
      obtain ⟨v34, ev34⟩ : ∃ z : Int32, z = x4 + 8 := ⟨_, rfl⟩
      replace hf := zbv_use ev34 hf
      refine lv_iinc (v := v34) (lv' := [(4, .int v34), (6, .int v31), (5, .int v29), (3, .ref ao), (2, .ref (am 0)), (1, .ref (ad 0)), (0, .ref b)]) hx hb dL_law_1946 hl (k := 2) rfl (by rw [ev34]; rfl) (by decide) rfl (fun ls hl => ?_)
      refine lv_goto (tgt := 33) hx hb dL_law_1949 (by decide) ?_
      exact hk _ _ _ _ _ _ _ _ _ (by omega) (by omega) hI (lv_sub hl [0, 3, 4, 5, 6] rfl) hf
    replace hf := zif_t q hf
    refine lv_aload_n hx hb dL_law_590 rfl (lv_at hl 3 rfl) ?_
    refine lv_iconst (v := 0) hx hb dL_law_591 (by decide) ?_
    refine z_lald (i := 0) hC hI 27 63 (zLo_e am cm ao co μ32 o28 _) (zLo_t cy cm co) (by decide) dL_law_592 ?_
    refine lv_iload hx hb dL_law_593 (lv_at hl 0 rfl) ?_
    refine lv_i2l (v := v31.toInt64) hx hb dL_law_595 rfl ?_
    refine W.lcmp hx hb dL_law_596 ?_
    refine lv_if_eq (tgt := 602) hx hb dL_law_597 (by decide) (fun q => ?_) (fun q => ?_)
    · replace hf := zif_t q hf
      refine lv_goto (tgt := 1946) hx hb dL_law_602 (by decide) ?_
      obtain ⟨v35, ev35⟩ : ∃ z : Int32, z = x4 + 8 := ⟨_, rfl⟩
      replace hf := zbv_use ev35 hf
      refine lv_iinc (v := v35) (lv' := [(4, .int v35), (6, .int v31), (5, .int v29), (3, .ref ao), (2, .ref (am 0)), (1, .ref (ad 0)), (0, .ref b)]) hx hb dL_law_1946 hl (k := 2) rfl (by rw [ev35]; rfl) (by decide) rfl (fun ls hl => ?_)
      refine lv_goto (tgt := 33) hx hb dL_law_1949 (by decide) ?_
      exact hk _ _ _ _ _ _ _ _ _ (by omega) (by omega) hI (lv_sub hl [0, 3, 4, 5, 6] rfl) hf
    replace hf := zif_f q hf
    refine lv_iconst (v := 0) hx hb dL_law_600 (by decide) ?_
    exact absurd (Option.some.inj hf) (by decide)
  replace hf := zif_f q hf
  refine lv_iconst (v := 0) hx hb dL_law_583 (by decide) ?_
  exact absurd (Option.some.inj hf) (by decide)
def fLaw_605 (xs : Nat → Int32) (L : Nat) (kn : zSt → (Nat → Int64) → zSt → Int32 → Option Int32) (μ : zSt) (o : Nat → Int64) (σ : zSt) (x4 : Int32) : Option Int32 :=
  zck (zin (x4 + 1) L) (zbh (fL_step o σ (xs (x4 + 1).toNatClampNeg)) (fun o36 σ36 v37 =>
  zck (zin (x4 + 1) L) (zbi (fX12_step μ (xs (x4 + 1).toNatClampNeg)) (fun μ38 v39 =>
  zbi (fX12_thrown μ38 ) (fun μ40 v41 =>
  if v41 = v37 then if v37 = 0 then if (lg_cmp (o36 0) (v39.toInt64)) = 0 then zbv (x4 + 8) (fun v43 => kn μ40 o36 σ36 v43) else
  some 0 else
  zbv (x4 + 8) (fun v42 => kn μ40 o36 σ36 v42) else
  some 0)))))
set_option maxRecDepth 20000 in
set_option maxHeartbeats 4000000 in
theorem bLaw_605 {p : Program} {l : Launch} {e : Env} {s : State} {m : MethodId} {below : List Frame} {meth : Method} {c : Code} {st : Nat → Nat} {D : va_G} {b L : Nat} {xs : Nat → Int32} {ad am : Nat → Nat} {cy cm : Nat → ClassId} {ao : Nat} {co : ClassId} (hC : zC p m c cL_law 8 s #[Value.ref b] wzL_law RL meth ret) (hst : l.stackTraces = false) (hX : va_X b L xs s s.heap) (hbl : b < s.heap.size) (hbA : ¬ (fun q : Nat => s.heap.size ≤ q) b) {n : Nat} {kn : zSt → (Nat → Int64) → zSt → Int32 → Option Int32} (hk : ∀ (H : Heap) (locs : List Loc) (μ : zSt) (o : Nat → Int64) (σ : zSt) (ls : Array Slot) (x4 : Int32) (cells slots : Nat), cells + n ≤ 600002 → slots + 6 * n ≤ 7302198 → zLw st D ad cy am cm ao co μ o σ s H locs → lv_has ls 8 [(4, .int x4), (3, .ref ao), (2, .ref (am 0)), (1, .ref (ad 0)), (0, .ref b)] → kn μ o σ x4 = some 1 → W p l e room_1 s m #[Value.ref b] below meth c H locs cells slots (lw_Z below #[Value.ref b] s) (F0 m 33 ls [])) {H : Heap} {locs : List Loc} {μ : zSt} {o : Nat → Int64} {σ : zSt} {ls : Array Slot} {x4 : Int32} {cells slots : Nat} (hc : cells + (n + 1) ≤ 600002) (hs : slots + 6 * (n + 1) ≤ 7302198) (hI : zLw st D ad cy am cm ao co μ o σ s H locs) (hl : lv_has ls 8 [(4, .int x4), (3, .ref ao), (2, .ref (am 0)), (1, .ref (ad 0)), (0, .ref b)]) (hf : fLaw_605 xs L kn μ o σ x4 = some 1) : W p l e room_1 s m #[Value.ref b] below meth c H locs cells slots (lw_Z below #[Value.ref b] s) (F0 m 605 ls []) := by
  have hx := hC.1
  have hb := hC.2.1
  unfold fLaw_605 at hf
  refine lv_aload_n hx hb dL_law_605 rfl (lv_at hl 3 rfl) ?_
  refine lv_aload_n hx hb dL_law_606 rfl (lv_at hl 4 rfl) ?_
  refine lv_iload hx hb dL_law_607 (lv_at hl 0 rfl) ?_
  refine lv_iconst (v := 1) hx hb dL_law_609 (by decide) ?_
  refine lv_iadd hx hb dL_law_610 ?_
  obtain ⟨q, hf⟩ := zck_use hf
  refine va_sld hx hb hX hbl hbA hI.2.2.2.1 (zin_in q) dL_law_611 ?_
  refine lv_aload_n hx hb dL_law_612 rfl (lv_at hl 1 rfl) ?_
  obtain ⟨o36, σ36, v37, g36, hf⟩ := zbh_use hf
  refine z_fcallH (u := wM am cm μ) (w := fun x : zHs => zHo ao co x.1 ++ wC ad cy x.2) (x := (o, σ)) (As := [.ref (ad 0), .int (xs (x4 + 1).toNatClampNeg), .ref ao]) (rest := []) hC hI (zKH hI.1) (cL_step_met st l hst D ad cy ao co o σ (xs (x4 + 1).toNatClampNeg) _ g36) (zgS zw18_6 zw18_7 zw1_10 zw18_8) rfl ⟨rfl, rfl⟩ 3 hdL_step ⟨Nat.le_of_ble_eq_true rfl, Nat.le_of_ble_eq_true rfl⟩ rfl hl rfl (Nat.le_of_ble_eq_true rfl) dL_law_613 ⟨by show cells + 1 ≤ 600002; omega, by show slots + 6 ≤ 7302198; omega⟩ (fun H locs hI => ?_)
  have hI : zLw st D ad cy am cm ao co μ o36 σ36 s H locs := hI
  refine lv_istore (lv' := [(5, .int v37), (4, .int x4), (3, .ref ao), (2, .ref (am 0)), (1, .ref (ad 0)), (0, .ref b)]) hx hb dL_law_616 hl (by decide) rfl (fun ls hl => ?_)
  refine lv_aload_n hx hb dL_law_618 rfl (lv_at hl 3 rfl) ?_
  refine lv_aload_n hx hb dL_law_619 rfl (lv_at hl 5 rfl) ?_
  refine lv_iload hx hb dL_law_620 (lv_at hl 1 rfl) ?_
  refine lv_iconst (v := 1) hx hb dL_law_622 (by decide) ?_
  refine lv_iadd hx hb dL_law_623 ?_
  obtain ⟨q, hf⟩ := zck_use hf
  refine va_sld hx hb hX hbl hbA hI.2.2.2.1 (zin_in q) dL_law_624 ?_
  obtain ⟨μ38, v39, g38, hf⟩ := zbi_use hf
  refine z_fcallVi (u := zHo ao co o36 ++ wC ad cy σ36) (w := wM am cm) (As := [.int (xs (x4 + 1).toNatClampNeg)]) (rest := []) hC (zI.swap hI) (zKM hI.1) (cX12_step_met st l D am cm μ (xs (x4 + 1).toNatClampNeg) _ g38) (zgV zw46_23 zw47_0 zw47_1 zw1_5 zw47_2) rfl ⟨rfl, rfl⟩ 1 hdX12_step ⟨Nat.le_of_ble_eq_true rfl, Nat.le_of_ble_eq_true rfl⟩ rfl rfl (wM_e0 am cm μ) rfl hl rfl (Nat.le_of_ble_eq_true rfl) dL_law_625 ⟨by show cells + 1 ≤ 600002; omega, by show slots + 6 ≤ 7302198; omega⟩ (fun H locs hI => ?_)
  have hI : zLw st D ad cy am cm ao co μ38 o36 σ36 s H locs := zI.swap hI
  refine lv_istore (lv' := [(6, .int v39), (5, .int v37), (4, .int x4), (3, .ref ao), (2, .ref (am 0)), (1, .ref (ad 0)), (0, .ref b)]) hx hb dL_law_628 hl (by decide) rfl (fun ls hl => ?_)
  refine lv_aload_n hx hb dL_law_630 rfl (lv_at hl 4 rfl) ?_
  obtain ⟨μ40, v41, g40, hf⟩ := zbi_use hf
  refine z_fcallVi (u := zHo ao co o36 ++ wC ad cy σ36) (w := wM am cm) (As := []) (rest := []) hC (zI.swap hI) (zKM hI.1) (cX12_thrown_met st l D am cm μ38  _ g40) (zgV zw12_2 zw12_3 zw12_4 zw1_5 zw12_5) rfl ⟨rfl, rfl⟩ 0 hdX12_thrown ⟨Nat.le_of_ble_eq_true rfl, Nat.le_of_ble_eq_true rfl⟩ rfl rfl (wM_e0 am cm μ38) rfl hl rfl (Nat.le_of_ble_eq_true rfl) dL_law_631 ⟨by show cells + 1 ≤ 600002; omega, by show slots + 6 ≤ 7302198; omega⟩ (fun H locs hI => ?_)
  have hI : zLw st D ad cy am cm ao co μ40 o36 σ36 s H locs := zI.swap hI
  refine lv_iload hx hb dL_law_634 (lv_at hl 1 rfl) ?_
  refine lv_icmp_eq (tgt := 641) hx hb dL_law_636 (by decide) (fun q => ?_) (fun q => ?_)
  · replace hf := zif_t q hf
    refine lv_iload hx hb dL_law_641 (lv_at hl 1 rfl) ?_
    refine lv_if_ne (tgt := 658) hx hb dL_law_643 (by decide) (fun q => ?_) (fun q => ?_)
    · replace hf := zif_f q hf
      refine lv_goto (tgt := 1946) hx hb dL_law_658 (by decide) ?_
      obtain ⟨v42, ev42⟩ : ∃ z : Int32, z = x4 + 8 := ⟨_, rfl⟩
      replace hf := zbv_use ev42 hf
      refine lv_iinc (v := v42) (lv' := [(4, .int v42), (6, .int v39), (5, .int v37), (3, .ref ao), (2, .ref (am 0)), (1, .ref (ad 0)), (0, .ref b)]) hx hb dL_law_1946 hl (k := 2) rfl (by rw [ev42]; rfl) (by decide) rfl (fun ls hl => ?_)
      refine lv_goto (tgt := 33) hx hb dL_law_1949 (by decide) ?_
      exact hk _ _ _ _ _ _ _ _ _ (by omega) (by omega) hI (lv_sub hl [0, 3, 4, 5, 6] rfl) hf
    replace hf := zif_t q hf
    refine lv_aload_n hx hb dL_law_646 rfl (lv_at hl 3 rfl) ?_
    refine lv_iconst (v := 0) hx hb dL_law_647 (by decide) ?_
    refine z_lald (i := 0) hC hI 27 63 (zLo_e am cm ao co μ40 o36 _) (zLo_t cy cm co) (by decide) dL_law_648 ?_
    refine lv_iload hx hb dL_law_649 (lv_at hl 0 rfl) ?_
    refine lv_i2l (v := v39.toInt64) hx hb dL_law_651 rfl ?_
    refine W.lcmp hx hb dL_law_652 ?_
    refine lv_if_eq (tgt := 658) hx hb dL_law_653 (by decide) (fun q => ?_) (fun q => ?_)
    · replace hf := zif_t q hf
      refine lv_goto (tgt := 1946) hx hb dL_law_658 (by decide) ?_
      obtain ⟨v43, ev43⟩ : ∃ z : Int32, z = x4 + 8 := ⟨_, rfl⟩
      replace hf := zbv_use ev43 hf
      refine lv_iinc (v := v43) (lv' := [(4, .int v43), (6, .int v39), (5, .int v37), (3, .ref ao), (2, .ref (am 0)), (1, .ref (ad 0)), (0, .ref b)]) hx hb dL_law_1946 hl (k := 2) rfl (by rw [ev43]; rfl) (by decide) rfl (fun ls hl => ?_)
      refine lv_goto (tgt := 33) hx hb dL_law_1949 (by decide) ?_
      exact hk _ _ _ _ _ _ _ _ _ (by omega) (by omega) hI (lv_sub hl [0, 3, 4, 5, 6] rfl) hf
    replace hf := zif_f q hf
    refine lv_iconst (v := 0) hx hb dL_law_656 (by decide) ?_
    exact absurd (Option.some.inj hf) (by decide)
  replace hf := zif_f q hf
  refine lv_iconst (v := 0) hx hb dL_law_639 (by decide) ?_
  exact absurd (Option.some.inj hf) (by decide)
def fLaw_661 (xs : Nat → Int32) (L : Nat) (kn : zSt → (Nat → Int64) → zSt → Int32 → Option Int32) (μ : zSt) (o : Nat → Int64) (σ : zSt) (x4 : Int32) : Option Int32 :=
  zck (zin (x4 + 1) L) (zbh (fL_picture o σ (xs (x4 + 1).toNatClampNeg)) (fun o44 σ44 v45 =>
  zck (zin (x4 + 1) L) (zbi (fX12_picture μ (xs (x4 + 1).toNatClampNeg)) (fun μ46 v47 =>
  zbi (fX12_thrown μ46 ) (fun μ48 v49 =>
  if v49 = v45 then if v45 = 0 then if (lg_cmp (o44 0) (v47.toInt64)) = 0 then zbv (x4 + 8) (fun v51 => kn μ48 o44 σ44 v51) else
  some 0 else
  zbv (x4 + 8) (fun v50 => kn μ48 o44 σ44 v50) else
  some 0)))))
set_option maxRecDepth 20000 in
set_option maxHeartbeats 4000000 in
theorem bLaw_661 {p : Program} {l : Launch} {e : Env} {s : State} {m : MethodId} {below : List Frame} {meth : Method} {c : Code} {st : Nat → Nat} {D : va_G} {b L : Nat} {xs : Nat → Int32} {ad am : Nat → Nat} {cy cm : Nat → ClassId} {ao : Nat} {co : ClassId} (hC : zC p m c cL_law 8 s #[Value.ref b] wzL_law RL meth ret) (hst : l.stackTraces = false) (hX : va_X b L xs s s.heap) (hbl : b < s.heap.size) (hbA : ¬ (fun q : Nat => s.heap.size ≤ q) b) {n : Nat} {kn : zSt → (Nat → Int64) → zSt → Int32 → Option Int32} (hk : ∀ (H : Heap) (locs : List Loc) (μ : zSt) (o : Nat → Int64) (σ : zSt) (ls : Array Slot) (x4 : Int32) (cells slots : Nat), cells + n ≤ 600002 → slots + 6 * n ≤ 7302198 → zLw st D ad cy am cm ao co μ o σ s H locs → lv_has ls 8 [(4, .int x4), (3, .ref ao), (2, .ref (am 0)), (1, .ref (ad 0)), (0, .ref b)] → kn μ o σ x4 = some 1 → W p l e room_1 s m #[Value.ref b] below meth c H locs cells slots (lw_Z below #[Value.ref b] s) (F0 m 33 ls [])) {H : Heap} {locs : List Loc} {μ : zSt} {o : Nat → Int64} {σ : zSt} {ls : Array Slot} {x4 : Int32} {cells slots : Nat} (hc : cells + (n + 1) ≤ 600002) (hs : slots + 6 * (n + 1) ≤ 7302198) (hI : zLw st D ad cy am cm ao co μ o σ s H locs) (hl : lv_has ls 8 [(4, .int x4), (3, .ref ao), (2, .ref (am 0)), (1, .ref (ad 0)), (0, .ref b)]) (hf : fLaw_661 xs L kn μ o σ x4 = some 1) : W p l e room_1 s m #[Value.ref b] below meth c H locs cells slots (lw_Z below #[Value.ref b] s) (F0 m 661 ls []) := by
  have hx := hC.1
  have hb := hC.2.1
  unfold fLaw_661 at hf
  refine lv_aload_n hx hb dL_law_661 rfl (lv_at hl 3 rfl) ?_
  refine lv_aload_n hx hb dL_law_662 rfl (lv_at hl 4 rfl) ?_
  refine lv_iload hx hb dL_law_663 (lv_at hl 0 rfl) ?_
  refine lv_iconst (v := 1) hx hb dL_law_665 (by decide) ?_
  refine lv_iadd hx hb dL_law_666 ?_
  obtain ⟨q, hf⟩ := zck_use hf
  refine va_sld hx hb hX hbl hbA hI.2.2.2.1 (zin_in q) dL_law_667 ?_
  refine lv_aload_n hx hb dL_law_668 rfl (lv_at hl 1 rfl) ?_
  obtain ⟨o44, σ44, v45, g44, hf⟩ := zbh_use hf
  refine z_fcallH (u := wM am cm μ) (w := fun x : zHs => zHo ao co x.1 ++ wC ad cy x.2) (x := (o, σ)) (As := [.ref (ad 0), .int (xs (x4 + 1).toNatClampNeg), .ref ao]) (rest := []) hC hI (zKH hI.1) (cL_picture_met st l hst D ad cy ao co o σ (xs (x4 + 1).toNatClampNeg) _ g44) (zgS zw65_22 zw65_23 zw1_10 zw66_0) rfl ⟨rfl, rfl⟩ 3 hdL_picture ⟨Nat.le_of_ble_eq_true rfl, Nat.le_of_ble_eq_true rfl⟩ rfl hl rfl (Nat.le_of_ble_eq_true rfl) dL_law_669 ⟨by show cells + 1 ≤ 600002; omega, by show slots + 6 ≤ 7302198; omega⟩ (fun H locs hI => ?_)
  have hI : zLw st D ad cy am cm ao co μ o44 σ44 s H locs := hI
  refine lv_istore (lv' := [(5, .int v45), (4, .int x4), (3, .ref ao), (2, .ref (am 0)), (1, .ref (ad 0)), (0, .ref b)]) hx hb dL_law_672 hl (by decide) rfl (fun ls hl => ?_)
  refine lv_aload_n hx hb dL_law_674 rfl (lv_at hl 3 rfl) ?_
  refine lv_aload_n hx hb dL_law_675 rfl (lv_at hl 5 rfl) ?_
  refine lv_iload hx hb dL_law_676 (lv_at hl 1 rfl) ?_
  refine lv_iconst (v := 1) hx hb dL_law_678 (by decide) ?_
  refine lv_iadd hx hb dL_law_679 ?_
  obtain ⟨q, hf⟩ := zck_use hf
  refine va_sld hx hb hX hbl hbA hI.2.2.2.1 (zin_in q) dL_law_680 ?_
  obtain ⟨μ46, v47, g46, hf⟩ := zbi_use hf
  refine z_fcallVi (u := zHo ao co o44 ++ wC ad cy σ44) (w := wM am cm) (As := [.int (xs (x4 + 1).toNatClampNeg)]) (rest := []) hC (zI.swap hI) (zKM hI.1) (cX12_picture_met st l D am cm μ (xs (x4 + 1).toNatClampNeg) _ g46) (zgV zw66_6 zw66_7 zw66_8 zw1_5 zw66_9) rfl ⟨rfl, rfl⟩ 1 hdX12_picture ⟨Nat.le_of_ble_eq_true rfl, Nat.le_of_ble_eq_true rfl⟩ rfl rfl (wM_e0 am cm μ) rfl hl rfl (Nat.le_of_ble_eq_true rfl) dL_law_681 ⟨by show cells + 1 ≤ 600002; omega, by show slots + 6 ≤ 7302198; omega⟩ (fun H locs hI => ?_)
  have hI : zLw st D ad cy am cm ao co μ46 o44 σ44 s H locs := zI.swap hI
  refine lv_istore (lv' := [(6, .int v47), (5, .int v45), (4, .int x4), (3, .ref ao), (2, .ref (am 0)), (1, .ref (ad 0)), (0, .ref b)]) hx hb dL_law_684 hl (by decide) rfl (fun ls hl => ?_)
  refine lv_aload_n hx hb dL_law_686 rfl (lv_at hl 4 rfl) ?_
  obtain ⟨μ48, v49, g48, hf⟩ := zbi_use hf
  refine z_fcallVi (u := zHo ao co o44 ++ wC ad cy σ44) (w := wM am cm) (As := []) (rest := []) hC (zI.swap hI) (zKM hI.1) (cX12_thrown_met st l D am cm μ46  _ g48) (zgV zw12_2 zw12_3 zw12_4 zw1_5 zw12_5) rfl ⟨rfl, rfl⟩ 0 hdX12_thrown ⟨Nat.le_of_ble_eq_true rfl, Nat.le_of_ble_eq_true rfl⟩ rfl rfl (wM_e0 am cm μ46) rfl hl rfl (Nat.le_of_ble_eq_true rfl) dL_law_687 ⟨by show cells + 1 ≤ 600002; omega, by show slots + 6 ≤ 7302198; omega⟩ (fun H locs hI => ?_)
  have hI : zLw st D ad cy am cm ao co μ48 o44 σ44 s H locs := zI.swap hI
  refine lv_iload hx hb dL_law_690 (lv_at hl 1 rfl) ?_
  refine lv_icmp_eq (tgt := 697) hx hb dL_law_692 (by decide) (fun q => ?_) (fun q => ?_)
  · replace hf := zif_t q hf
    refine lv_iload hx hb dL_law_697 (lv_at hl 1 rfl) ?_
    refine lv_if_ne (tgt := 714) hx hb dL_law_699 (by decide) (fun q => ?_) (fun q => ?_)
    · replace hf := zif_f q hf
      refine lv_goto (tgt := 1946) hx hb dL_law_714 (by decide) ?_
      obtain ⟨v50, ev50⟩ : ∃ z : Int32, z = x4 + 8 := ⟨_, rfl⟩
      replace hf := zbv_use ev50 hf
      refine lv_iinc (v := v50) (lv' := [(4, .int v50), (6, .int v47), (5, .int v45), (3, .ref ao), (2, .ref (am 0)), (1, .ref (ad 0)), (0, .ref b)]) hx hb dL_law_1946 hl (k := 2) rfl (by rw [ev50]; rfl) (by decide) rfl (fun ls hl => ?_)
      refine lv_goto (tgt := 33) hx hb dL_law_1949 (by decide) ?_
      exact hk _ _ _ _ _ _ _ _ _ (by omega) (by omega) hI (lv_sub hl [0, 3, 4, 5, 6] rfl) hf
    replace hf := zif_t q hf
    refine lv_aload_n hx hb dL_law_702 rfl (lv_at hl 3 rfl) ?_
    refine lv_iconst (v := 0) hx hb dL_law_703 (by decide) ?_
    refine z_lald (i := 0) hC hI 27 63 (zLo_e am cm ao co μ48 o44 _) (zLo_t cy cm co) (by decide) dL_law_704 ?_
    refine lv_iload hx hb dL_law_705 (lv_at hl 0 rfl) ?_
    refine lv_i2l (v := v47.toInt64) hx hb dL_law_707 rfl ?_
    refine W.lcmp hx hb dL_law_708 ?_
    refine lv_if_eq (tgt := 714) hx hb dL_law_709 (by decide) (fun q => ?_) (fun q => ?_)
    · replace hf := zif_t q hf
      refine lv_goto (tgt := 1946) hx hb dL_law_714 (by decide) ?_
      obtain ⟨v51, ev51⟩ : ∃ z : Int32, z = x4 + 8 := ⟨_, rfl⟩
      replace hf := zbv_use ev51 hf
      refine lv_iinc (v := v51) (lv' := [(4, .int v51), (6, .int v47), (5, .int v45), (3, .ref ao), (2, .ref (am 0)), (1, .ref (ad 0)), (0, .ref b)]) hx hb dL_law_1946 hl (k := 2) rfl (by rw [ev51]; rfl) (by decide) rfl (fun ls hl => ?_)
      refine lv_goto (tgt := 33) hx hb dL_law_1949 (by decide) ?_
      exact hk _ _ _ _ _ _ _ _ _ (by omega) (by omega) hI (lv_sub hl [0, 3, 4, 5, 6] rfl) hf
    replace hf := zif_f q hf
    refine lv_iconst (v := 0) hx hb dL_law_712 (by decide) ?_
    exact absurd (Option.some.inj hf) (by decide)
  replace hf := zif_f q hf
  refine lv_iconst (v := 0) hx hb dL_law_695 (by decide) ?_
  exact absurd (Option.some.inj hf) (by decide)
