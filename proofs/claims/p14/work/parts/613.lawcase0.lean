def fLaw_208 (xs : Nat → Int32) (L : Nat) (kn : zSt → (Nat → Int64) → zSt → Int32 → Option Int32) (μ : zSt) (o : Nat → Int64) (σ : zSt) (x4 : Int32) : Option Int32 :=
  zck (zin (x4 + 1) L) (zck (zin (x4 + 2) L) (zck (zin (x4 + 3) L) (zck (zin (x4 + 4) L) (zck (zin (x4 + 5) L) (zck (zin (x4 + 6) L) (zck (zin (x4 + 7) L) (zbh (fL_feed o σ (xs (x4 + 1).toNatClampNeg) ((zlshl ((xs (x4 + 2).toNatClampNeg).toInt64) 32) ||| (((xs (x4 + 3).toNatClampNeg).toInt64) &&& 4294967295)) ((zlshl ((xs (x4 + 4).toNatClampNeg).toInt64) 32) ||| (((xs (x4 + 5).toNatClampNeg).toInt64) &&& 4294967295)) ((zlshl ((xs (x4 + 6).toNatClampNeg).toInt64) 32) ||| (((xs (x4 + 7).toNatClampNeg).toInt64) &&& 4294967295))) (fun o1 σ1 v2 =>
  zck (zin (x4 + 1) L) (zck (zin (x4 + 2) L) (zck (zin (x4 + 3) L) (zck (zin (x4 + 4) L) (zck (zin (x4 + 5) L) (zck (zin (x4 + 6) L) (zck (zin (x4 + 7) L) (zbi (fX12_feed μ (xs (x4 + 1).toNatClampNeg) ((zlshl ((xs (x4 + 2).toNatClampNeg).toInt64) 32) ||| (((xs (x4 + 3).toNatClampNeg).toInt64) &&& 4294967295)) ((zlshl ((xs (x4 + 4).toNatClampNeg).toInt64) 32) ||| (((xs (x4 + 5).toNatClampNeg).toInt64) &&& 4294967295)) ((zlshl ((xs (x4 + 6).toNatClampNeg).toInt64) 32) ||| (((xs (x4 + 7).toNatClampNeg).toInt64) &&& 4294967295))) (fun μ3 v4 =>
  zbv (x4 + 8) (fun v5 => kn μ3 o1 σ1 v5)))))))))))))))))
set_option maxRecDepth 20000 in
set_option maxHeartbeats 4000000 in
theorem bLaw_208 {p : Program} {l : Launch} {e : Env} {s : State} {m : MethodId} {below : List Frame} {meth : Method} {c : Code} {st : Nat → Nat} {D : va_G} {b L : Nat} {xs : Nat → Int32} {ad am : Nat → Nat} {cy cm : Nat → ClassId} {ao : Nat} {co : ClassId} (hC : zC p m c cL_law 8 s #[Value.ref b] wzL_law RL meth ret) (hst : l.stackTraces = false) (hX : va_X b L xs s s.heap) (hbl : b < s.heap.size) (hbA : ¬ (fun q : Nat => s.heap.size ≤ q) b) {n : Nat} {kn : zSt → (Nat → Int64) → zSt → Int32 → Option Int32} (hk : ∀ (H : Heap) (locs : List Loc) (μ : zSt) (o : Nat → Int64) (σ : zSt) (ls : Array Slot) (x4 : Int32) (cells slots : Nat), cells + n ≤ 600128 → slots + 6 * n ≤ 7301064 → zLw st D ad cy am cm ao co μ o σ s H locs → lv_has ls 8 [(4, .int x4), (3, .ref ao), (2, .ref (am 0)), (1, .ref (ad 0)), (0, .ref b)] → kn μ o σ x4 = some 1 → W p l e room_1 s m #[Value.ref b] below meth c H locs cells slots (lw_Z below #[Value.ref b] s) (F0 m 33 ls [])) {H : Heap} {locs : List Loc} {μ : zSt} {o : Nat → Int64} {σ : zSt} {ls : Array Slot} {x4 : Int32} {cells slots : Nat} (hc : cells + (n + 1) ≤ 600128) (hs : slots + 6 * (n + 1) ≤ 7301064) (hI : zLw st D ad cy am cm ao co μ o σ s H locs) (hl : lv_has ls 8 [(4, .int x4), (3, .ref ao), (2, .ref (am 0)), (1, .ref (ad 0)), (0, .ref b)]) (hf : fLaw_208 xs L kn μ o σ x4 = some 1) : W p l e room_1 s m #[Value.ref b] below meth c H locs cells slots (lw_Z below #[Value.ref b] s) (F0 m 208 ls []) := by
  have hx := hC.1
  have hb := hC.2.1
  unfold fLaw_208 at hf
  refine lv_aload_n hx hb dL_law_208 rfl (lv_at hl 3 rfl) ?_
  refine lv_aload_n hx hb dL_law_209 rfl (lv_at hl 4 rfl) ?_
  refine lv_iload hx hb dL_law_210 (lv_at hl 0 rfl) ?_
  refine lv_iconst (v := 1) hx hb dL_law_212 (by decide) ?_
  refine lv_iadd hx hb dL_law_213 ?_
  obtain ⟨q, hf⟩ := zck_use hf
  refine va_sld hx hb hX hbl hbA hI.2.2.2.1 (zin_in q) dL_law_214 ?_
  refine lv_aload_n hx hb dL_law_215 rfl (lv_at hl 4 rfl) ?_
  refine lv_iload hx hb dL_law_216 (lv_at hl 0 rfl) ?_
  refine lv_iconst (v := 2) hx hb dL_law_218 (by decide) ?_
  refine lv_iadd hx hb dL_law_219 ?_
  obtain ⟨q, hf⟩ := zck_use hf
  refine va_sld hx hb hX hbl hbA hI.2.2.2.1 (zin_in q) dL_law_220 ?_
  refine lv_i2l (v := (xs (x4 + 2).toNatClampNeg).toInt64) hx hb dL_law_221 rfl ?_
  refine lv_bipush (v := 32) hx hb dL_law_222 (by decide) ?_
  refine lv_lshl (v := zlshl ((xs (x4 + 2).toNatClampNeg).toInt64) 32) hx hb dL_law_224 rfl ?_
  refine lv_aload_n hx hb dL_law_225 rfl (lv_at hl 4 rfl) ?_
  refine lv_iload hx hb dL_law_226 (lv_at hl 0 rfl) ?_
  refine lv_iconst (v := 3) hx hb dL_law_228 (by decide) ?_
  refine lv_iadd hx hb dL_law_229 ?_
  obtain ⟨q, hf⟩ := zck_use hf
  refine va_sld hx hb hX hbl hbA hI.2.2.2.1 (zin_in q) dL_law_230 ?_
  refine lv_i2l (v := (xs (x4 + 3).toNatClampNeg).toInt64) hx hb dL_law_231 rfl ?_
  refine lv_ldc2 (v := 4294967295) hx hb hC.2.2.2.1 (hC.2.2.2.2.1 _ (List.mem_cons_of_mem _ zw1_7)) dL_law_232 ?_
  refine lv_land hx hb dL_law_235 ?_
  refine lv_lor hx hb dL_law_236 ?_
  refine lv_aload_n hx hb dL_law_237 rfl (lv_at hl 4 rfl) ?_
  refine lv_iload hx hb dL_law_238 (lv_at hl 0 rfl) ?_
  refine lv_iconst (v := 4) hx hb dL_law_240 (by decide) ?_
  refine lv_iadd hx hb dL_law_241 ?_
  obtain ⟨q, hf⟩ := zck_use hf
  refine va_sld hx hb hX hbl hbA hI.2.2.2.1 (zin_in q) dL_law_242 ?_
  refine lv_i2l (v := (xs (x4 + 4).toNatClampNeg).toInt64) hx hb dL_law_243 rfl ?_
  refine lv_bipush (v := 32) hx hb dL_law_244 (by decide) ?_
  refine lv_lshl (v := zlshl ((xs (x4 + 4).toNatClampNeg).toInt64) 32) hx hb dL_law_246 rfl ?_
  refine lv_aload_n hx hb dL_law_247 rfl (lv_at hl 4 rfl) ?_
  refine lv_iload hx hb dL_law_248 (lv_at hl 0 rfl) ?_
  refine lv_iconst (v := 5) hx hb dL_law_250 (by decide) ?_
  refine lv_iadd hx hb dL_law_251 ?_
  obtain ⟨q, hf⟩ := zck_use hf
  refine va_sld hx hb hX hbl hbA hI.2.2.2.1 (zin_in q) dL_law_252 ?_
  refine lv_i2l (v := (xs (x4 + 5).toNatClampNeg).toInt64) hx hb dL_law_253 rfl ?_
  refine lv_ldc2 (v := 4294967295) hx hb hC.2.2.2.1 (hC.2.2.2.2.1 _ (List.mem_cons_of_mem _ zw1_7)) dL_law_254 ?_
  refine lv_land hx hb dL_law_257 ?_
  refine lv_lor hx hb dL_law_258 ?_
  refine lv_aload_n hx hb dL_law_259 rfl (lv_at hl 4 rfl) ?_
  refine lv_iload hx hb dL_law_260 (lv_at hl 0 rfl) ?_
  refine lv_bipush (v := 6) hx hb dL_law_262 (by decide) ?_
  refine lv_iadd hx hb dL_law_264 ?_
  obtain ⟨q, hf⟩ := zck_use hf
  refine va_sld hx hb hX hbl hbA hI.2.2.2.1 (zin_in q) dL_law_265 ?_
  refine lv_i2l (v := (xs (x4 + 6).toNatClampNeg).toInt64) hx hb dL_law_266 rfl ?_
  refine lv_bipush (v := 32) hx hb dL_law_267 (by decide) ?_
  refine lv_lshl (v := zlshl ((xs (x4 + 6).toNatClampNeg).toInt64) 32) hx hb dL_law_269 rfl ?_
  refine lv_aload_n hx hb dL_law_270 rfl (lv_at hl 4 rfl) ?_
  refine lv_iload hx hb dL_law_271 (lv_at hl 0 rfl) ?_
  refine lv_bipush (v := 7) hx hb dL_law_273 (by decide) ?_
  refine lv_iadd hx hb dL_law_275 ?_
  obtain ⟨q, hf⟩ := zck_use hf
  refine va_sld hx hb hX hbl hbA hI.2.2.2.1 (zin_in q) dL_law_276 ?_
  refine lv_i2l (v := (xs (x4 + 7).toNatClampNeg).toInt64) hx hb dL_law_277 rfl ?_
  refine lv_ldc2 (v := 4294967295) hx hb hC.2.2.2.1 (hC.2.2.2.2.1 _ (List.mem_cons_of_mem _ zw1_7)) dL_law_278 ?_
  refine lv_land hx hb dL_law_281 ?_
  refine lv_lor hx hb dL_law_282 ?_
  refine lv_aload_n hx hb dL_law_283 rfl (lv_at hl 1 rfl) ?_
  obtain ⟨o1, σ1, v2, g1, hf⟩ := zbh_use hf
  refine z_fcallH (u := wM am cm μ) (w := fun x : zHs => zHo ao co x.1 ++ wC ad cy x.2) (x := (o, σ)) (As := [.ref (ad 0), .int (xs (x4 + 1).toNatClampNeg), .long ((zlshl ((xs (x4 + 2).toNatClampNeg).toInt64) 32) ||| (((xs (x4 + 3).toNatClampNeg).toInt64) &&& 4294967295)), .long ((zlshl ((xs (x4 + 4).toNatClampNeg).toInt64) 32) ||| (((xs (x4 + 5).toNatClampNeg).toInt64) &&& 4294967295)), .long ((zlshl ((xs (x4 + 6).toNatClampNeg).toInt64) 32) ||| (((xs (x4 + 7).toNatClampNeg).toInt64) &&& 4294967295)), .ref ao]) (rest := []) hC hI (zKH hI.1) (cL_feed_met st l hst D ad cy ao co o σ (xs (x4 + 1).toNatClampNeg) ((zlshl ((xs (x4 + 2).toNatClampNeg).toInt64) 32) ||| (((xs (x4 + 3).toNatClampNeg).toInt64) &&& 4294967295)) ((zlshl ((xs (x4 + 4).toNatClampNeg).toInt64) 32) ||| (((xs (x4 + 5).toNatClampNeg).toInt64) &&& 4294967295)) ((zlshl ((xs (x4 + 6).toNatClampNeg).toInt64) 32) ||| (((xs (x4 + 7).toNatClampNeg).toInt64) &&& 4294967295)) _ g1) (zgS zw10_17 zw10_18 zw1_10 zw10_19) rfl ⟨rfl, rfl⟩ 6 hdL_feed ⟨Nat.le_of_ble_eq_true rfl, Nat.le_of_ble_eq_true rfl⟩ rfl hl rfl (Nat.le_of_ble_eq_true rfl) dL_law_284 ⟨by show cells + 1 ≤ 600128; omega, by show slots + 6 ≤ 7301064; omega⟩ (fun H locs hI => ?_)
  have hI : zLw st D ad cy am cm ao co μ o1 σ1 s H locs := hI
  refine lv_istore (lv' := [(5, .int v2), (4, .int x4), (3, .ref ao), (2, .ref (am 0)), (1, .ref (ad 0)), (0, .ref b)]) hx hb dL_law_287 hl (by decide) rfl (fun ls hl => ?_)
  refine lv_aload_n hx hb dL_law_289 rfl (lv_at hl 3 rfl) ?_
  refine lv_aload_n hx hb dL_law_290 rfl (lv_at hl 5 rfl) ?_
  refine lv_iload hx hb dL_law_291 (lv_at hl 1 rfl) ?_
  refine lv_iconst (v := 1) hx hb dL_law_293 (by decide) ?_
  refine lv_iadd hx hb dL_law_294 ?_
  obtain ⟨q, hf⟩ := zck_use hf
  refine va_sld hx hb hX hbl hbA hI.2.2.2.1 (zin_in q) dL_law_295 ?_
  refine lv_aload_n hx hb dL_law_296 rfl (lv_at hl 5 rfl) ?_
  refine lv_iload hx hb dL_law_297 (lv_at hl 1 rfl) ?_
  refine lv_iconst (v := 2) hx hb dL_law_299 (by decide) ?_
  refine lv_iadd hx hb dL_law_300 ?_
  obtain ⟨q, hf⟩ := zck_use hf
  refine va_sld hx hb hX hbl hbA hI.2.2.2.1 (zin_in q) dL_law_301 ?_
  refine lv_i2l (v := (xs (x4 + 2).toNatClampNeg).toInt64) hx hb dL_law_302 rfl ?_
  refine lv_bipush (v := 32) hx hb dL_law_303 (by decide) ?_
  refine lv_lshl (v := zlshl ((xs (x4 + 2).toNatClampNeg).toInt64) 32) hx hb dL_law_305 rfl ?_
  refine lv_aload_n hx hb dL_law_306 rfl (lv_at hl 5 rfl) ?_
  refine lv_iload hx hb dL_law_307 (lv_at hl 1 rfl) ?_
  refine lv_iconst (v := 3) hx hb dL_law_309 (by decide) ?_
  refine lv_iadd hx hb dL_law_310 ?_
  obtain ⟨q, hf⟩ := zck_use hf
  refine va_sld hx hb hX hbl hbA hI.2.2.2.1 (zin_in q) dL_law_311 ?_
  refine lv_i2l (v := (xs (x4 + 3).toNatClampNeg).toInt64) hx hb dL_law_312 rfl ?_
  refine lv_ldc2 (v := 4294967295) hx hb hC.2.2.2.1 (hC.2.2.2.2.1 _ (List.mem_cons_of_mem _ zw1_7)) dL_law_313 ?_
  refine lv_land hx hb dL_law_316 ?_
  refine lv_lor hx hb dL_law_317 ?_
  refine lv_aload_n hx hb dL_law_318 rfl (lv_at hl 5 rfl) ?_
  refine lv_iload hx hb dL_law_319 (lv_at hl 1 rfl) ?_
  refine lv_iconst (v := 4) hx hb dL_law_321 (by decide) ?_
  refine lv_iadd hx hb dL_law_322 ?_
  obtain ⟨q, hf⟩ := zck_use hf
  refine va_sld hx hb hX hbl hbA hI.2.2.2.1 (zin_in q) dL_law_323 ?_
  refine lv_i2l (v := (xs (x4 + 4).toNatClampNeg).toInt64) hx hb dL_law_324 rfl ?_
  refine lv_bipush (v := 32) hx hb dL_law_325 (by decide) ?_
  refine lv_lshl (v := zlshl ((xs (x4 + 4).toNatClampNeg).toInt64) 32) hx hb dL_law_327 rfl ?_
  refine lv_aload_n hx hb dL_law_328 rfl (lv_at hl 5 rfl) ?_
  refine lv_iload hx hb dL_law_329 (lv_at hl 1 rfl) ?_
  refine lv_iconst (v := 5) hx hb dL_law_331 (by decide) ?_
  refine lv_iadd hx hb dL_law_332 ?_
  obtain ⟨q, hf⟩ := zck_use hf
  refine va_sld hx hb hX hbl hbA hI.2.2.2.1 (zin_in q) dL_law_333 ?_
  refine lv_i2l (v := (xs (x4 + 5).toNatClampNeg).toInt64) hx hb dL_law_334 rfl ?_
  refine lv_ldc2 (v := 4294967295) hx hb hC.2.2.2.1 (hC.2.2.2.2.1 _ (List.mem_cons_of_mem _ zw1_7)) dL_law_335 ?_
  refine lv_land hx hb dL_law_338 ?_
  refine lv_lor hx hb dL_law_339 ?_
  refine lv_aload_n hx hb dL_law_340 rfl (lv_at hl 5 rfl) ?_
  refine lv_iload hx hb dL_law_341 (lv_at hl 1 rfl) ?_
  refine lv_bipush (v := 6) hx hb dL_law_343 (by decide) ?_
  refine lv_iadd hx hb dL_law_345 ?_
  obtain ⟨q, hf⟩ := zck_use hf
  refine va_sld hx hb hX hbl hbA hI.2.2.2.1 (zin_in q) dL_law_346 ?_
  refine lv_i2l (v := (xs (x4 + 6).toNatClampNeg).toInt64) hx hb dL_law_347 rfl ?_
  refine lv_bipush (v := 32) hx hb dL_law_348 (by decide) ?_
  refine lv_lshl (v := zlshl ((xs (x4 + 6).toNatClampNeg).toInt64) 32) hx hb dL_law_350 rfl ?_
  refine lv_aload_n hx hb dL_law_351 rfl (lv_at hl 5 rfl) ?_
  refine lv_iload hx hb dL_law_352 (lv_at hl 1 rfl) ?_
  refine lv_bipush (v := 7) hx hb dL_law_354 (by decide) ?_
  refine lv_iadd hx hb dL_law_356 ?_
  obtain ⟨q, hf⟩ := zck_use hf
  refine va_sld hx hb hX hbl hbA hI.2.2.2.1 (zin_in q) dL_law_357 ?_
  refine lv_i2l (v := (xs (x4 + 7).toNatClampNeg).toInt64) hx hb dL_law_358 rfl ?_
  refine lv_ldc2 (v := 4294967295) hx hb hC.2.2.2.1 (hC.2.2.2.2.1 _ (List.mem_cons_of_mem _ zw1_7)) dL_law_359 ?_
  refine lv_land hx hb dL_law_362 ?_
  refine lv_lor hx hb dL_law_363 ?_
  obtain ⟨μ3, v4, g3, hf⟩ := zbi_use hf
  refine z_fcallVi (u := zHo ao co o1 ++ wC ad cy σ1) (w := wM am cm) (As := [.int (xs (x4 + 1).toNatClampNeg), .long ((zlshl ((xs (x4 + 2).toNatClampNeg).toInt64) 32) ||| (((xs (x4 + 3).toNatClampNeg).toInt64) &&& 4294967295)), .long ((zlshl ((xs (x4 + 4).toNatClampNeg).toInt64) 32) ||| (((xs (x4 + 5).toNatClampNeg).toInt64) &&& 4294967295)), .long ((zlshl ((xs (x4 + 6).toNatClampNeg).toInt64) 32) ||| (((xs (x4 + 7).toNatClampNeg).toInt64) &&& 4294967295))]) (rest := []) hC (zI.swap hI) (zKM hI.1) (cX12_feed_met st l D am cm μ (xs (x4 + 1).toNatClampNeg) ((zlshl ((xs (x4 + 2).toNatClampNeg).toInt64) 32) ||| (((xs (x4 + 3).toNatClampNeg).toInt64) &&& 4294967295)) ((zlshl ((xs (x4 + 4).toNatClampNeg).toInt64) 32) ||| (((xs (x4 + 5).toNatClampNeg).toInt64) &&& 4294967295)) ((zlshl ((xs (x4 + 6).toNatClampNeg).toInt64) 32) ||| (((xs (x4 + 7).toNatClampNeg).toInt64) &&& 4294967295)) _ g3) (zgV zw11_12 zw11_13 zw11_14 zw1_5 zw11_15) rfl ⟨rfl, rfl⟩ 4 hdX12_feed ⟨Nat.le_of_ble_eq_true rfl, Nat.le_of_ble_eq_true rfl⟩ rfl rfl (wM_e0 am cm μ) rfl hl rfl (Nat.le_of_ble_eq_true rfl) dL_law_364 ⟨by show cells + 1 ≤ 600128; omega, by show slots + 6 ≤ 7301064; omega⟩ (fun H locs hI => ?_)
  have hI : zLw st D ad cy am cm ao co μ3 o1 σ1 s H locs := zI.swap hI
  refine lv_istore (lv' := [(6, .int v4), (5, .int v2), (4, .int x4), (3, .ref ao), (2, .ref (am 0)), (1, .ref (ad 0)), (0, .ref b)]) hx hb dL_law_367 hl (by decide) rfl (fun ls hl => ?_)
  refine lv_goto (tgt := 1418) hx hb dL_law_369 (by decide) ?_
  obtain ⟨v5, ev5⟩ : ∃ z : Int32, z = x4 + 8 := ⟨_, rfl⟩
  replace hf := zbv_use ev5 hf
  refine lv_iinc (v := v5) (lv' := [(4, .int v5), (6, .int v4), (5, .int v2), (3, .ref ao), (2, .ref (am 0)), (1, .ref (ad 0)), (0, .ref b)]) hx hb dL_law_1418 hl (k := 2) rfl (by rw [ev5]; rfl) (by decide) rfl (fun ls hl => ?_)
  refine lv_goto (tgt := 33) hx hb dL_law_1421 (by decide) ?_
  exact hk _ _ _ _ _ _ _ _ _ (by omega) (by omega) hI (lv_sub hl [0, 3, 4, 5, 6] rfl) hf
def fLaw_372 (xs : Nat → Int32) (L : Nat) (kn : zSt → (Nat → Int64) → zSt → Int32 → Option Int32) (μ : zSt) (o : Nat → Int64) (σ : zSt) (x4 : Int32) : Option Int32 :=
  zck (zin (x4 + 1) L) (zbh (fL_grow o σ (xs (x4 + 1).toNatClampNeg)) (fun o6 σ6 v7 =>
  zck (zin (x4 + 1) L) (zbi (fX12_grow μ (xs (x4 + 1).toNatClampNeg)) (fun μ8 v9 =>
  zbv (x4 + 8) (fun v10 => kn μ8 o6 σ6 v10)))))
set_option maxRecDepth 20000 in
set_option maxHeartbeats 4000000 in
theorem bLaw_372 {p : Program} {l : Launch} {e : Env} {s : State} {m : MethodId} {below : List Frame} {meth : Method} {c : Code} {st : Nat → Nat} {D : va_G} {b L : Nat} {xs : Nat → Int32} {ad am : Nat → Nat} {cy cm : Nat → ClassId} {ao : Nat} {co : ClassId} (hC : zC p m c cL_law 8 s #[Value.ref b] wzL_law RL meth ret) (hst : l.stackTraces = false) (hX : va_X b L xs s s.heap) (hbl : b < s.heap.size) (hbA : ¬ (fun q : Nat => s.heap.size ≤ q) b) {n : Nat} {kn : zSt → (Nat → Int64) → zSt → Int32 → Option Int32} (hk : ∀ (H : Heap) (locs : List Loc) (μ : zSt) (o : Nat → Int64) (σ : zSt) (ls : Array Slot) (x4 : Int32) (cells slots : Nat), cells + n ≤ 600128 → slots + 6 * n ≤ 7301064 → zLw st D ad cy am cm ao co μ o σ s H locs → lv_has ls 8 [(4, .int x4), (3, .ref ao), (2, .ref (am 0)), (1, .ref (ad 0)), (0, .ref b)] → kn μ o σ x4 = some 1 → W p l e room_1 s m #[Value.ref b] below meth c H locs cells slots (lw_Z below #[Value.ref b] s) (F0 m 33 ls [])) {H : Heap} {locs : List Loc} {μ : zSt} {o : Nat → Int64} {σ : zSt} {ls : Array Slot} {x4 : Int32} {cells slots : Nat} (hc : cells + (n + 1) ≤ 600128) (hs : slots + 6 * (n + 1) ≤ 7301064) (hI : zLw st D ad cy am cm ao co μ o σ s H locs) (hl : lv_has ls 8 [(4, .int x4), (3, .ref ao), (2, .ref (am 0)), (1, .ref (ad 0)), (0, .ref b)]) (hf : fLaw_372 xs L kn μ o σ x4 = some 1) : W p l e room_1 s m #[Value.ref b] below meth c H locs cells slots (lw_Z below #[Value.ref b] s) (F0 m 372 ls []) := by
  have hx := hC.1
  have hb := hC.2.1
  unfold fLaw_372 at hf
  refine lv_aload_n hx hb dL_law_372 rfl (lv_at hl 3 rfl) ?_
  refine lv_aload_n hx hb dL_law_373 rfl (lv_at hl 4 rfl) ?_
  refine lv_iload hx hb dL_law_374 (lv_at hl 0 rfl) ?_
  refine lv_iconst (v := 1) hx hb dL_law_376 (by decide) ?_
  refine lv_iadd hx hb dL_law_377 ?_
  obtain ⟨q, hf⟩ := zck_use hf
  refine va_sld hx hb hX hbl hbA hI.2.2.2.1 (zin_in q) dL_law_378 ?_
  refine lv_aload_n hx hb dL_law_379 rfl (lv_at hl 1 rfl) ?_
  obtain ⟨o6, σ6, v7, g6, hf⟩ := zbh_use hf
  refine z_fcallH (u := wM am cm μ) (w := fun x : zHs => zHo ao co x.1 ++ wC ad cy x.2) (x := (o, σ)) (As := [.ref (ad 0), .int (xs (x4 + 1).toNatClampNeg), .ref ao]) (rest := []) hC hI (zKH hI.1) (cL_grow_met st l hst D ad cy ao co o σ (xs (x4 + 1).toNatClampNeg) _ g6) (zgS zw12_2 zw12_3 zw1_10 zw12_4) rfl ⟨rfl, rfl⟩ 3 hdL_grow ⟨Nat.le_of_ble_eq_true rfl, Nat.le_of_ble_eq_true rfl⟩ rfl hl rfl (Nat.le_of_ble_eq_true rfl) dL_law_380 ⟨by show cells + 1 ≤ 600128; omega, by show slots + 6 ≤ 7301064; omega⟩ (fun H locs hI => ?_)
  have hI : zLw st D ad cy am cm ao co μ o6 σ6 s H locs := hI
  refine lv_istore (lv' := [(5, .int v7), (4, .int x4), (3, .ref ao), (2, .ref (am 0)), (1, .ref (ad 0)), (0, .ref b)]) hx hb dL_law_383 hl (by decide) rfl (fun ls hl => ?_)
  refine lv_aload_n hx hb dL_law_385 rfl (lv_at hl 3 rfl) ?_
  refine lv_aload_n hx hb dL_law_386 rfl (lv_at hl 5 rfl) ?_
  refine lv_iload hx hb dL_law_387 (lv_at hl 1 rfl) ?_
  refine lv_iconst (v := 1) hx hb dL_law_389 (by decide) ?_
  refine lv_iadd hx hb dL_law_390 ?_
  obtain ⟨q, hf⟩ := zck_use hf
  refine va_sld hx hb hX hbl hbA hI.2.2.2.1 (zin_in q) dL_law_391 ?_
  obtain ⟨μ8, v9, g8, hf⟩ := zbi_use hf
  refine z_fcallVi (u := zHo ao co o6 ++ wC ad cy σ6) (w := wM am cm) (As := [.int (xs (x4 + 1).toNatClampNeg)]) (rest := []) hC (zI.swap hI) (zKM hI.1) (cX12_grow_met st l D am cm μ (xs (x4 + 1).toNatClampNeg) _ g8) (zgV zw12_20 zw12_21 zw12_22 zw1_5 zw12_23) rfl ⟨rfl, rfl⟩ 1 hdX12_grow ⟨Nat.le_of_ble_eq_true rfl, Nat.le_of_ble_eq_true rfl⟩ rfl rfl (wM_e0 am cm μ) rfl hl rfl (Nat.le_of_ble_eq_true rfl) dL_law_392 ⟨by show cells + 1 ≤ 600128; omega, by show slots + 6 ≤ 7301064; omega⟩ (fun H locs hI => ?_)
  have hI : zLw st D ad cy am cm ao co μ8 o6 σ6 s H locs := zI.swap hI
  refine lv_istore (lv' := [(6, .int v9), (5, .int v7), (4, .int x4), (3, .ref ao), (2, .ref (am 0)), (1, .ref (ad 0)), (0, .ref b)]) hx hb dL_law_395 hl (by decide) rfl (fun ls hl => ?_)
  refine lv_goto (tgt := 1418) hx hb dL_law_397 (by decide) ?_
  obtain ⟨v10, ev10⟩ : ∃ z : Int32, z = x4 + 8 := ⟨_, rfl⟩
  replace hf := zbv_use ev10 hf
  refine lv_iinc (v := v10) (lv' := [(4, .int v10), (6, .int v9), (5, .int v7), (3, .ref ao), (2, .ref (am 0)), (1, .ref (ad 0)), (0, .ref b)]) hx hb dL_law_1418 hl (k := 2) rfl (by rw [ev10]; rfl) (by decide) rfl (fun ls hl => ?_)
  refine lv_goto (tgt := 33) hx hb dL_law_1421 (by decide) ?_
  exact hk _ _ _ _ _ _ _ _ _ (by omega) (by omega) hI (lv_sub hl [0, 3, 4, 5, 6] rfl) hf
def fLaw_400 (xs : Nat → Int32) (L : Nat) (kn : zSt → (Nat → Int64) → zSt → Int32 → Option Int32) (μ : zSt) (o : Nat → Int64) (σ : zSt) (x4 : Int32) : Option Int32 :=
  zck (zin (x4 + 1) L) (zck (zin (x4 + 2) L) (zck (zin (x4 + 3) L) (zbi (fL_patch σ (xs (x4 + 1).toNatClampNeg) ((zlshl ((xs (x4 + 2).toNatClampNeg).toInt64) 32) ||| (((xs (x4 + 3).toNatClampNeg).toInt64) &&& 4294967295))) (fun σ11 v12 =>
  zck (zin (x4 + 1) L) (zck (zin (x4 + 2) L) (zck (zin (x4 + 3) L) (zbu (fX12_patch μ (xs (x4 + 1).toNatClampNeg) ((zlshl ((xs (x4 + 2).toNatClampNeg).toInt64) 32) ||| (((xs (x4 + 3).toNatClampNeg).toInt64) &&& 4294967295))) (fun μ13 =>
  zbv (x4 + 8) (fun v14 => kn μ13 o σ11 v14)))))))))
set_option maxRecDepth 20000 in
set_option maxHeartbeats 4000000 in
theorem bLaw_400 {p : Program} {l : Launch} {e : Env} {s : State} {m : MethodId} {below : List Frame} {meth : Method} {c : Code} {st : Nat → Nat} {D : va_G} {b L : Nat} {xs : Nat → Int32} {ad am : Nat → Nat} {cy cm : Nat → ClassId} {ao : Nat} {co : ClassId} (hC : zC p m c cL_law 8 s #[Value.ref b] wzL_law RL meth ret) (hst : l.stackTraces = false) (hX : va_X b L xs s s.heap) (hbl : b < s.heap.size) (hbA : ¬ (fun q : Nat => s.heap.size ≤ q) b) {n : Nat} {kn : zSt → (Nat → Int64) → zSt → Int32 → Option Int32} (hk : ∀ (H : Heap) (locs : List Loc) (μ : zSt) (o : Nat → Int64) (σ : zSt) (ls : Array Slot) (x4 : Int32) (cells slots : Nat), cells + n ≤ 600128 → slots + 6 * n ≤ 7301064 → zLw st D ad cy am cm ao co μ o σ s H locs → lv_has ls 8 [(4, .int x4), (3, .ref ao), (2, .ref (am 0)), (1, .ref (ad 0)), (0, .ref b)] → kn μ o σ x4 = some 1 → W p l e room_1 s m #[Value.ref b] below meth c H locs cells slots (lw_Z below #[Value.ref b] s) (F0 m 33 ls [])) {H : Heap} {locs : List Loc} {μ : zSt} {o : Nat → Int64} {σ : zSt} {ls : Array Slot} {x4 : Int32} {cells slots : Nat} (hc : cells + (n + 1) ≤ 600128) (hs : slots + 6 * (n + 1) ≤ 7301064) (hI : zLw st D ad cy am cm ao co μ o σ s H locs) (hl : lv_has ls 8 [(4, .int x4), (3, .ref ao), (2, .ref (am 0)), (1, .ref (ad 0)), (0, .ref b)]) (hf : fLaw_400 xs L kn μ o σ x4 = some 1) : W p l e room_1 s m #[Value.ref b] below meth c H locs cells slots (lw_Z below #[Value.ref b] s) (F0 m 400 ls []) := by
  have hx := hC.1
  have hb := hC.2.1
  unfold fLaw_400 at hf
  refine lv_aload_n hx hb dL_law_400 rfl (lv_at hl 3 rfl) ?_
  refine lv_aload_n hx hb dL_law_401 rfl (lv_at hl 4 rfl) ?_
  refine lv_iload hx hb dL_law_402 (lv_at hl 0 rfl) ?_
  refine lv_iconst (v := 1) hx hb dL_law_404 (by decide) ?_
  refine lv_iadd hx hb dL_law_405 ?_
  obtain ⟨q, hf⟩ := zck_use hf
  refine va_sld hx hb hX hbl hbA hI.2.2.2.1 (zin_in q) dL_law_406 ?_
  refine lv_aload_n hx hb dL_law_407 rfl (lv_at hl 4 rfl) ?_
  refine lv_iload hx hb dL_law_408 (lv_at hl 0 rfl) ?_
  refine lv_iconst (v := 2) hx hb dL_law_410 (by decide) ?_
  refine lv_iadd hx hb dL_law_411 ?_
  obtain ⟨q, hf⟩ := zck_use hf
  refine va_sld hx hb hX hbl hbA hI.2.2.2.1 (zin_in q) dL_law_412 ?_
  refine lv_i2l (v := (xs (x4 + 2).toNatClampNeg).toInt64) hx hb dL_law_413 rfl ?_
  refine lv_bipush (v := 32) hx hb dL_law_414 (by decide) ?_
  refine lv_lshl (v := zlshl ((xs (x4 + 2).toNatClampNeg).toInt64) 32) hx hb dL_law_416 rfl ?_
  refine lv_aload_n hx hb dL_law_417 rfl (lv_at hl 4 rfl) ?_
  refine lv_iload hx hb dL_law_418 (lv_at hl 0 rfl) ?_
  refine lv_iconst (v := 3) hx hb dL_law_420 (by decide) ?_
  refine lv_iadd hx hb dL_law_421 ?_
  obtain ⟨q, hf⟩ := zck_use hf
  refine va_sld hx hb hX hbl hbA hI.2.2.2.1 (zin_in q) dL_law_422 ?_
  refine lv_i2l (v := (xs (x4 + 3).toNatClampNeg).toInt64) hx hb dL_law_423 rfl ?_
  refine lv_ldc2 (v := 4294967295) hx hb hC.2.2.2.1 (hC.2.2.2.2.1 _ (List.mem_cons_of_mem _ zw1_7)) dL_law_424 ?_
  refine lv_land hx hb dL_law_427 ?_
  refine lv_lor hx hb dL_law_428 ?_
  obtain ⟨σ11, v12, g11, hf⟩ := zbi_use hf
  refine z_fcallH (u := wM am cm μ ++ zHo ao co o) (w := wC ad cy) (x := σ) (As := [.ref (ad 0), .int (xs (x4 + 1).toNatClampNeg), .long ((zlshl ((xs (x4 + 2).toNatClampNeg).toInt64) 32) ||| (((xs (x4 + 3).toNatClampNeg).toInt64) &&& 4294967295))]) (rest := []) hC (zI.al hI) (zKC hI.1) (cL_patch_met st l hst D ad cy σ (xs (x4 + 1).toNatClampNeg) ((zlshl ((xs (x4 + 2).toNatClampNeg).toInt64) 32) ||| (((xs (x4 + 3).toNatClampNeg).toInt64) &&& 4294967295)) _ g11) (zgS zw13_0 zw13_1 zw1_10 zw13_2) rfl ⟨rfl, rfl⟩ 3 hdL_patch ⟨Nat.le_of_ble_eq_true rfl, Nat.le_of_ble_eq_true rfl⟩ rfl hl rfl (Nat.le_of_ble_eq_true rfl) dL_law_429 ⟨by show cells + 1 ≤ 600128; omega, by show slots + 6 ≤ 7301064; omega⟩ (fun H locs hI => ?_)
  have hI : zLw st D ad cy am cm ao co μ o σ11 s H locs := zI.ar hI
  refine lv_istore (lv' := [(5, .int v12), (4, .int x4), (3, .ref ao), (2, .ref (am 0)), (1, .ref (ad 0)), (0, .ref b)]) hx hb dL_law_432 hl (by decide) rfl (fun ls hl => ?_)
  refine lv_aload_n hx hb dL_law_434 rfl (lv_at hl 3 rfl) ?_
  refine lv_aload_n hx hb dL_law_435 rfl (lv_at hl 5 rfl) ?_
  refine lv_iload hx hb dL_law_436 (lv_at hl 1 rfl) ?_
  refine lv_iconst (v := 1) hx hb dL_law_438 (by decide) ?_
  refine lv_iadd hx hb dL_law_439 ?_
  obtain ⟨q, hf⟩ := zck_use hf
  refine va_sld hx hb hX hbl hbA hI.2.2.2.1 (zin_in q) dL_law_440 ?_
  refine lv_aload_n hx hb dL_law_441 rfl (lv_at hl 5 rfl) ?_
  refine lv_iload hx hb dL_law_442 (lv_at hl 1 rfl) ?_
  refine lv_iconst (v := 2) hx hb dL_law_444 (by decide) ?_
  refine lv_iadd hx hb dL_law_445 ?_
  obtain ⟨q, hf⟩ := zck_use hf
  refine va_sld hx hb hX hbl hbA hI.2.2.2.1 (zin_in q) dL_law_446 ?_
  refine lv_i2l (v := (xs (x4 + 2).toNatClampNeg).toInt64) hx hb dL_law_447 rfl ?_
  refine lv_bipush (v := 32) hx hb dL_law_448 (by decide) ?_
  refine lv_lshl (v := zlshl ((xs (x4 + 2).toNatClampNeg).toInt64) 32) hx hb dL_law_450 rfl ?_
  refine lv_aload_n hx hb dL_law_451 rfl (lv_at hl 5 rfl) ?_
  refine lv_iload hx hb dL_law_452 (lv_at hl 1 rfl) ?_
  refine lv_iconst (v := 3) hx hb dL_law_454 (by decide) ?_
  refine lv_iadd hx hb dL_law_455 ?_
  obtain ⟨q, hf⟩ := zck_use hf
  refine va_sld hx hb hX hbl hbA hI.2.2.2.1 (zin_in q) dL_law_456 ?_
  refine lv_i2l (v := (xs (x4 + 3).toNatClampNeg).toInt64) hx hb dL_law_457 rfl ?_
  refine lv_ldc2 (v := 4294967295) hx hb hC.2.2.2.1 (hC.2.2.2.2.1 _ (List.mem_cons_of_mem _ zw1_7)) dL_law_458 ?_
  refine lv_land hx hb dL_law_461 ?_
  refine lv_lor hx hb dL_law_462 ?_
  obtain ⟨μ13, g13, hf⟩ := zbu_use hf
  refine z_fcallVu (u := zHo ao co o ++ wC ad cy σ11) (w := wM am cm) (As := [.int (xs (x4 + 1).toNatClampNeg), .long ((zlshl ((xs (x4 + 2).toNatClampNeg).toInt64) 32) ||| (((xs (x4 + 3).toNatClampNeg).toInt64) &&& 4294967295))]) (rest := []) hC (zI.swap hI) (zKM hI.1) (cX12_patch_met st l D am cm μ (xs (x4 + 1).toNatClampNeg) ((zlshl ((xs (x4 + 2).toNatClampNeg).toInt64) 32) ||| (((xs (x4 + 3).toNatClampNeg).toInt64) &&& 4294967295)) _ g13) (zgV zw13_11 zw13_12 zw13_13 zw1_5 zw13_14) rfl ⟨rfl, rfl⟩ 2 hdX12_patch ⟨Nat.le_of_ble_eq_true rfl, Nat.le_of_ble_eq_true rfl⟩ rfl rfl (wM_e0 am cm μ) rfl hl rfl (Nat.le_of_ble_eq_true rfl) dL_law_463 ⟨by show cells + 1 ≤ 600128; omega, by show slots + 6 ≤ 7301064; omega⟩ (fun H locs hI => ?_)
  have hI : zLw st D ad cy am cm ao co μ13 o σ11 s H locs := zI.swap hI
  refine lv_goto (tgt := 1418) hx hb dL_law_466 (by decide) ?_
  obtain ⟨v14, ev14⟩ : ∃ z : Int32, z = x4 + 8 := ⟨_, rfl⟩
  replace hf := zbv_use ev14 hf
  refine lv_iinc (v := v14) (lv' := [(4, .int v14), (5, .int v12), (3, .ref ao), (2, .ref (am 0)), (1, .ref (ad 0)), (0, .ref b)]) hx hb dL_law_1418 hl (k := 1) rfl (by rw [ev14]; rfl) (by decide) rfl (fun ls hl => ?_)
  refine lv_goto (tgt := 33) hx hb dL_law_1421 (by decide) ?_
  exact hk _ _ _ _ _ _ _ _ _ (by omega) (by omega) hI (lv_sub hl [0, 2, 3, 4, 5] rfl) hf
def fLaw_469 (xs : Nat → Int32) (L : Nat) (kn : zSt → (Nat → Int64) → zSt → Int32 → Option Int32) (μ : zSt) (o : Nat → Int64) (σ : zSt) (x4 : Int32) : Option Int32 :=
  zbi (fX11_load σ ) (fun σ15 v16 =>
  zbi (fX12_load μ ) (fun μ17 v18 =>
  zbv (x4 + 8) (fun v19 => kn μ17 o σ15 v19)))
set_option maxRecDepth 20000 in
set_option maxHeartbeats 4000000 in
theorem bLaw_469 {p : Program} {l : Launch} {e : Env} {s : State} {m : MethodId} {below : List Frame} {meth : Method} {c : Code} {st : Nat → Nat} {D : va_G} {b L : Nat} {xs : Nat → Int32} {ad am : Nat → Nat} {cy cm : Nat → ClassId} {ao : Nat} {co : ClassId} (hC : zC p m c cL_law 8 s #[Value.ref b] wzL_law RL meth ret) (hst : l.stackTraces = false) (hX : va_X b L xs s s.heap) (hbl : b < s.heap.size) (hbA : ¬ (fun q : Nat => s.heap.size ≤ q) b) {n : Nat} {kn : zSt → (Nat → Int64) → zSt → Int32 → Option Int32} (hk : ∀ (H : Heap) (locs : List Loc) (μ : zSt) (o : Nat → Int64) (σ : zSt) (ls : Array Slot) (x4 : Int32) (cells slots : Nat), cells + n ≤ 600128 → slots + 6 * n ≤ 7301064 → zLw st D ad cy am cm ao co μ o σ s H locs → lv_has ls 8 [(4, .int x4), (3, .ref ao), (2, .ref (am 0)), (1, .ref (ad 0)), (0, .ref b)] → kn μ o σ x4 = some 1 → W p l e room_1 s m #[Value.ref b] below meth c H locs cells slots (lw_Z below #[Value.ref b] s) (F0 m 33 ls [])) {H : Heap} {locs : List Loc} {μ : zSt} {o : Nat → Int64} {σ : zSt} {ls : Array Slot} {x4 : Int32} {cells slots : Nat} (hc : cells + (n + 1) ≤ 600128) (hs : slots + 6 * (n + 1) ≤ 7301064) (hI : zLw st D ad cy am cm ao co μ o σ s H locs) (hl : lv_has ls 8 [(4, .int x4), (3, .ref ao), (2, .ref (am 0)), (1, .ref (ad 0)), (0, .ref b)]) (hf : fLaw_469 xs L kn μ o σ x4 = some 1) : W p l e room_1 s m #[Value.ref b] below meth c H locs cells slots (lw_Z below #[Value.ref b] s) (F0 m 469 ls []) := by
  have hx := hC.1
  have hb := hC.2.1
  unfold fLaw_469 at hf
  refine lv_aload_n hx hb dL_law_469 rfl (lv_at hl 3 rfl) ?_
  obtain ⟨σ15, v16, g15, hf⟩ := zbi_use hf
  refine z_fcallVi (u := wM am cm μ ++ zHo ao co o) (w := wC ad cy) (As := []) (rest := []) hC (zI.al hI) (zKC hI.1) (cX11_load_met st l D ad cy σ  _ g15) (zgV zw13_15 zw13_16 zw13_17 zw1_2 zw13_18) rfl ⟨rfl, rfl⟩ 0 hdX11_load ⟨Nat.le_of_ble_eq_true rfl, Nat.le_of_ble_eq_true rfl⟩ rfl rfl (wC_e0 ad cy σ) rfl hl rfl (Nat.le_of_ble_eq_true rfl) dL_law_470 ⟨by show cells ≤ 600128; omega, by show slots ≤ 7301064; omega⟩ (fun H locs hI => ?_)
  have hI : zLw st D ad cy am cm ao co μ o σ15 s H locs := zI.ar hI
  refine lv_pop hx hb dL_law_473 rfl ?_
  refine lv_aload_n hx hb dL_law_474 rfl (lv_at hl 2 rfl) ?_
  obtain ⟨μ17, v18, g17, hf⟩ := zbi_use hf
  refine z_fcallVi (u := zHo ao co o ++ wC ad cy σ15) (w := wM am cm) (As := []) (rest := []) hC (zI.swap hI) (zKM hI.1) (cX12_load_met st l D am cm μ  _ g17) (zgV zw16_2 zw16_3 zw16_4 zw1_5 zw16_5) rfl ⟨rfl, rfl⟩ 0 hdX12_load ⟨Nat.le_of_ble_eq_true rfl, Nat.le_of_ble_eq_true rfl⟩ rfl rfl (wM_e0 am cm μ) rfl hl rfl (Nat.le_of_ble_eq_true rfl) dL_law_475 ⟨by show cells ≤ 600128; omega, by show slots ≤ 7301064; omega⟩ (fun H locs hI => ?_)
  have hI : zLw st D ad cy am cm ao co μ17 o σ15 s H locs := zI.swap hI
  refine lv_pop hx hb dL_law_478 rfl ?_
  refine lv_goto (tgt := 1418) hx hb dL_law_479 (by decide) ?_
  obtain ⟨v19, ev19⟩ : ∃ z : Int32, z = x4 + 8 := ⟨_, rfl⟩
  replace hf := zbv_use ev19 hf
  refine lv_iinc (v := v19) (lv' := [(4, .int v19), (3, .ref ao), (2, .ref (am 0)), (1, .ref (ad 0)), (0, .ref b)]) hx hb dL_law_1418 hl (k := 0) rfl (by rw [ev19]; rfl) (by decide) rfl (fun ls hl => ?_)
  refine lv_goto (tgt := 33) hx hb dL_law_1421 (by decide) ?_
  exact hk _ _ _ _ _ _ _ _ _ (by omega) (by omega) hI (lv_sub hl [0, 1, 2, 3, 4] rfl) hf
def fLaw_482 (xs : Nat → Int32) (L : Nat) (kn : zSt → (Nat → Int64) → zSt → Int32 → Option Int32) (μ : zSt) (o : Nat → Int64) (σ : zSt) (x4 : Int32) : Option Int32 :=
  zck (zin (x4 + 1) L) (zbh (fL_card o σ (xs (x4 + 1).toNatClampNeg)) (fun o20 σ20 v21 =>
  zck (zin (x4 + 1) L) (zbi (fX12_card μ (xs (x4 + 1).toNatClampNeg)) (fun μ22 v23 =>
  zbv (x4 + 8) (fun v24 => kn μ22 o20 σ20 v24)))))
set_option maxRecDepth 20000 in
set_option maxHeartbeats 4000000 in
theorem bLaw_482 {p : Program} {l : Launch} {e : Env} {s : State} {m : MethodId} {below : List Frame} {meth : Method} {c : Code} {st : Nat → Nat} {D : va_G} {b L : Nat} {xs : Nat → Int32} {ad am : Nat → Nat} {cy cm : Nat → ClassId} {ao : Nat} {co : ClassId} (hC : zC p m c cL_law 8 s #[Value.ref b] wzL_law RL meth ret) (hst : l.stackTraces = false) (hX : va_X b L xs s s.heap) (hbl : b < s.heap.size) (hbA : ¬ (fun q : Nat => s.heap.size ≤ q) b) {n : Nat} {kn : zSt → (Nat → Int64) → zSt → Int32 → Option Int32} (hk : ∀ (H : Heap) (locs : List Loc) (μ : zSt) (o : Nat → Int64) (σ : zSt) (ls : Array Slot) (x4 : Int32) (cells slots : Nat), cells + n ≤ 600128 → slots + 6 * n ≤ 7301064 → zLw st D ad cy am cm ao co μ o σ s H locs → lv_has ls 8 [(4, .int x4), (3, .ref ao), (2, .ref (am 0)), (1, .ref (ad 0)), (0, .ref b)] → kn μ o σ x4 = some 1 → W p l e room_1 s m #[Value.ref b] below meth c H locs cells slots (lw_Z below #[Value.ref b] s) (F0 m 33 ls [])) {H : Heap} {locs : List Loc} {μ : zSt} {o : Nat → Int64} {σ : zSt} {ls : Array Slot} {x4 : Int32} {cells slots : Nat} (hc : cells + (n + 1) ≤ 600128) (hs : slots + 6 * (n + 1) ≤ 7301064) (hI : zLw st D ad cy am cm ao co μ o σ s H locs) (hl : lv_has ls 8 [(4, .int x4), (3, .ref ao), (2, .ref (am 0)), (1, .ref (ad 0)), (0, .ref b)]) (hf : fLaw_482 xs L kn μ o σ x4 = some 1) : W p l e room_1 s m #[Value.ref b] below meth c H locs cells slots (lw_Z below #[Value.ref b] s) (F0 m 482 ls []) := by
  have hx := hC.1
  have hb := hC.2.1
  unfold fLaw_482 at hf
  refine lv_aload_n hx hb dL_law_482 rfl (lv_at hl 3 rfl) ?_
  refine lv_aload_n hx hb dL_law_483 rfl (lv_at hl 4 rfl) ?_
  refine lv_iload hx hb dL_law_484 (lv_at hl 0 rfl) ?_
  refine lv_iconst (v := 1) hx hb dL_law_486 (by decide) ?_
  refine lv_iadd hx hb dL_law_487 ?_
  obtain ⟨q, hf⟩ := zck_use hf
  refine va_sld hx hb hX hbl hbA hI.2.2.2.1 (zin_in q) dL_law_488 ?_
  refine lv_aload_n hx hb dL_law_489 rfl (lv_at hl 1 rfl) ?_
  obtain ⟨o20, σ20, v21, g20, hf⟩ := zbh_use hf
  refine z_fcallH (u := wM am cm μ) (w := fun x : zHs => zHo ao co x.1 ++ wC ad cy x.2) (x := (o, σ)) (As := [.ref (ad 0), .int (xs (x4 + 1).toNatClampNeg), .ref ao]) (rest := []) hC hI (zKH hI.1) (cL_card_met st l hst D ad cy ao co o σ (xs (x4 + 1).toNatClampNeg) _ g20) (zgS zw16_21 zw16_22 zw1_10 zw16_23) rfl ⟨rfl, rfl⟩ 3 hdL_card ⟨Nat.le_of_ble_eq_true rfl, Nat.le_of_ble_eq_true rfl⟩ rfl hl rfl (Nat.le_of_ble_eq_true rfl) dL_law_490 ⟨by show cells + 1 ≤ 600128; omega, by show slots + 6 ≤ 7301064; omega⟩ (fun H locs hI => ?_)
  have hI : zLw st D ad cy am cm ao co μ o20 σ20 s H locs := hI
  refine lv_istore (lv' := [(5, .int v21), (4, .int x4), (3, .ref ao), (2, .ref (am 0)), (1, .ref (ad 0)), (0, .ref b)]) hx hb dL_law_493 hl (by decide) rfl (fun ls hl => ?_)
  refine lv_aload_n hx hb dL_law_495 rfl (lv_at hl 3 rfl) ?_
  refine lv_aload_n hx hb dL_law_496 rfl (lv_at hl 5 rfl) ?_
  refine lv_iload hx hb dL_law_497 (lv_at hl 1 rfl) ?_
  refine lv_iconst (v := 1) hx hb dL_law_499 (by decide) ?_
  refine lv_iadd hx hb dL_law_500 ?_
  obtain ⟨q, hf⟩ := zck_use hf
  refine va_sld hx hb hX hbl hbA hI.2.2.2.1 (zin_in q) dL_law_501 ?_
  obtain ⟨μ22, v23, g22, hf⟩ := zbi_use hf
  refine z_fcallVi (u := zHo ao co o20 ++ wC ad cy σ20) (w := wM am cm) (As := [.int (xs (x4 + 1).toNatClampNeg)]) (rest := []) hC (zI.swap hI) (zKM hI.1) (cX12_card_met st l D am cm μ (xs (x4 + 1).toNatClampNeg) _ g22) (zgV zw17_17 zw17_18 zw17_19 zw1_5 zw17_20) rfl ⟨rfl, rfl⟩ 1 hdX12_card ⟨Nat.le_of_ble_eq_true rfl, Nat.le_of_ble_eq_true rfl⟩ rfl rfl (wM_e0 am cm μ) rfl hl rfl (Nat.le_of_ble_eq_true rfl) dL_law_502 ⟨by show cells + 1 ≤ 600128; omega, by show slots + 6 ≤ 7301064; omega⟩ (fun H locs hI => ?_)
  have hI : zLw st D ad cy am cm ao co μ22 o20 σ20 s H locs := zI.swap hI
  refine lv_istore (lv' := [(6, .int v23), (5, .int v21), (4, .int x4), (3, .ref ao), (2, .ref (am 0)), (1, .ref (ad 0)), (0, .ref b)]) hx hb dL_law_505 hl (by decide) rfl (fun ls hl => ?_)
  refine lv_goto (tgt := 1418) hx hb dL_law_507 (by decide) ?_
  obtain ⟨v24, ev24⟩ : ∃ z : Int32, z = x4 + 8 := ⟨_, rfl⟩
  replace hf := zbv_use ev24 hf
  refine lv_iinc (v := v24) (lv' := [(4, .int v24), (6, .int v23), (5, .int v21), (3, .ref ao), (2, .ref (am 0)), (1, .ref (ad 0)), (0, .ref b)]) hx hb dL_law_1418 hl (k := 2) rfl (by rw [ev24]; rfl) (by decide) rfl (fun ls hl => ?_)
  refine lv_goto (tgt := 33) hx hb dL_law_1421 (by decide) ?_
  exact hk _ _ _ _ _ _ _ _ _ (by omega) (by omega) hI (lv_sub hl [0, 3, 4, 5, 6] rfl) hf
def fLaw_510 (xs : Nat → Int32) (L : Nat) (kn : zSt → (Nat → Int64) → zSt → Int32 → Option Int32) (μ : zSt) (o : Nat → Int64) (σ : zSt) (x4 : Int32) : Option Int32 :=
  zck (zin (x4 + 1) L) (zbh (fL_step o σ (xs (x4 + 1).toNatClampNeg)) (fun o25 σ25 v26 =>
  zck (zin (x4 + 1) L) (zbi (fX12_step μ (xs (x4 + 1).toNatClampNeg)) (fun μ27 v28 =>
  zbv (x4 + 8) (fun v29 => kn μ27 o25 σ25 v29)))))
set_option maxRecDepth 20000 in
set_option maxHeartbeats 4000000 in
theorem bLaw_510 {p : Program} {l : Launch} {e : Env} {s : State} {m : MethodId} {below : List Frame} {meth : Method} {c : Code} {st : Nat → Nat} {D : va_G} {b L : Nat} {xs : Nat → Int32} {ad am : Nat → Nat} {cy cm : Nat → ClassId} {ao : Nat} {co : ClassId} (hC : zC p m c cL_law 8 s #[Value.ref b] wzL_law RL meth ret) (hst : l.stackTraces = false) (hX : va_X b L xs s s.heap) (hbl : b < s.heap.size) (hbA : ¬ (fun q : Nat => s.heap.size ≤ q) b) {n : Nat} {kn : zSt → (Nat → Int64) → zSt → Int32 → Option Int32} (hk : ∀ (H : Heap) (locs : List Loc) (μ : zSt) (o : Nat → Int64) (σ : zSt) (ls : Array Slot) (x4 : Int32) (cells slots : Nat), cells + n ≤ 600128 → slots + 6 * n ≤ 7301064 → zLw st D ad cy am cm ao co μ o σ s H locs → lv_has ls 8 [(4, .int x4), (3, .ref ao), (2, .ref (am 0)), (1, .ref (ad 0)), (0, .ref b)] → kn μ o σ x4 = some 1 → W p l e room_1 s m #[Value.ref b] below meth c H locs cells slots (lw_Z below #[Value.ref b] s) (F0 m 33 ls [])) {H : Heap} {locs : List Loc} {μ : zSt} {o : Nat → Int64} {σ : zSt} {ls : Array Slot} {x4 : Int32} {cells slots : Nat} (hc : cells + (n + 1) ≤ 600128) (hs : slots + 6 * (n + 1) ≤ 7301064) (hI : zLw st D ad cy am cm ao co μ o σ s H locs) (hl : lv_has ls 8 [(4, .int x4), (3, .ref ao), (2, .ref (am 0)), (1, .ref (ad 0)), (0, .ref b)]) (hf : fLaw_510 xs L kn μ o σ x4 = some 1) : W p l e room_1 s m #[Value.ref b] below meth c H locs cells slots (lw_Z below #[Value.ref b] s) (F0 m 510 ls []) := by
  have hx := hC.1
  have hb := hC.2.1
  unfold fLaw_510 at hf
  refine lv_aload_n hx hb dL_law_510 rfl (lv_at hl 3 rfl) ?_
  refine lv_aload_n hx hb dL_law_511 rfl (lv_at hl 4 rfl) ?_
  refine lv_iload hx hb dL_law_512 (lv_at hl 0 rfl) ?_
  refine lv_iconst (v := 1) hx hb dL_law_514 (by decide) ?_
  refine lv_iadd hx hb dL_law_515 ?_
  obtain ⟨q, hf⟩ := zck_use hf
  refine va_sld hx hb hX hbl hbA hI.2.2.2.1 (zin_in q) dL_law_516 ?_
  refine lv_aload_n hx hb dL_law_517 rfl (lv_at hl 1 rfl) ?_
  obtain ⟨o25, σ25, v26, g25, hf⟩ := zbh_use hf
  refine z_fcallH (u := wM am cm μ) (w := fun x : zHs => zHo ao co x.1 ++ wC ad cy x.2) (x := (o, σ)) (As := [.ref (ad 0), .int (xs (x4 + 1).toNatClampNeg), .ref ao]) (rest := []) hC hI (zKH hI.1) (cL_step_met st l hst D ad cy ao co o σ (xs (x4 + 1).toNatClampNeg) _ g25) (zgS zw18_2 zw18_3 zw1_10 zw18_4) rfl ⟨rfl, rfl⟩ 3 hdL_step ⟨Nat.le_of_ble_eq_true rfl, Nat.le_of_ble_eq_true rfl⟩ rfl hl rfl (Nat.le_of_ble_eq_true rfl) dL_law_518 ⟨by show cells + 1 ≤ 600128; omega, by show slots + 6 ≤ 7301064; omega⟩ (fun H locs hI => ?_)
  have hI : zLw st D ad cy am cm ao co μ o25 σ25 s H locs := hI
  refine lv_istore (lv' := [(5, .int v26), (4, .int x4), (3, .ref ao), (2, .ref (am 0)), (1, .ref (ad 0)), (0, .ref b)]) hx hb dL_law_521 hl (by decide) rfl (fun ls hl => ?_)
  refine lv_aload_n hx hb dL_law_523 rfl (lv_at hl 3 rfl) ?_
  refine lv_aload_n hx hb dL_law_524 rfl (lv_at hl 5 rfl) ?_
  refine lv_iload hx hb dL_law_525 (lv_at hl 1 rfl) ?_
  refine lv_iconst (v := 1) hx hb dL_law_527 (by decide) ?_
  refine lv_iadd hx hb dL_law_528 ?_
  obtain ⟨q, hf⟩ := zck_use hf
  refine va_sld hx hb hX hbl hbA hI.2.2.2.1 (zin_in q) dL_law_529 ?_
  obtain ⟨μ27, v28, g27, hf⟩ := zbi_use hf
  refine z_fcallVi (u := zHo ao co o25 ++ wC ad cy σ25) (w := wM am cm) (As := [.int (xs (x4 + 1).toNatClampNeg)]) (rest := []) hC (zI.swap hI) (zKM hI.1) (cX12_step_met st l D am cm μ (xs (x4 + 1).toNatClampNeg) _ g27) (zgV zw46_19 zw46_20 zw46_21 zw1_5 zw46_22) rfl ⟨rfl, rfl⟩ 1 hdX12_step ⟨Nat.le_of_ble_eq_true rfl, Nat.le_of_ble_eq_true rfl⟩ rfl rfl (wM_e0 am cm μ) rfl hl rfl (Nat.le_of_ble_eq_true rfl) dL_law_530 ⟨by show cells + 1 ≤ 600128; omega, by show slots + 6 ≤ 7301064; omega⟩ (fun H locs hI => ?_)
  have hI : zLw st D ad cy am cm ao co μ27 o25 σ25 s H locs := zI.swap hI
  refine lv_istore (lv' := [(6, .int v28), (5, .int v26), (4, .int x4), (3, .ref ao), (2, .ref (am 0)), (1, .ref (ad 0)), (0, .ref b)]) hx hb dL_law_533 hl (by decide) rfl (fun ls hl => ?_)
  refine lv_goto (tgt := 1418) hx hb dL_law_535 (by decide) ?_
  obtain ⟨v29, ev29⟩ : ∃ z : Int32, z = x4 + 8 := ⟨_, rfl⟩
  replace hf := zbv_use ev29 hf
  refine lv_iinc (v := v29) (lv' := [(4, .int v29), (6, .int v28), (5, .int v26), (3, .ref ao), (2, .ref (am 0)), (1, .ref (ad 0)), (0, .ref b)]) hx hb dL_law_1418 hl (k := 2) rfl (by rw [ev29]; rfl) (by decide) rfl (fun ls hl => ?_)
  refine lv_goto (tgt := 33) hx hb dL_law_1421 (by decide) ?_
  exact hk _ _ _ _ _ _ _ _ _ (by omega) (by omega) hI (lv_sub hl [0, 3, 4, 5, 6] rfl) hf
def fLaw_538 (xs : Nat → Int32) (L : Nat) (kn : zSt → (Nat → Int64) → zSt → Int32 → Option Int32) (μ : zSt) (o : Nat → Int64) (σ : zSt) (x4 : Int32) : Option Int32 :=
  zck (zin (x4 + 1) L) (zbh (fL_picture o σ (xs (x4 + 1).toNatClampNeg)) (fun o30 σ30 v31 =>
  zck (zin (x4 + 1) L) (zbi (fX12_picture μ (xs (x4 + 1).toNatClampNeg)) (fun μ32 v33 =>
  zbv (x4 + 8) (fun v34 => kn μ32 o30 σ30 v34)))))
set_option maxRecDepth 20000 in
set_option maxHeartbeats 4000000 in
theorem bLaw_538 {p : Program} {l : Launch} {e : Env} {s : State} {m : MethodId} {below : List Frame} {meth : Method} {c : Code} {st : Nat → Nat} {D : va_G} {b L : Nat} {xs : Nat → Int32} {ad am : Nat → Nat} {cy cm : Nat → ClassId} {ao : Nat} {co : ClassId} (hC : zC p m c cL_law 8 s #[Value.ref b] wzL_law RL meth ret) (hst : l.stackTraces = false) (hX : va_X b L xs s s.heap) (hbl : b < s.heap.size) (hbA : ¬ (fun q : Nat => s.heap.size ≤ q) b) {n : Nat} {kn : zSt → (Nat → Int64) → zSt → Int32 → Option Int32} (hk : ∀ (H : Heap) (locs : List Loc) (μ : zSt) (o : Nat → Int64) (σ : zSt) (ls : Array Slot) (x4 : Int32) (cells slots : Nat), cells + n ≤ 600128 → slots + 6 * n ≤ 7301064 → zLw st D ad cy am cm ao co μ o σ s H locs → lv_has ls 8 [(4, .int x4), (3, .ref ao), (2, .ref (am 0)), (1, .ref (ad 0)), (0, .ref b)] → kn μ o σ x4 = some 1 → W p l e room_1 s m #[Value.ref b] below meth c H locs cells slots (lw_Z below #[Value.ref b] s) (F0 m 33 ls [])) {H : Heap} {locs : List Loc} {μ : zSt} {o : Nat → Int64} {σ : zSt} {ls : Array Slot} {x4 : Int32} {cells slots : Nat} (hc : cells + (n + 1) ≤ 600128) (hs : slots + 6 * (n + 1) ≤ 7301064) (hI : zLw st D ad cy am cm ao co μ o σ s H locs) (hl : lv_has ls 8 [(4, .int x4), (3, .ref ao), (2, .ref (am 0)), (1, .ref (ad 0)), (0, .ref b)]) (hf : fLaw_538 xs L kn μ o σ x4 = some 1) : W p l e room_1 s m #[Value.ref b] below meth c H locs cells slots (lw_Z below #[Value.ref b] s) (F0 m 538 ls []) := by
  have hx := hC.1
  have hb := hC.2.1
  unfold fLaw_538 at hf
  refine lv_aload_n hx hb dL_law_538 rfl (lv_at hl 3 rfl) ?_
  refine lv_aload_n hx hb dL_law_539 rfl (lv_at hl 4 rfl) ?_
  refine lv_iload hx hb dL_law_540 (lv_at hl 0 rfl) ?_
  refine lv_iconst (v := 1) hx hb dL_law_542 (by decide) ?_
  refine lv_iadd hx hb dL_law_543 ?_
  obtain ⟨q, hf⟩ := zck_use hf
  refine va_sld hx hb hX hbl hbA hI.2.2.2.1 (zin_in q) dL_law_544 ?_
  refine lv_aload_n hx hb dL_law_545 rfl (lv_at hl 1 rfl) ?_
  obtain ⟨o30, σ30, v31, g30, hf⟩ := zbh_use hf
  refine z_fcallH (u := wM am cm μ) (w := fun x : zHs => zHo ao co x.1 ++ wC ad cy x.2) (x := (o, σ)) (As := [.ref (ad 0), .int (xs (x4 + 1).toNatClampNeg), .ref ao]) (rest := []) hC hI (zKH hI.1) (cL_picture_met st l hst D ad cy ao co o σ (xs (x4 + 1).toNatClampNeg) _ g30) (zgS zw65_18 zw65_19 zw1_10 zw65_20) rfl ⟨rfl, rfl⟩ 3 hdL_picture ⟨Nat.le_of_ble_eq_true rfl, Nat.le_of_ble_eq_true rfl⟩ rfl hl rfl (Nat.le_of_ble_eq_true rfl) dL_law_546 ⟨by show cells + 1 ≤ 600128; omega, by show slots + 6 ≤ 7301064; omega⟩ (fun H locs hI => ?_)
  have hI : zLw st D ad cy am cm ao co μ o30 σ30 s H locs := hI
  refine lv_istore (lv' := [(5, .int v31), (4, .int x4), (3, .ref ao), (2, .ref (am 0)), (1, .ref (ad 0)), (0, .ref b)]) hx hb dL_law_549 hl (by decide) rfl (fun ls hl => ?_)
  refine lv_aload_n hx hb dL_law_551 rfl (lv_at hl 3 rfl) ?_
  refine lv_aload_n hx hb dL_law_552 rfl (lv_at hl 5 rfl) ?_
  refine lv_iload hx hb dL_law_553 (lv_at hl 1 rfl) ?_
  refine lv_iconst (v := 1) hx hb dL_law_555 (by decide) ?_
  refine lv_iadd hx hb dL_law_556 ?_
  obtain ⟨q, hf⟩ := zck_use hf
  refine va_sld hx hb hX hbl hbA hI.2.2.2.1 (zin_in q) dL_law_557 ?_
  obtain ⟨μ32, v33, g32, hf⟩ := zbi_use hf
  refine z_fcallVi (u := zHo ao co o30 ++ wC ad cy σ30) (w := wM am cm) (As := [.int (xs (x4 + 1).toNatClampNeg)]) (rest := []) hC (zI.swap hI) (zKM hI.1) (cX12_picture_met st l D am cm μ (xs (x4 + 1).toNatClampNeg) _ g32) (zgV zw66_2 zw66_3 zw66_4 zw1_5 zw66_5) rfl ⟨rfl, rfl⟩ 1 hdX12_picture ⟨Nat.le_of_ble_eq_true rfl, Nat.le_of_ble_eq_true rfl⟩ rfl rfl (wM_e0 am cm μ) rfl hl rfl (Nat.le_of_ble_eq_true rfl) dL_law_558 ⟨by show cells + 1 ≤ 600128; omega, by show slots + 6 ≤ 7301064; omega⟩ (fun H locs hI => ?_)
  have hI : zLw st D ad cy am cm ao co μ32 o30 σ30 s H locs := zI.swap hI
  refine lv_istore (lv' := [(6, .int v33), (5, .int v31), (4, .int x4), (3, .ref ao), (2, .ref (am 0)), (1, .ref (ad 0)), (0, .ref b)]) hx hb dL_law_561 hl (by decide) rfl (fun ls hl => ?_)
  refine lv_goto (tgt := 1418) hx hb dL_law_563 (by decide) ?_
  obtain ⟨v34, ev34⟩ : ∃ z : Int32, z = x4 + 8 := ⟨_, rfl⟩
  replace hf := zbv_use ev34 hf
  refine lv_iinc (v := v34) (lv' := [(4, .int v34), (6, .int v33), (5, .int v31), (3, .ref ao), (2, .ref (am 0)), (1, .ref (ad 0)), (0, .ref b)]) hx hb dL_law_1418 hl (k := 2) rfl (by rw [ev34]; rfl) (by decide) rfl (fun ls hl => ?_)
  refine lv_goto (tgt := 33) hx hb dL_law_1421 (by decide) ?_
  exact hk _ _ _ _ _ _ _ _ _ (by omega) (by omega) hI (lv_sub hl [0, 3, 4, 5, 6] rfl) hf
def fLaw_566 (xs : Nat → Int32) (L : Nat) (kn : zSt → (Nat → Int64) → zSt → Int32 → Option Int32) (μ : zSt) (o : Nat → Int64) (σ : zSt) (x4 : Int32) : Option Int32 :=
  zbu (fX11_reset σ ) (fun σ35 =>
  zbu (fX12_reset μ ) (fun μ36 =>
  zbv (x4 + 8) (fun v37 => kn μ36 o σ35 v37)))
set_option maxRecDepth 20000 in
set_option maxHeartbeats 4000000 in
theorem bLaw_566 {p : Program} {l : Launch} {e : Env} {s : State} {m : MethodId} {below : List Frame} {meth : Method} {c : Code} {st : Nat → Nat} {D : va_G} {b L : Nat} {xs : Nat → Int32} {ad am : Nat → Nat} {cy cm : Nat → ClassId} {ao : Nat} {co : ClassId} (hC : zC p m c cL_law 8 s #[Value.ref b] wzL_law RL meth ret) (hst : l.stackTraces = false) (hX : va_X b L xs s s.heap) (hbl : b < s.heap.size) (hbA : ¬ (fun q : Nat => s.heap.size ≤ q) b) {n : Nat} {kn : zSt → (Nat → Int64) → zSt → Int32 → Option Int32} (hk : ∀ (H : Heap) (locs : List Loc) (μ : zSt) (o : Nat → Int64) (σ : zSt) (ls : Array Slot) (x4 : Int32) (cells slots : Nat), cells + n ≤ 600128 → slots + 6 * n ≤ 7301064 → zLw st D ad cy am cm ao co μ o σ s H locs → lv_has ls 8 [(4, .int x4), (3, .ref ao), (2, .ref (am 0)), (1, .ref (ad 0)), (0, .ref b)] → kn μ o σ x4 = some 1 → W p l e room_1 s m #[Value.ref b] below meth c H locs cells slots (lw_Z below #[Value.ref b] s) (F0 m 33 ls [])) {H : Heap} {locs : List Loc} {μ : zSt} {o : Nat → Int64} {σ : zSt} {ls : Array Slot} {x4 : Int32} {cells slots : Nat} (hc : cells + (n + 1) ≤ 600128) (hs : slots + 6 * (n + 1) ≤ 7301064) (hI : zLw st D ad cy am cm ao co μ o σ s H locs) (hl : lv_has ls 8 [(4, .int x4), (3, .ref ao), (2, .ref (am 0)), (1, .ref (ad 0)), (0, .ref b)]) (hf : fLaw_566 xs L kn μ o σ x4 = some 1) : W p l e room_1 s m #[Value.ref b] below meth c H locs cells slots (lw_Z below #[Value.ref b] s) (F0 m 566 ls []) := by
  have hx := hC.1
  have hb := hC.2.1
  unfold fLaw_566 at hf
  refine lv_aload_n hx hb dL_law_566 rfl (lv_at hl 3 rfl) ?_
  obtain ⟨σ35, g35, hf⟩ := zbu_use hf
  refine z_fcallVu (u := wM am cm μ ++ zHo ao co o) (w := wC ad cy) (As := []) (rest := []) hC (zI.al hI) (zKC hI.1) (cX11_reset_met st l D ad cy σ  _ g35) (zgV zw66_7 zw66_8 zw66_9 zw1_2 zw66_10) rfl ⟨rfl, rfl⟩ 0 hdX11_reset ⟨Nat.le_of_ble_eq_true rfl, Nat.le_of_ble_eq_true rfl⟩ rfl rfl (wC_e0 ad cy σ) rfl hl rfl (Nat.le_of_ble_eq_true rfl) dL_law_567 ⟨by show cells ≤ 600128; omega, by show slots ≤ 7301064; omega⟩ (fun H locs hI => ?_)
  have hI : zLw st D ad cy am cm ao co μ o σ35 s H locs := zI.ar hI
  refine lv_aload_n hx hb dL_law_570 rfl (lv_at hl 2 rfl) ?_
  obtain ⟨μ36, g36, hf⟩ := zbu_use hf
  refine z_fcallVu (u := zHo ao co o ++ wC ad cy σ35) (w := wM am cm) (As := []) (rest := []) hC (zI.swap hI) (zKM hI.1) (cX12_reset_met st l D am cm μ  _ g36) (zgV zw66_11 zw66_12 zw66_13 zw1_5 zw66_14) rfl ⟨rfl, rfl⟩ 0 hdX12_reset ⟨Nat.le_of_ble_eq_true rfl, Nat.le_of_ble_eq_true rfl⟩ rfl rfl (wM_e0 am cm μ) rfl hl rfl (Nat.le_of_ble_eq_true rfl) dL_law_571 ⟨by show cells ≤ 600128; omega, by show slots ≤ 7301064; omega⟩ (fun H locs hI => ?_)
  have hI : zLw st D ad cy am cm ao co μ36 o σ35 s H locs := zI.swap hI
  refine lv_goto (tgt := 1418) hx hb dL_law_574 (by decide) ?_
  obtain ⟨v37, ev37⟩ : ∃ z : Int32, z = x4 + 8 := ⟨_, rfl⟩
  replace hf := zbv_use ev37 hf
  refine lv_iinc (v := v37) (lv' := [(4, .int v37), (3, .ref ao), (2, .ref (am 0)), (1, .ref (ad 0)), (0, .ref b)]) hx hb dL_law_1418 hl (k := 0) rfl (by rw [ev37]; rfl) (by decide) rfl (fun ls hl => ?_)
  refine lv_goto (tgt := 33) hx hb dL_law_1421 (by decide) ?_
  exact hk _ _ _ _ _ _ _ _ _ (by omega) (by omega) hI (lv_sub hl [0, 1, 2, 3, 4] rfl) hf
def fLaw_577 (xs : Nat → Int32) (L : Nat) (kn : zSt → (Nat → Int64) → zSt → Int32 → Option Int32) (μ : zSt) (o : Nat → Int64) (σ : zSt) (x4 : Int32) : Option Int32 :=
  zbi (fX11_pause σ ) (fun σ38 v39 =>
  zbi (fX12_pause μ ) (fun μ40 v41 =>
  zbv (x4 + 8) (fun v42 => kn μ40 o σ38 v42)))
set_option maxRecDepth 20000 in
set_option maxHeartbeats 4000000 in
theorem bLaw_577 {p : Program} {l : Launch} {e : Env} {s : State} {m : MethodId} {below : List Frame} {meth : Method} {c : Code} {st : Nat → Nat} {D : va_G} {b L : Nat} {xs : Nat → Int32} {ad am : Nat → Nat} {cy cm : Nat → ClassId} {ao : Nat} {co : ClassId} (hC : zC p m c cL_law 8 s #[Value.ref b] wzL_law RL meth ret) (hst : l.stackTraces = false) (hX : va_X b L xs s s.heap) (hbl : b < s.heap.size) (hbA : ¬ (fun q : Nat => s.heap.size ≤ q) b) {n : Nat} {kn : zSt → (Nat → Int64) → zSt → Int32 → Option Int32} (hk : ∀ (H : Heap) (locs : List Loc) (μ : zSt) (o : Nat → Int64) (σ : zSt) (ls : Array Slot) (x4 : Int32) (cells slots : Nat), cells + n ≤ 600128 → slots + 6 * n ≤ 7301064 → zLw st D ad cy am cm ao co μ o σ s H locs → lv_has ls 8 [(4, .int x4), (3, .ref ao), (2, .ref (am 0)), (1, .ref (ad 0)), (0, .ref b)] → kn μ o σ x4 = some 1 → W p l e room_1 s m #[Value.ref b] below meth c H locs cells slots (lw_Z below #[Value.ref b] s) (F0 m 33 ls [])) {H : Heap} {locs : List Loc} {μ : zSt} {o : Nat → Int64} {σ : zSt} {ls : Array Slot} {x4 : Int32} {cells slots : Nat} (hc : cells + (n + 1) ≤ 600128) (hs : slots + 6 * (n + 1) ≤ 7301064) (hI : zLw st D ad cy am cm ao co μ o σ s H locs) (hl : lv_has ls 8 [(4, .int x4), (3, .ref ao), (2, .ref (am 0)), (1, .ref (ad 0)), (0, .ref b)]) (hf : fLaw_577 xs L kn μ o σ x4 = some 1) : W p l e room_1 s m #[Value.ref b] below meth c H locs cells slots (lw_Z below #[Value.ref b] s) (F0 m 577 ls []) := by
  have hx := hC.1
  have hb := hC.2.1
  unfold fLaw_577 at hf
  refine lv_aload_n hx hb dL_law_577 rfl (lv_at hl 3 rfl) ?_
  obtain ⟨σ38, v39, g38, hf⟩ := zbi_use hf
  refine z_fcallVi (u := wM am cm μ ++ zHo ao co o) (w := wC ad cy) (As := []) (rest := []) hC (zI.al hI) (zKC hI.1) (cX11_pause_met st l D ad cy σ  _ g38) (zgV zw66_15 zw66_16 zw66_17 zw1_2 zw66_18) rfl ⟨rfl, rfl⟩ 0 hdX11_pause ⟨Nat.le_of_ble_eq_true rfl, Nat.le_of_ble_eq_true rfl⟩ rfl rfl (wC_e0 ad cy σ) rfl hl rfl (Nat.le_of_ble_eq_true rfl) dL_law_578 ⟨by show cells ≤ 600128; omega, by show slots ≤ 7301064; omega⟩ (fun H locs hI => ?_)
  have hI : zLw st D ad cy am cm ao co μ o σ38 s H locs := zI.ar hI
  refine lv_pop hx hb dL_law_581 rfl ?_
  refine lv_aload_n hx hb dL_law_582 rfl (lv_at hl 2 rfl) ?_
  obtain ⟨μ40, v41, g40, hf⟩ := zbi_use hf
  refine z_fcallVi (u := zHo ao co o ++ wC ad cy σ38) (w := wM am cm) (As := []) (rest := []) hC (zI.swap hI) (zKM hI.1) (cX12_pause_met st l D am cm μ  _ g40) (zgV zw66_23 zw67_0 zw67_1 zw1_5 zw67_2) rfl ⟨rfl, rfl⟩ 0 hdX12_pause ⟨Nat.le_of_ble_eq_true rfl, Nat.le_of_ble_eq_true rfl⟩ rfl rfl (wM_e0 am cm μ) rfl hl rfl (Nat.le_of_ble_eq_true rfl) dL_law_583 ⟨by show cells ≤ 600128; omega, by show slots ≤ 7301064; omega⟩ (fun H locs hI => ?_)
  have hI : zLw st D ad cy am cm ao co μ40 o σ38 s H locs := zI.swap hI
  refine lv_pop hx hb dL_law_586 rfl ?_
  refine lv_goto (tgt := 1418) hx hb dL_law_587 (by decide) ?_
  obtain ⟨v42, ev42⟩ : ∃ z : Int32, z = x4 + 8 := ⟨_, rfl⟩
  replace hf := zbv_use ev42 hf
  refine lv_iinc (v := v42) (lv' := [(4, .int v42), (3, .ref ao), (2, .ref (am 0)), (1, .ref (ad 0)), (0, .ref b)]) hx hb dL_law_1418 hl (k := 0) rfl (by rw [ev42]; rfl) (by decide) rfl (fun ls hl => ?_)
  refine lv_goto (tgt := 33) hx hb dL_law_1421 (by decide) ?_
  exact hk _ _ _ _ _ _ _ _ _ (by omega) (by omega) hI (lv_sub hl [0, 1, 2, 3, 4] rfl) hf
def fLaw_590 (xs : Nat → Int32) (L : Nat) (kn : zSt → (Nat → Int64) → zSt → Int32 → Option Int32) (μ : zSt) (o : Nat → Int64) (σ : zSt) (x4 : Int32) : Option Int32 :=
  zck (zin (x4 + 1) L) (zck (zin (x4 + 2) L) (zbi (fL_press σ (xs (x4 + 1).toNatClampNeg) (xs (x4 + 2).toNatClampNeg)) (fun σ43 v44 =>
  zck (zin (x4 + 1) L) (zck (zin (x4 + 2) L) (zbu (fX12_press μ (xs (x4 + 1).toNatClampNeg) (xs (x4 + 2).toNatClampNeg)) (fun μ45 =>
  zbv (x4 + 8) (fun v46 => kn μ45 o σ43 v46)))))))
set_option maxRecDepth 20000 in
set_option maxHeartbeats 4000000 in
theorem bLaw_590 {p : Program} {l : Launch} {e : Env} {s : State} {m : MethodId} {below : List Frame} {meth : Method} {c : Code} {st : Nat → Nat} {D : va_G} {b L : Nat} {xs : Nat → Int32} {ad am : Nat → Nat} {cy cm : Nat → ClassId} {ao : Nat} {co : ClassId} (hC : zC p m c cL_law 8 s #[Value.ref b] wzL_law RL meth ret) (hst : l.stackTraces = false) (hX : va_X b L xs s s.heap) (hbl : b < s.heap.size) (hbA : ¬ (fun q : Nat => s.heap.size ≤ q) b) {n : Nat} {kn : zSt → (Nat → Int64) → zSt → Int32 → Option Int32} (hk : ∀ (H : Heap) (locs : List Loc) (μ : zSt) (o : Nat → Int64) (σ : zSt) (ls : Array Slot) (x4 : Int32) (cells slots : Nat), cells + n ≤ 600128 → slots + 6 * n ≤ 7301064 → zLw st D ad cy am cm ao co μ o σ s H locs → lv_has ls 8 [(4, .int x4), (3, .ref ao), (2, .ref (am 0)), (1, .ref (ad 0)), (0, .ref b)] → kn μ o σ x4 = some 1 → W p l e room_1 s m #[Value.ref b] below meth c H locs cells slots (lw_Z below #[Value.ref b] s) (F0 m 33 ls [])) {H : Heap} {locs : List Loc} {μ : zSt} {o : Nat → Int64} {σ : zSt} {ls : Array Slot} {x4 : Int32} {cells slots : Nat} (hc : cells + (n + 1) ≤ 600128) (hs : slots + 6 * (n + 1) ≤ 7301064) (hI : zLw st D ad cy am cm ao co μ o σ s H locs) (hl : lv_has ls 8 [(4, .int x4), (3, .ref ao), (2, .ref (am 0)), (1, .ref (ad 0)), (0, .ref b)]) (hf : fLaw_590 xs L kn μ o σ x4 = some 1) : W p l e room_1 s m #[Value.ref b] below meth c H locs cells slots (lw_Z below #[Value.ref b] s) (F0 m 590 ls []) := by
  have hx := hC.1
  have hb := hC.2.1
  unfold fLaw_590 at hf
  refine lv_aload_n hx hb dL_law_590 rfl (lv_at hl 3 rfl) ?_
  refine lv_aload_n hx hb dL_law_591 rfl (lv_at hl 4 rfl) ?_
  refine lv_iload hx hb dL_law_592 (lv_at hl 0 rfl) ?_
  refine lv_iconst (v := 1) hx hb dL_law_594 (by decide) ?_
  refine lv_iadd hx hb dL_law_595 ?_
  obtain ⟨q, hf⟩ := zck_use hf
  refine va_sld hx hb hX hbl hbA hI.2.2.2.1 (zin_in q) dL_law_596 ?_
  refine lv_aload_n hx hb dL_law_597 rfl (lv_at hl 4 rfl) ?_
  refine lv_iload hx hb dL_law_598 (lv_at hl 0 rfl) ?_
  refine lv_iconst (v := 2) hx hb dL_law_600 (by decide) ?_
  refine lv_iadd hx hb dL_law_601 ?_
  obtain ⟨q, hf⟩ := zck_use hf
  refine va_sld hx hb hX hbl hbA hI.2.2.2.1 (zin_in q) dL_law_602 ?_
  obtain ⟨σ43, v44, g43, hf⟩ := zbi_use hf
  refine z_fcallH (u := wM am cm μ ++ zHo ao co o) (w := wC ad cy) (x := σ) (As := [.ref (ad 0), .int (xs (x4 + 1).toNatClampNeg), .int (xs (x4 + 2).toNatClampNeg)]) (rest := []) hC (zI.al hI) (zKC hI.1) (cL_press_met st l hst D ad cy σ (xs (x4 + 1).toNatClampNeg) (xs (x4 + 2).toNatClampNeg) _ g43) (zgS zw67_3 zw67_4 zw1_10 zw67_5) rfl ⟨rfl, rfl⟩ 3 hdL_press ⟨Nat.le_of_ble_eq_true rfl, Nat.le_of_ble_eq_true rfl⟩ rfl hl rfl (Nat.le_of_ble_eq_true rfl) dL_law_603 ⟨by show cells + 1 ≤ 600128; omega, by show slots + 6 ≤ 7301064; omega⟩ (fun H locs hI => ?_)
  have hI : zLw st D ad cy am cm ao co μ o σ43 s H locs := zI.ar hI
  refine lv_istore (lv' := [(5, .int v44), (4, .int x4), (3, .ref ao), (2, .ref (am 0)), (1, .ref (ad 0)), (0, .ref b)]) hx hb dL_law_606 hl (by decide) rfl (fun ls hl => ?_)
  refine lv_aload_n hx hb dL_law_608 rfl (lv_at hl 3 rfl) ?_
  refine lv_aload_n hx hb dL_law_609 rfl (lv_at hl 5 rfl) ?_
  refine lv_iload hx hb dL_law_610 (lv_at hl 1 rfl) ?_
  refine lv_iconst (v := 1) hx hb dL_law_612 (by decide) ?_
  refine lv_iadd hx hb dL_law_613 ?_
  obtain ⟨q, hf⟩ := zck_use hf
  refine va_sld hx hb hX hbl hbA hI.2.2.2.1 (zin_in q) dL_law_614 ?_
  refine lv_aload_n hx hb dL_law_615 rfl (lv_at hl 5 rfl) ?_
  refine lv_iload hx hb dL_law_616 (lv_at hl 1 rfl) ?_
  refine lv_iconst (v := 2) hx hb dL_law_618 (by decide) ?_
  refine lv_iadd hx hb dL_law_619 ?_
  obtain ⟨q, hf⟩ := zck_use hf
  refine va_sld hx hb hX hbl hbA hI.2.2.2.1 (zin_in q) dL_law_620 ?_
  obtain ⟨μ45, g45, hf⟩ := zbu_use hf
  refine z_fcallVu (u := zHo ao co o ++ wC ad cy σ43) (w := wM am cm) (As := [.int (xs (x4 + 1).toNatClampNeg), .int (xs (x4 + 2).toNatClampNeg)]) (rest := []) hC (zI.swap hI) (zKM hI.1) (cX12_press_met st l D am cm μ (xs (x4 + 1).toNatClampNeg) (xs (x4 + 2).toNatClampNeg) _ g45) (zgV zw67_14 zw67_15 zw67_16 zw1_5 zw67_17) rfl ⟨rfl, rfl⟩ 2 hdX12_press ⟨Nat.le_of_ble_eq_true rfl, Nat.le_of_ble_eq_true rfl⟩ rfl rfl (wM_e0 am cm μ) rfl hl rfl (Nat.le_of_ble_eq_true rfl) dL_law_621 ⟨by show cells + 1 ≤ 600128; omega, by show slots + 6 ≤ 7301064; omega⟩ (fun H locs hI => ?_)
  have hI : zLw st D ad cy am cm ao co μ45 o σ43 s H locs := zI.swap hI
  refine lv_goto (tgt := 1418) hx hb dL_law_624 (by decide) ?_
  obtain ⟨v46, ev46⟩ : ∃ z : Int32, z = x4 + 8 := ⟨_, rfl⟩
  replace hf := zbv_use ev46 hf
  refine lv_iinc (v := v46) (lv' := [(4, .int v46), (5, .int v44), (3, .ref ao), (2, .ref (am 0)), (1, .ref (ad 0)), (0, .ref b)]) hx hb dL_law_1418 hl (k := 1) rfl (by rw [ev46]; rfl) (by decide) rfl (fun ls hl => ?_)
  refine lv_goto (tgt := 33) hx hb dL_law_1421 (by decide) ?_
  exact hk _ _ _ _ _ _ _ _ _ (by omega) (by omega) hI (lv_sub hl [0, 2, 3, 4, 5] rfl) hf
