def fLaw_body (xs : Nat → Int32) (L : Nat) (kn : zSt → (Nat → Int64) → zSt → Int32 → Option Int32) (μ : zSt) (o : Nat → Int64) (σ : zSt) (x4 : Int32) : Option Int32 :=
  if Int32.ofNat L - 8 < x4 then some 1 else zck (zin x4 L) (zbv (xs x4.toNatClampNeg &&& 63) (fun t =>
    if t = 0 then fLaw_208 xs L kn μ o σ x4 else
    if t = 1 then fLaw_372 xs L kn μ o σ x4 else
    if t = 2 then fLaw_400 xs L kn μ o σ x4 else
    if t = 3 then fLaw_469 xs L kn μ o σ x4 else
    if t = 4 then fLaw_482 xs L kn μ o σ x4 else
    if t = 5 then fLaw_510 xs L kn μ o σ x4 else
    if t = 6 then fLaw_538 xs L kn μ o σ x4 else
    if t = 7 then fLaw_566 xs L kn μ o σ x4 else
    if t = 8 then fLaw_577 xs L kn μ o σ x4 else
    if t = 9 then fLaw_590 xs L kn μ o σ x4 else
    if t = 10 then fLaw_627 xs L kn μ o σ x4 else
    if t = 11 then fLaw_666 xs L kn μ o σ x4 else
    if t = 12 then fLaw_719 xs L kn μ o σ x4 else
    if t = 13 then fLaw_799 xs L kn μ o σ x4 else
    if t = 14 then fLaw_824 xs L kn μ o σ x4 else
    if t = 15 then fLaw_852 xs L kn μ o σ x4 else
    if t = 16 then fLaw_908 xs L kn μ o σ x4 else
    if t = 17 then fLaw_919 xs L kn μ o σ x4 else
    if t = 18 then fLaw_932 xs L kn μ o σ x4 else
    if t = 19 then fLaw_960 xs L kn μ o σ x4 else
    if t = 20 then fLaw_997 xs L kn μ o σ x4 else
    if t = 21 then fLaw_1022 xs L kn μ o σ x4 else
    if t = 22 then fLaw_1057 xs L kn μ o σ x4 else
    if t = 23 then fLaw_1082 xs L kn μ o σ x4 else
    if t = 24 then fLaw_1117 xs L kn μ o σ x4 else
    if t = 25 then fLaw_1145 xs L kn μ o σ x4 else
    if t = 26 then fLaw_1156 xs L kn μ o σ x4 else
    if t = 27 then fLaw_1181 xs L kn μ o σ x4 else
    if t = 28 then fLaw_1209 xs L kn μ o σ x4 else
    if t = 29 then fLaw_1249 xs L kn μ o σ x4 else
    if t = 30 then fLaw_1277 xs L kn μ o σ x4 else
    if t = 31 then fLaw_1293 xs L kn μ o σ x4 else
    if t = 32 then fLaw_1309 xs L kn μ o σ x4 else
    if t = 33 then fLaw_1337 xs L kn μ o σ x4 else
    if t = 34 then fLaw_1365 xs L kn μ o σ x4 else
    if t = 35 then fLaw_1390 xs L kn μ o σ x4 else
    fLaw_1418 xs L kn μ o σ x4))
def fLaw (xs : Nat → Int32) (L : Nat) : Nat → zSt → (Nat → Int64) → zSt → Int32 → Option Int32
  | 0, _, _, _, _ => none
  | n + 1, μ, o, σ, x4 => fLaw_body xs L (fLaw xs L n) μ o σ x4
set_option maxRecDepth 20000 in
set_option maxHeartbeats 4000000 in
theorem bLaw_body {p : Program} {l : Launch} {e : Env} {s : State} {m : MethodId} {below : List Frame} {meth : Method} {c : Code} {st : Nat → Nat} {D : va_G} {b L : Nat} {xs : Nat → Int32} {ad am : Nat → Nat} {cy cm : Nat → ClassId} {ao : Nat} {co : ClassId} (hC : zC p m c cL_law 8 s #[Value.ref b] wzL_law RL meth ret) (hst : l.stackTraces = false) (hX : va_X b L xs s s.heap) (hbl : b < s.heap.size) (hbA : ¬ (fun q : Nat => s.heap.size ≤ q) b) {n : Nat} {kn : zSt → (Nat → Int64) → zSt → Int32 → Option Int32} (hk : ∀ (H : Heap) (locs : List Loc) (μ : zSt) (o : Nat → Int64) (σ : zSt) (ls : Array Slot) (x4 : Int32) (cells slots : Nat), cells + n ≤ 600128 → slots + 6 * n ≤ 7301064 → zLw st D ad cy am cm ao co μ o σ s H locs → lv_has ls 8 [(4, .int x4), (3, .ref ao), (2, .ref (am 0)), (1, .ref (ad 0)), (0, .ref b)] → kn μ o σ x4 = some 1 → W p l e room_1 s m #[Value.ref b] below meth c H locs cells slots (lw_Z below #[Value.ref b] s) (F0 m 33 ls [])) {H : Heap} {locs : List Loc} {μ : zSt} {o : Nat → Int64} {σ : zSt} {ls : Array Slot} {x4 : Int32} {cells slots : Nat} (hc : cells + (n + 1) ≤ 600128) (hs : slots + 6 * (n + 1) ≤ 7301064) (hI : zLw st D ad cy am cm ao co μ o σ s H locs) (hl : lv_has ls 8 [(4, .int x4), (3, .ref ao), (2, .ref (am 0)), (1, .ref (ad 0)), (0, .ref b)]) (hf : fLaw_body xs L kn μ o σ x4 = some 1) : W p l e room_1 s m #[Value.ref b] below meth c H locs cells slots (lw_Z below #[Value.ref b] s) (F0 m 33 ls []) := by
  have hx := hC.1
  have hb := hC.2.1
  unfold fLaw_body at hf
  refine lv_iload hx hb dL_law_33 (lv_at hl 0 rfl) ?_
  refine lv_aload_n hx hb dL_law_35 rfl (lv_at hl 4 rfl) ?_
  refine va_slen hx hb hX hbl hbA hI.2.2.2.1 dL_law_36 ?_
  refine lv_bipush (v := 8) hx hb dL_law_37 (by decide) ?_
  refine lv_isub hx hb dL_law_39 ?_
  refine lv_icmp_gt (tgt := 1424) hx hb dL_law_40 (by decide) (fun q => ?_) (fun q => ?_)
  · refine lv_iconst (v := 1) hx hb dL_law_1424 (by decide) ?_
    refine va_forget (fun q hq => hI.2.2.2.1.2.2 q hq) ?_
    refine W.widen (k := 600128) (n := 7301064) (by omega) (by omega) ?_
    exact lw_ret hx hb hC.2.2.2.2.2.1 hC.2.2.2.2.2.2 dL_law_1425
  replace hf := zif_f q hf
  obtain ⟨q1, hf⟩ := zck_use hf
  refine lv_aload_n hx hb dL_law_43 rfl (lv_at hl 4 rfl) ?_
  refine lv_iload hx hb dL_law_44 (lv_at hl 0 rfl) ?_
  refine va_sld hx hb hX hbl hbA hI.2.2.2.1 (zin_in q1) dL_law_46 ?_
  refine lv_bipush (v := 63) hx hb dL_law_47 (by decide) ?_
  refine lv_iand hx hb dL_law_49 ?_
  refine lv_topi (fun t et => ?_)
  replace hf := zbv_use et hf
  by_cases c0 : t = 0
  · replace hf := zif_t c0 hf
    refine lv_tableIn (tgt := 208) hx hb dL_law_50 (by rw [c0]; decide) (by rw [c0]; decide) (by rw [c0]; rfl) (by decide) ?_
    exact bLaw_208 hC hst hX hbl hbA hk hc hs hI hl hf
  replace hf := zif_f c0 hf
  by_cases c1 : t = 1
  · replace hf := zif_t c1 hf
    refine lv_tableIn (tgt := 372) hx hb dL_law_50 (by rw [c1]; decide) (by rw [c1]; decide) (by rw [c1]; rfl) (by decide) ?_
    exact bLaw_372 hC hst hX hbl hbA hk hc hs hI hl hf
  replace hf := zif_f c1 hf
  by_cases c2 : t = 2
  · replace hf := zif_t c2 hf
    refine lv_tableIn (tgt := 400) hx hb dL_law_50 (by rw [c2]; decide) (by rw [c2]; decide) (by rw [c2]; rfl) (by decide) ?_
    exact bLaw_400 hC hst hX hbl hbA hk hc hs hI hl hf
  replace hf := zif_f c2 hf
  by_cases c3 : t = 3
  · replace hf := zif_t c3 hf
    refine lv_tableIn (tgt := 469) hx hb dL_law_50 (by rw [c3]; decide) (by rw [c3]; decide) (by rw [c3]; rfl) (by decide) ?_
    exact bLaw_469 hC hst hX hbl hbA hk hc hs hI hl hf
  replace hf := zif_f c3 hf
  by_cases c4 : t = 4
  · replace hf := zif_t c4 hf
    refine lv_tableIn (tgt := 482) hx hb dL_law_50 (by rw [c4]; decide) (by rw [c4]; decide) (by rw [c4]; rfl) (by decide) ?_
    exact bLaw_482 hC hst hX hbl hbA hk hc hs hI hl hf
  replace hf := zif_f c4 hf
  by_cases c5 : t = 5
  · replace hf := zif_t c5 hf
    refine lv_tableIn (tgt := 510) hx hb dL_law_50 (by rw [c5]; decide) (by rw [c5]; decide) (by rw [c5]; rfl) (by decide) ?_
    exact bLaw_510 hC hst hX hbl hbA hk hc hs hI hl hf
  replace hf := zif_f c5 hf
  by_cases c6 : t = 6
  · replace hf := zif_t c6 hf
    refine lv_tableIn (tgt := 538) hx hb dL_law_50 (by rw [c6]; decide) (by rw [c6]; decide) (by rw [c6]; rfl) (by decide) ?_
    exact bLaw_538 hC hst hX hbl hbA hk hc hs hI hl hf
  replace hf := zif_f c6 hf
  by_cases c7 : t = 7
  · replace hf := zif_t c7 hf
    refine lv_tableIn (tgt := 566) hx hb dL_law_50 (by rw [c7]; decide) (by rw [c7]; decide) (by rw [c7]; rfl) (by decide) ?_
    exact bLaw_566 hC hst hX hbl hbA hk hc hs hI hl hf
  replace hf := zif_f c7 hf
  by_cases c8 : t = 8
  · replace hf := zif_t c8 hf
    refine lv_tableIn (tgt := 577) hx hb dL_law_50 (by rw [c8]; decide) (by rw [c8]; decide) (by rw [c8]; rfl) (by decide) ?_
    exact bLaw_577 hC hst hX hbl hbA hk hc hs hI hl hf
  replace hf := zif_f c8 hf
  by_cases c9 : t = 9
  · replace hf := zif_t c9 hf
    refine lv_tableIn (tgt := 590) hx hb dL_law_50 (by rw [c9]; decide) (by rw [c9]; decide) (by rw [c9]; rfl) (by decide) ?_
    exact bLaw_590 hC hst hX hbl hbA hk hc hs hI hl hf
  replace hf := zif_f c9 hf
  by_cases c10 : t = 10
  · replace hf := zif_t c10 hf
    refine lv_tableIn (tgt := 627) hx hb dL_law_50 (by rw [c10]; decide) (by rw [c10]; decide) (by rw [c10]; rfl) (by decide) ?_
    exact bLaw_627 hC hst hX hbl hbA hk hc hs hI hl hf
  replace hf := zif_f c10 hf
  by_cases c11 : t = 11
  · replace hf := zif_t c11 hf
    refine lv_tableIn (tgt := 666) hx hb dL_law_50 (by rw [c11]; decide) (by rw [c11]; decide) (by rw [c11]; rfl) (by decide) ?_
    exact bLaw_666 hC hst hX hbl hbA hk hc hs hI hl hf
  replace hf := zif_f c11 hf
  by_cases c12 : t = 12
  · replace hf := zif_t c12 hf
    refine lv_tableIn (tgt := 719) hx hb dL_law_50 (by rw [c12]; decide) (by rw [c12]; decide) (by rw [c12]; rfl) (by decide) ?_
    exact bLaw_719 hC hst hX hbl hbA hk hc hs hI hl hf
  replace hf := zif_f c12 hf
  by_cases c13 : t = 13
  · replace hf := zif_t c13 hf
    refine lv_tableIn (tgt := 799) hx hb dL_law_50 (by rw [c13]; decide) (by rw [c13]; decide) (by rw [c13]; rfl) (by decide) ?_
    exact bLaw_799 hC hst hX hbl hbA hk hc hs hI hl hf
  replace hf := zif_f c13 hf
  by_cases c14 : t = 14
  · replace hf := zif_t c14 hf
    refine lv_tableIn (tgt := 824) hx hb dL_law_50 (by rw [c14]; decide) (by rw [c14]; decide) (by rw [c14]; rfl) (by decide) ?_
    exact bLaw_824 hC hst hX hbl hbA hk hc hs hI hl hf
  replace hf := zif_f c14 hf
  by_cases c15 : t = 15
  · replace hf := zif_t c15 hf
    refine lv_tableIn (tgt := 852) hx hb dL_law_50 (by rw [c15]; decide) (by rw [c15]; decide) (by rw [c15]; rfl) (by decide) ?_
    exact bLaw_852 hC hst hX hbl hbA hk hc hs hI hl hf
  replace hf := zif_f c15 hf
  by_cases c16 : t = 16
  · replace hf := zif_t c16 hf
    refine lv_tableIn (tgt := 908) hx hb dL_law_50 (by rw [c16]; decide) (by rw [c16]; decide) (by rw [c16]; rfl) (by decide) ?_
    exact bLaw_908 hC hst hX hbl hbA hk hc hs hI hl hf
  replace hf := zif_f c16 hf
  by_cases c17 : t = 17
  · replace hf := zif_t c17 hf
    refine lv_tableIn (tgt := 919) hx hb dL_law_50 (by rw [c17]; decide) (by rw [c17]; decide) (by rw [c17]; rfl) (by decide) ?_
    exact bLaw_919 hC hst hX hbl hbA hk hc hs hI hl hf
  replace hf := zif_f c17 hf
  by_cases c18 : t = 18
  · replace hf := zif_t c18 hf
    refine lv_tableIn (tgt := 932) hx hb dL_law_50 (by rw [c18]; decide) (by rw [c18]; decide) (by rw [c18]; rfl) (by decide) ?_
    exact bLaw_932 hC hst hX hbl hbA hk hc hs hI hl hf
  replace hf := zif_f c18 hf
  by_cases c19 : t = 19
  · replace hf := zif_t c19 hf
    refine lv_tableIn (tgt := 960) hx hb dL_law_50 (by rw [c19]; decide) (by rw [c19]; decide) (by rw [c19]; rfl) (by decide) ?_
    exact bLaw_960 hC hst hX hbl hbA hk hc hs hI hl hf
  replace hf := zif_f c19 hf
  by_cases c20 : t = 20
  · replace hf := zif_t c20 hf
    refine lv_tableIn (tgt := 997) hx hb dL_law_50 (by rw [c20]; decide) (by rw [c20]; decide) (by rw [c20]; rfl) (by decide) ?_
    exact bLaw_997 hC hst hX hbl hbA hk hc hs hI hl hf
  replace hf := zif_f c20 hf
  by_cases c21 : t = 21
  · replace hf := zif_t c21 hf
    refine lv_tableIn (tgt := 1022) hx hb dL_law_50 (by rw [c21]; decide) (by rw [c21]; decide) (by rw [c21]; rfl) (by decide) ?_
    exact bLaw_1022 hC hst hX hbl hbA hk hc hs hI hl hf
  replace hf := zif_f c21 hf
  by_cases c22 : t = 22
  · replace hf := zif_t c22 hf
    refine lv_tableIn (tgt := 1057) hx hb dL_law_50 (by rw [c22]; decide) (by rw [c22]; decide) (by rw [c22]; rfl) (by decide) ?_
    exact bLaw_1057 hC hst hX hbl hbA hk hc hs hI hl hf
  replace hf := zif_f c22 hf
  by_cases c23 : t = 23
  · replace hf := zif_t c23 hf
    refine lv_tableIn (tgt := 1082) hx hb dL_law_50 (by rw [c23]; decide) (by rw [c23]; decide) (by rw [c23]; rfl) (by decide) ?_
    exact bLaw_1082 hC hst hX hbl hbA hk hc hs hI hl hf
  replace hf := zif_f c23 hf
  by_cases c24 : t = 24
  · replace hf := zif_t c24 hf
    refine lv_tableIn (tgt := 1117) hx hb dL_law_50 (by rw [c24]; decide) (by rw [c24]; decide) (by rw [c24]; rfl) (by decide) ?_
    exact bLaw_1117 hC hst hX hbl hbA hk hc hs hI hl hf
  replace hf := zif_f c24 hf
  by_cases c25 : t = 25
  · replace hf := zif_t c25 hf
    refine lv_tableIn (tgt := 1145) hx hb dL_law_50 (by rw [c25]; decide) (by rw [c25]; decide) (by rw [c25]; rfl) (by decide) ?_
    exact bLaw_1145 hC hst hX hbl hbA hk hc hs hI hl hf
  replace hf := zif_f c25 hf
  by_cases c26 : t = 26
  · replace hf := zif_t c26 hf
    refine lv_tableIn (tgt := 1156) hx hb dL_law_50 (by rw [c26]; decide) (by rw [c26]; decide) (by rw [c26]; rfl) (by decide) ?_
    exact bLaw_1156 hC hst hX hbl hbA hk hc hs hI hl hf
  replace hf := zif_f c26 hf
  by_cases c27 : t = 27
  · replace hf := zif_t c27 hf
    refine lv_tableIn (tgt := 1181) hx hb dL_law_50 (by rw [c27]; decide) (by rw [c27]; decide) (by rw [c27]; rfl) (by decide) ?_
    exact bLaw_1181 hC hst hX hbl hbA hk hc hs hI hl hf
  replace hf := zif_f c27 hf
  by_cases c28 : t = 28
  · replace hf := zif_t c28 hf
    refine lv_tableIn (tgt := 1209) hx hb dL_law_50 (by rw [c28]; decide) (by rw [c28]; decide) (by rw [c28]; rfl) (by decide) ?_
    exact bLaw_1209 hC hst hX hbl hbA hk hc hs hI hl hf
  replace hf := zif_f c28 hf
  by_cases c29 : t = 29
  · replace hf := zif_t c29 hf
    refine lv_tableIn (tgt := 1249) hx hb dL_law_50 (by rw [c29]; decide) (by rw [c29]; decide) (by rw [c29]; rfl) (by decide) ?_
    exact bLaw_1249 hC hst hX hbl hbA hk hc hs hI hl hf
  replace hf := zif_f c29 hf
  by_cases c30 : t = 30
  · replace hf := zif_t c30 hf
    refine lv_tableIn (tgt := 1277) hx hb dL_law_50 (by rw [c30]; decide) (by rw [c30]; decide) (by rw [c30]; rfl) (by decide) ?_
    exact bLaw_1277 hC hst hX hbl hbA hk hc hs hI hl hf
  replace hf := zif_f c30 hf
  by_cases c31 : t = 31
  · replace hf := zif_t c31 hf
    refine lv_tableIn (tgt := 1293) hx hb dL_law_50 (by rw [c31]; decide) (by rw [c31]; decide) (by rw [c31]; rfl) (by decide) ?_
    exact bLaw_1293 hC hst hX hbl hbA hk hc hs hI hl hf
  replace hf := zif_f c31 hf
  by_cases c32 : t = 32
  · replace hf := zif_t c32 hf
    refine lv_tableIn (tgt := 1309) hx hb dL_law_50 (by rw [c32]; decide) (by rw [c32]; decide) (by rw [c32]; rfl) (by decide) ?_
    exact bLaw_1309 hC hst hX hbl hbA hk hc hs hI hl hf
  replace hf := zif_f c32 hf
  by_cases c33 : t = 33
  · replace hf := zif_t c33 hf
    refine lv_tableIn (tgt := 1337) hx hb dL_law_50 (by rw [c33]; decide) (by rw [c33]; decide) (by rw [c33]; rfl) (by decide) ?_
    exact bLaw_1337 hC hst hX hbl hbA hk hc hs hI hl hf
  replace hf := zif_f c33 hf
  by_cases c34 : t = 34
  · replace hf := zif_t c34 hf
    refine lv_tableIn (tgt := 1365) hx hb dL_law_50 (by rw [c34]; decide) (by rw [c34]; decide) (by rw [c34]; rfl) (by decide) ?_
    exact bLaw_1365 hC hst hX hbl hbA hk hc hs hI hl hf
  replace hf := zif_f c34 hf
  by_cases c35 : t = 35
  · replace hf := zif_t c35 hf
    refine lv_tableIn (tgt := 1390) hx hb dL_law_50 (by rw [c35]; decide) (by rw [c35]; decide) (by rw [c35]; rfl) (by decide) ?_
    exact bLaw_1390 hC hst hX hbl hbA hk hc hs hI hl hf
  replace hf := zif_f c35 hf
  refine lv_tableOut (tgt := 1418) hx hb dL_law_50 (zsw (fun k h1 h2 => by rcases (show k = 0 ∨ k = 1 ∨ k = 2 ∨ k = 3 ∨ k = 4 ∨ k = 5 ∨ k = 6 ∨ k = 7 ∨ k = 8 ∨ k = 9 ∨ k = 10 ∨ k = 11 ∨ k = 12 ∨ k = 13 ∨ k = 14 ∨ k = 15 ∨ k = 16 ∨ k = 17 ∨ k = 18 ∨ k = 19 ∨ k = 20 ∨ k = 21 ∨ k = 22 ∨ k = 23 ∨ k = 24 ∨ k = 25 ∨ k = 26 ∨ k = 27 ∨ k = 28 ∨ k = 29 ∨ k = 30 ∨ k = 31 ∨ k = 32 ∨ k = 33 ∨ k = 34 ∨ k = 35 by omega) with rfl | rfl | rfl | rfl | rfl | rfl | rfl | rfl | rfl | rfl | rfl | rfl | rfl | rfl | rfl | rfl | rfl | rfl | rfl | rfl | rfl | rfl | rfl | rfl | rfl | rfl | rfl | rfl | rfl | rfl | rfl | rfl | rfl | rfl | rfl | rfl <;> assumption)) (by decide) ?_
  exact bLaw_1418 hC hst hX hbl hbA hk hc hs hI hl hf
theorem bLaw_loop {p : Program} {l : Launch} {e : Env} {s : State} {m : MethodId} {below : List Frame} {meth : Method} {c : Code} {st : Nat → Nat} {D : va_G} {b L : Nat} {xs : Nat → Int32} {ad am : Nat → Nat} {cy cm : Nat → ClassId} {ao : Nat} {co : ClassId} (hC : zC p m c cL_law 8 s #[Value.ref b] wzL_law RL meth ret) (hst : l.stackTraces = false) (hX : va_X b L xs s s.heap) (hbl : b < s.heap.size) (hbA : ¬ (fun q : Nat => s.heap.size ≤ q) b) : ∀ (n : Nat) (H : Heap) (locs : List Loc) (μ : zSt) (o : Nat → Int64) (σ : zSt) (ls : Array Slot) (x4 : Int32) (cells slots : Nat), cells + n ≤ 600128 → slots + 6 * n ≤ 7301064 → zLw st D ad cy am cm ao co μ o σ s H locs → lv_has ls 8 [(4, .int x4), (3, .ref ao), (2, .ref (am 0)), (1, .ref (ad 0)), (0, .ref b)] → fLaw xs L n μ o σ x4 = some 1 → W p l e room_1 s m #[Value.ref b] below meth c H locs cells slots (lw_Z below #[Value.ref b] s) (F0 m 33 ls []) := by
  intro n
  induction n with
  | zero => intro H locs μ o σ ls x4 cells slots hc hs hI hl hf; cases hf
  | succ n ih => intro H locs μ o σ ls x4 cells slots hc hs hI hl hf; exact bLaw_body hC hst hX hbl hbA ih hc hs hI hl hf
