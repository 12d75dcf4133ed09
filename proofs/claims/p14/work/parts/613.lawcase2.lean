def fLaw_919 (xs : Nat → Int32) (L : Nat) (kn : zSt → (Nat → Int64) → zSt → Int32 → Option Int32) (μ : zSt) (o : Nat → Int64) (σ : zSt) (x4 : Int32) : Option Int32 :=
  zbi (fL_restore σ ) (fun σ106 v107 =>
  zbu (fX12_restore μ ) (fun μ108 =>
  zbv (x4 + 8) (fun v109 => kn μ108 o σ106 v109)))
set_option maxRecDepth 20000 in
set_option maxHeartbeats 4000000 in
theorem bLaw_919 {p : Program} {l : Launch} {e : Env} {s : State} {m : MethodId} {below : List Frame} {meth : Method} {c : Code} {st : Nat → Nat} {D : va_G} {b L : Nat} {xs : Nat → Int32} {ad am : Nat → Nat} {cy cm : Nat → ClassId} {ao : Nat} {co : ClassId} (hC : zC p m c cL_law 8 s #[Value.ref b] wzL_law RL meth ret) (hst : l.stackTraces = false) (hX : va_X b L xs s s.heap) (hbl : b < s.heap.size) (hbA : ¬ (fun q : Nat => s.heap.size ≤ q) b) {n : Nat} {kn : zSt → (Nat → Int64) → zSt → Int32 → Option Int32} (hk : ∀ (H : Heap) (locs : List Loc) (μ : zSt) (o : Nat → Int64) (σ : zSt) (ls : Array Slot) (x4 : Int32) (cells slots : Nat), cells + n ≤ 600128 → slots + 6 * n ≤ 7301064 → zLw st D ad cy am cm ao co μ o σ s H locs → lv_has ls 8 [(4, .int x4), (3, .ref ao), (2, .ref (am 0)), (1, .ref (ad 0)), (0, .ref b)] → kn μ o σ x4 = some 1 → W p l e room_1 s m #[Value.ref b] below meth c H locs cells slots (lw_Z below #[Value.ref b] s) (F0 m 33 ls [])) {H : Heap} {locs : List Loc} {μ : zSt} {o : Nat → Int64} {σ : zSt} {ls : Array Slot} {x4 : Int32} {cells slots : Nat} (hc : cells + (n + 1) ≤ 600128) (hs : slots + 6 * (n + 1) ≤ 7301064) (hI : zLw st D ad cy am cm ao co μ o σ s H locs) (hl : lv_has ls 8 [(4, .int x4), (3, .ref ao), (2, .ref (am 0)), (1, .ref (ad 0)), (0, .ref b)]) (hf : fLaw_919 xs L kn μ o σ x4 = some 1) : W p l e room_1 s m #[Value.ref b] below meth c H locs cells slots (lw_Z below #[Value.ref b] s) (F0 m 919 ls []) := by
  have hx := hC.1
  have hb := hC.2.1
  unfold fLaw_919 at hf
  refine lv_aload_n hx hb dL_law_919 rfl (lv_at hl 3 rfl) ?_
  obtain ⟨σ106, v107, g106, hf⟩ := zbi_use hf
  refine z_fcallH (u := wM am cm μ ++ zHo ao co o) (w := wC ad cy) (x := σ) (As := [.ref (ad 0)]) (rest := []) hC (zI.al hI) (zKC hI.1) (cL_restore_met st l hst D ad cy σ  _ g106) (zgS zw82_16 zw82_17 zw1_10 zw82_18) rfl ⟨rfl, rfl⟩ 1 hdL_restore ⟨Nat.le_of_ble_eq_true rfl, Nat.le_of_ble_eq_true rfl⟩ rfl hl rfl (Nat.le_of_ble_eq_true rfl) dL_law_920 ⟨by show cells + 1 ≤ 600128; omega, by show slots + 6 ≤ 7301064; omega⟩ (fun H locs hI => ?_)
  have hI : zLw st D ad cy am cm ao co μ o σ106 s H locs := zI.ar hI
  refine lv_istore (lv' := [(5, .int v107), (4, .int x4), (3, .ref ao), (2, .ref (am 0)), (1, .ref (ad 0)), (0, .ref b)]) hx hb dL_law_923 hl (by decide) rfl (fun ls hl => ?_)
  refine lv_aload_n hx hb dL_law_925 rfl (lv_at hl 3 rfl) ?_
  obtain ⟨μ108, g108, hf⟩ := zbu_use hf
  refine z_fcallVu (u := zHo ao co o ++ wC ad cy σ106) (w := wM am cm) (As := []) (rest := []) hC (zI.swap hI) (zKM hI.1) (cX12_restore_met st l D am cm μ  _ g108) (zgV zw84_16 zw84_17 zw84_18 zw1_5 zw84_19) rfl ⟨rfl, rfl⟩ 0 hdX12_restore ⟨Nat.le_of_ble_eq_true rfl, Nat.le_of_ble_eq_true rfl⟩ rfl rfl (wM_e0 am cm μ) rfl hl rfl (Nat.le_of_ble_eq_true rfl) dL_law_926 ⟨by show cells + 1 ≤ 600128; omega, by show slots + 6 ≤ 7301064; omega⟩ (fun H locs hI => ?_)
  have hI : zLw st D ad cy am cm ao co μ108 o σ106 s H locs := zI.swap hI
  refine lv_goto (tgt := 1418) hx hb dL_law_929 (by decide) ?_
  obtain ⟨v109, ev109⟩ : ∃ z : Int32, z = x4 + 8 := ⟨_, rfl⟩
  replace hf := zbv_use ev109 hf
  refine lv_iinc (v := v109) (lv' := [(4, .int v109), (5, .int v107), (3, .ref ao), (2, .ref (am 0)), (1, .ref (ad 0)), (0, .ref b)]) hx hb dL_law_1418 hl (k := 1) rfl (by rw [ev109]; rfl) (by decide) rfl (fun ls hl => ?_)
  refine lv_goto (tgt := 33) hx hb dL_law_1421 (by decide) ?_
  exact hk _ _ _ _ _ _ _ _ _ (by omega) (by omega) hI (lv_sub hl [0, 2, 3, 4, 5] rfl) hf
def fLaw_932 (xs : Nat → Int32) (L : Nat) (kn : zSt → (Nat → Int64) → zSt → Int32 → Option Int32) (μ : zSt) (o : Nat → Int64) (σ : zSt) (x4 : Int32) : Option Int32 :=
  zck (zin (x4 + 1) L) (zbh (fL_register o σ (xs (x4 + 1).toNatClampNeg)) (fun o110 σ110 v111 =>
  zck (zin (x4 + 1) L) (zbi (fX12_register μ (xs (x4 + 1).toNatClampNeg)) (fun μ112 v113 =>
  zbv (x4 + 8) (fun v114 => kn μ112 o110 σ110 v114)))))
set_option maxRecDepth 20000 in
set_option maxHeartbeats 4000000 in
theorem bLaw_932 {p : Program} {l : Launch} {e : Env} {s : State} {m : MethodId} {below : List Frame} {meth : Method} {c : Code} {st : Nat → Nat} {D : va_G} {b L : Nat} {xs : Nat → Int32} {ad am : Nat → Nat} {cy cm : Nat → ClassId} {ao : Nat} {co : ClassId} (hC : zC p m c cL_law 8 s #[Value.ref b] wzL_law RL meth ret) (hst : l.stackTraces = false) (hX : va_X b L xs s s.heap) (hbl : b < s.heap.size) (hbA : ¬ (fun q : Nat => s.heap.size ≤ q) b) {n : Nat} {kn : zSt → (Nat → Int64) → zSt → Int32 → Option Int32} (hk : ∀ (H : Heap) (locs : List Loc) (μ : zSt) (o : Nat → Int64) (σ : zSt) (ls : Array Slot) (x4 : Int32) (cells slots : Nat), cells + n ≤ 600128 → slots + 6 * n ≤ 7301064 → zLw st D ad cy am cm ao co μ o σ s H locs → lv_has ls 8 [(4, .int x4), (3, .ref ao), (2, .ref (am 0)), (1, .ref (ad 0)), (0, .ref b)] → kn μ o σ x4 = some 1 → W p l e room_1 s m #[Value.ref b] below meth c H locs cells slots (lw_Z below #[Value.ref b] s) (F0 m 33 ls [])) {H : Heap} {locs : List Loc} {μ : zSt} {o : Nat → Int64} {σ : zSt} {ls : Array Slot} {x4 : Int32} {cells slots : Nat} (hc : cells + (n + 1) ≤ 600128) (hs : slots + 6 * (n + 1) ≤ 7301064) (hI : zLw st D ad cy am cm ao co μ o σ s H locs) (hl : lv_has ls 8 [(4, .int x4), (3, .ref ao), (2, .ref (am 0)), (1, .ref (ad 0)), (0, .ref b)]) (hf : fLaw_932 xs L kn μ o σ x4 = some 1) : W p l e room_1 s m #[Value.ref b] below meth c H locs cells slots (lw_Z below #[Value.ref b] s) (F0 m 932 ls []) := by
  have hx := hC.1
  have hb := hC.2.1
  unfold fLaw_932 at hf
  refine lv_aload_n hx hb dL_law_932 rfl (lv_at hl 3 rfl) ?_
  refine lv_aload_n hx hb dL_law_933 rfl (lv_at hl 4 rfl) ?_
  refine lv_iload hx hb dL_law_934 (lv_at hl 0 rfl) ?_
  refine lv_iconst (v := 1) hx hb dL_law_936 (by decide) ?_
  refine lv_iadd hx hb dL_law_937 ?_
  obtain ⟨q, hf⟩ := zck_use hf
  refine va_sld hx hb hX hbl hbA hI.2.2.2.1 (zin_in q) dL_law_938 ?_
  refine lv_aload_n hx hb dL_law_939 rfl (lv_at hl 1 rfl) ?_
  obtain ⟨o110, σ110, v111, g110, hf⟩ := zbh_use hf
  refine z_fcallH (u := wM am cm μ) (w := fun x : zHs => zHo ao co x.1 ++ wC ad cy x.2) (x := (o, σ)) (As := [.ref (ad 0), .int (xs (x4 + 1).toNatClampNeg), .ref ao]) (rest := []) hC hI (zKH hI.1) (cL_register_met st l hst D ad cy ao co o σ (xs (x4 + 1).toNatClampNeg) _ g110) (zgS zw84_20 zw84_21 zw1_10 zw84_22) rfl ⟨rfl, rfl⟩ 3 hdL_register ⟨Nat.le_of_ble_eq_true rfl, Nat.le_of_ble_eq_true rfl⟩ rfl hl rfl (Nat.le_of_ble_eq_true rfl) dL_law_940 ⟨by show cells + 1 ≤ 600128; omega, by show slots + 6 ≤ 7301064; omega⟩ (fun H locs hI => ?_)
  have hI : zLw st D ad cy am cm ao co μ o110 σ110 s H locs := hI
  refine lv_istore (lv' := [(5, .int v111), (4, .int x4), (3, .ref ao), (2, .ref (am 0)), (1, .ref (ad 0)), (0, .ref b)]) hx hb dL_law_943 hl (by decide) rfl (fun ls hl => ?_)
  refine lv_aload_n hx hb dL_law_945 rfl (lv_at hl 3 rfl) ?_
  refine lv_aload_n hx hb dL_law_946 rfl (lv_at hl 5 rfl) ?_
  refine lv_iload hx hb dL_law_947 (lv_at hl 1 rfl) ?_
  refine lv_iconst (v := 1) hx hb dL_law_949 (by decide) ?_
  refine lv_iadd hx hb dL_law_950 ?_
  obtain ⟨q, hf⟩ := zck_use hf
  refine va_sld hx hb hX hbl hbA hI.2.2.2.1 (zin_in q) dL_law_951 ?_
  obtain ⟨μ112, v113, g112, hf⟩ := zbi_use hf
  refine z_fcallVi (u := zHo ao co o110 ++ wC ad cy σ110) (w := wM am cm) (As := [.int (xs (x4 + 1).toNatClampNeg)]) (rest := []) hC (zI.swap hI) (zKM hI.1) (cX12_register_met st l D am cm μ (xs (x4 + 1).toNatClampNeg) _ g112) (zgV zw85_3 zw85_4 zw85_5 zw1_5 zw85_6) rfl ⟨rfl, rfl⟩ 1 hdX12_register ⟨Nat.le_of_ble_eq_true rfl, Nat.le_of_ble_eq_true rfl⟩ rfl rfl (wM_e0 am cm μ) rfl hl rfl (Nat.le_of_ble_eq_true rfl) dL_law_952 ⟨by show cells + 1 ≤ 600128; omega, by show slots + 6 ≤ 7301064; omega⟩ (fun H locs hI => ?_)
  have hI : zLw st D ad cy am cm ao co μ112 o110 σ110 s H locs := zI.swap hI
  refine lv_istore (lv' := [(6, .int v113), (5, .int v111), (4, .int x4), (3, .ref ao), (2, .ref (am 0)), (1, .ref (ad 0)), (0, .ref b)]) hx hb dL_law_955 hl (by decide) rfl (fun ls hl => ?_)
  refine lv_goto (tgt := 1418) hx hb dL_law_957 (by decide) ?_
  obtain ⟨v114, ev114⟩ : ∃ z : Int32, z = x4 + 8 := ⟨_, rfl⟩
  replace hf := zbv_use ev114 hf
  refine lv_iinc (v := v114) (lv' := [(4, .int v114), (6, .int v113), (5, .int v111), (3, .ref ao), (2, .ref (am 0)), (1, .ref (ad 0)), (0, .ref b)]) hx hb dL_law_1418 hl (k := 2) rfl (by rw [ev114]; rfl) (by decide) rfl (fun ls hl => ?_)
  refine lv_goto (tgt := 33) hx hb dL_law_1421 (by decide) ?_
  exact hk _ _ _ _ _ _ _ _ _ (by omega) (by omega) hI (lv_sub hl [0, 3, 4, 5, 6] rfl) hf
def fLaw_960 (xs : Nat → Int32) (L : Nat) (kn : zSt → (Nat → Int64) → zSt → Int32 → Option Int32) (μ : zSt) (o : Nat → Int64) (σ : zSt) (x4 : Int32) : Option Int32 :=
  zck (zin (x4 + 1) L) (zck (zin (x4 + 2) L) (zbi (fL_set σ (xs (x4 + 1).toNatClampNeg) (xs (x4 + 2).toNatClampNeg)) (fun σ115 v116 =>
  zck (zin (x4 + 1) L) (zck (zin (x4 + 2) L) (zbu (fX12_set μ (xs (x4 + 1).toNatClampNeg) (xs (x4 + 2).toNatClampNeg)) (fun μ117 =>
  zbv (x4 + 8) (fun v118 => kn μ117 o σ115 v118)))))))
set_option maxRecDepth 20000 in
set_option maxHeartbeats 4000000 in
theorem bLaw_960 {p : Program} {l : Launch} {e : Env} {s : State} {m : MethodId} {below : List Frame} {meth : Method} {c : Code} {st : Nat → Nat} {D : va_G} {b L : Nat} {xs : Nat → Int32} {ad am : Nat → Nat} {cy cm : Nat → ClassId} {ao : Nat} {co : ClassId} (hC : zC p m c cL_law 8 s #[Value.ref b] wzL_law RL meth ret) (hst : l.stackTraces = false) (hX : va_X b L xs s s.heap) (hbl : b < s.heap.size) (hbA : ¬ (fun q : Nat => s.heap.size ≤ q) b) {n : Nat} {kn : zSt → (Nat → Int64) → zSt → Int32 → Option Int32} (hk : ∀ (H : Heap) (locs : List Loc) (μ : zSt) (o : Nat → Int64) (σ : zSt) (ls : Array Slot) (x4 : Int32) (cells slots : Nat), cells + n ≤ 600128 → slots + 6 * n ≤ 7301064 → zLw st D ad cy am cm ao co μ o σ s H locs → lv_has ls 8 [(4, .int x4), (3, .ref ao), (2, .ref (am 0)), (1, .ref (ad 0)), (0, .ref b)] → kn μ o σ x4 = some 1 → W p l e room_1 s m #[Value.ref b] below meth c H locs cells slots (lw_Z below #[Value.ref b] s) (F0 m 33 ls [])) {H : Heap} {locs : List Loc} {μ : zSt} {o : Nat → Int64} {σ : zSt} {ls : Array Slot} {x4 : Int32} {cells slots : Nat} (hc : cells + (n + 1) ≤ 600128) (hs : slots + 6 * (n + 1) ≤ 7301064) (hI : zLw st D ad cy am cm ao co μ o σ s H locs) (hl : lv_has ls 8 [(4, .int x4), (3, .ref ao), (2, .ref (am 0)), (1, .ref (ad 0)), (0, .ref b)]) (hf : fLaw_960 xs L kn μ o σ x4 = some 1) : W p l e room_1 s m #[Value.ref b] below meth c H locs cells slots (lw_Z below #[Value.ref b] s) (F0 m 960 ls []) := by
  have hx := hC.1
  have hb := hC.2.1
  unfold fLaw_960 at hf
  refine lv_aload_n hx hb dL_law_960 rfl (lv_at hl 3 rfl) ?_
  refine lv_aload_n hx hb dL_law_961 rfl (lv_at hl 4 rfl) ?_
  refine lv_iload hx hb dL_law_962 (lv_at hl 0 rfl) ?_
  refine lv_iconst (v := 1) hx hb dL_law_964 (by decide) ?_
  refine lv_iadd hx hb dL_law_965 ?_
  obtain ⟨q, hf⟩ := zck_use hf
  refine va_sld hx hb hX hbl hbA hI.2.2.2.1 (zin_in q) dL_law_966 ?_
  refine lv_aload_n hx hb dL_law_967 rfl (lv_at hl 4 rfl) ?_
  refine lv_iload hx hb dL_law_968 (lv_at hl 0 rfl) ?_
  refine lv_iconst (v := 2) hx hb dL_law_970 (by decide) ?_
  refine lv_iadd hx hb dL_law_971 ?_
  obtain ⟨q, hf⟩ := zck_use hf
  refine va_sld hx hb hX hbl hbA hI.2.2.2.1 (zin_in q) dL_law_972 ?_
  obtain ⟨σ115, v116, g115, hf⟩ := zbi_use hf
  refine z_fcallH (u := wM am cm μ ++ zHo ao co o) (w := wC ad cy) (x := σ) (As := [.ref (ad 0), .int (xs (x4 + 1).toNatClampNeg), .int (xs (x4 + 2).toNatClampNeg)]) (rest := []) hC (zI.al hI) (zKC hI.1) (cL_set_met st l hst D ad cy σ (xs (x4 + 1).toNatClampNeg) (xs (x4 + 2).toNatClampNeg) _ g115) (zgS zw85_8 zw85_9 zw1_10 zw85_10) rfl ⟨rfl, rfl⟩ 3 hdL_set ⟨Nat.le_of_ble_eq_true rfl, Nat.le_of_ble_eq_true rfl⟩ rfl hl rfl (Nat.le_of_ble_eq_true rfl) dL_law_973 ⟨by show cells + 1 ≤ 600128; omega, by show slots + 6 ≤ 7301064; omega⟩ (fun H locs hI => ?_)
  have hI : zLw st D ad cy am cm ao co μ o σ115 s H locs := zI.ar hI
  refine lv_istore (lv' := [(5, .int v116), (4, .int x4), (3, .ref ao), (2, .ref (am 0)), (1, .ref (ad 0)), (0, .ref b)]) hx hb dL_law_976 hl (by decide) rfl (fun ls hl => ?_)
  refine lv_aload_n hx hb dL_law_978 rfl (lv_at hl 3 rfl) ?_
  refine lv_aload_n hx hb dL_law_979 rfl (lv_at hl 5 rfl) ?_
  refine lv_iload hx hb dL_law_980 (lv_at hl 1 rfl) ?_
  refine lv_iconst (v := 1) hx hb dL_law_982 (by decide) ?_
  refine lv_iadd hx hb dL_law_983 ?_
  obtain ⟨q, hf⟩ := zck_use hf
  refine va_sld hx hb hX hbl hbA hI.2.2.2.1 (zin_in q) dL_law_984 ?_
  refine lv_aload_n hx hb dL_law_985 rfl (lv_at hl 5 rfl) ?_
  refine lv_iload hx hb dL_law_986 (lv_at hl 1 rfl) ?_
  refine lv_iconst (v := 2) hx hb dL_law_988 (by decide) ?_
  refine lv_iadd hx hb dL_law_989 ?_
  obtain ⟨q, hf⟩ := zck_use hf
  refine va_sld hx hb hX hbl hbA hI.2.2.2.1 (zin_in q) dL_law_990 ?_
  obtain ⟨μ117, g117, hf⟩ := zbu_use hf
  refine z_fcallVu (u := zHo ao co o ++ wC ad cy σ115) (w := wM am cm) (As := [.int (xs (x4 + 1).toNatClampNeg), .int (xs (x4 + 2).toNatClampNeg)]) (rest := []) hC (zI.swap hI) (zKM hI.1) (cX12_set_met st l D am cm μ (xs (x4 + 1).toNatClampNeg) (xs (x4 + 2).toNatClampNeg) _ g117) (zgV zw85_20 zw85_21 zw85_22 zw1_5 zw85_23) rfl ⟨rfl, rfl⟩ 2 hdX12_set ⟨Nat.le_of_ble_eq_true rfl, Nat.le_of_ble_eq_true rfl⟩ rfl rfl (wM_e0 am cm μ) rfl hl rfl (Nat.le_of_ble_eq_true rfl) dL_law_991 ⟨by show cells + 1 ≤ 600128; omega, by show slots + 6 ≤ 7301064; omega⟩ (fun H locs hI => ?_)
  have hI : zLw st D ad cy am cm ao co μ117 o σ115 s H locs := zI.swap hI
  refine lv_goto (tgt := 1418) hx hb dL_law_994 (by decide) ?_
  obtain ⟨v118, ev118⟩ : ∃ z : Int32, z = x4 + 8 := ⟨_, rfl⟩
  replace hf := zbv_use ev118 hf
  refine lv_iinc (v := v118) (lv' := [(4, .int v118), (5, .int v116), (3, .ref ao), (2, .ref (am 0)), (1, .ref (ad 0)), (0, .ref b)]) hx hb dL_law_1418 hl (k := 1) rfl (by rw [ev118]; rfl) (by decide) rfl (fun ls hl => ?_)
  refine lv_goto (tgt := 33) hx hb dL_law_1421 (by decide) ?_
  exact hk _ _ _ _ _ _ _ _ _ (by omega) (by omega) hI (lv_sub hl [0, 2, 3, 4, 5] rfl) hf
def fLaw_997 (xs : Nat → Int32) (L : Nat) (kn : zSt → (Nat → Int64) → zSt → Int32 → Option Int32) (μ : zSt) (o : Nat → Int64) (σ : zSt) (x4 : Int32) : Option Int32 :=
  zck (zin (x4 + 1) L) (zbi (fX11_peek σ (xs (x4 + 1).toNatClampNeg)) (fun σ119 v120 =>
  zck (zin (x4 + 1) L) (zbi (fX12_peek μ (xs (x4 + 1).toNatClampNeg)) (fun μ121 v122 =>
  zbv (x4 + 8) (fun v123 => kn μ121 o σ119 v123)))))
set_option maxRecDepth 20000 in
set_option maxHeartbeats 4000000 in
theorem bLaw_997 {p : Program} {l : Launch} {e : Env} {s : State} {m : MethodId} {below : List Frame} {meth : Method} {c : Code} {st : Nat → Nat} {D : va_G} {b L : Nat} {xs : Nat → Int32} {ad am : Nat → Nat} {cy cm : Nat → ClassId} {ao : Nat} {co : ClassId} (hC : zC p m c cL_law 8 s #[Value.ref b] wzL_law RL meth ret) (hst : l.stackTraces = false) (hX : va_X b L xs s s.heap) (hbl : b < s.heap.size) (hbA : ¬ (fun q : Nat => s.heap.size ≤ q) b) {n : Nat} {kn : zSt → (Nat → Int64) → zSt → Int32 → Option Int32} (hk : ∀ (H : Heap) (locs : List Loc) (μ : zSt) (o : Nat → Int64) (σ : zSt) (ls : Array Slot) (x4 : Int32) (cells slots : Nat), cells + n ≤ 600128 → slots + 6 * n ≤ 7301064 → zLw st D ad cy am cm ao co μ o σ s H locs → lv_has ls 8 [(4, .int x4), (3, .ref ao), (2, .ref (am 0)), (1, .ref (ad 0)), (0, .ref b)] → kn μ o σ x4 = some 1 → W p l e room_1 s m #[Value.ref b] below meth c H locs cells slots (lw_Z below #[Value.ref b] s) (F0 m 33 ls [])) {H : Heap} {locs : List Loc} {μ : zSt} {o : Nat → Int64} {σ : zSt} {ls : Array Slot} {x4 : Int32} {cells slots : Nat} (hc : cells + (n + 1) ≤ 600128) (hs : slots + 6 * (n + 1) ≤ 7301064) (hI : zLw st D ad cy am cm ao co μ o σ s H locs) (hl : lv_has ls 8 [(4, .int x4), (3, .ref ao), (2, .ref (am 0)), (1, .ref (ad 0)), (0, .ref b)]) (hf : fLaw_997 xs L kn μ o σ x4 = some 1) : W p l e room_1 s m #[Value.ref b] below meth c H locs cells slots (lw_Z below #[Value.ref b] s) (F0 m 997 ls []) := by
  have hx := hC.1
  have hb := hC.2.1
  unfold fLaw_997 at hf
  refine lv_aload_n hx hb dL_law_997 rfl (lv_at hl 3 rfl) ?_
  refine lv_aload_n hx hb dL_law_998 rfl (lv_at hl 4 rfl) ?_
  refine lv_iload hx hb dL_law_999 (lv_at hl 0 rfl) ?_
  refine lv_iconst (v := 1) hx hb dL_law_1001 (by decide) ?_
  refine lv_iadd hx hb dL_law_1002 ?_
  obtain ⟨q, hf⟩ := zck_use hf
  refine va_sld hx hb hX hbl hbA hI.2.2.2.1 (zin_in q) dL_law_1003 ?_
  obtain ⟨σ119, v120, g119, hf⟩ := zbi_use hf
  refine z_fcallVi (u := wM am cm μ ++ zHo ao co o) (w := wC ad cy) (As := [.int (xs (x4 + 1).toNatClampNeg)]) (rest := []) hC (zI.al hI) (zKC hI.1) (cX11_peek_met st l D ad cy σ (xs (x4 + 1).toNatClampNeg) _ g119) (zgV zw86_1 zw86_2 zw86_3 zw1_2 zw86_4) rfl ⟨rfl, rfl⟩ 1 hdX11_peek ⟨Nat.le_of_ble_eq_true rfl, Nat.le_of_ble_eq_true rfl⟩ rfl rfl (wC_e0 ad cy σ) rfl hl rfl (Nat.le_of_ble_eq_true rfl) dL_law_1004 ⟨by show cells ≤ 600128; omega, by show slots ≤ 7301064; omega⟩ (fun H locs hI => ?_)
  have hI : zLw st D ad cy am cm ao co μ o σ119 s H locs := zI.ar hI
  refine lv_pop hx hb dL_law_1007 rfl ?_
  refine lv_aload_n hx hb dL_law_1008 rfl (lv_at hl 2 rfl) ?_
  refine lv_aload_n hx hb dL_law_1009 rfl (lv_at hl 4 rfl) ?_
  refine lv_iload hx hb dL_law_1010 (lv_at hl 0 rfl) ?_
  refine lv_iconst (v := 1) hx hb dL_law_1012 (by decide) ?_
  refine lv_iadd hx hb dL_law_1013 ?_
  obtain ⟨q, hf⟩ := zck_use hf
  refine va_sld hx hb hX hbl hbA hI.2.2.2.1 (zin_in q) dL_law_1014 ?_
  obtain ⟨μ121, v122, g121, hf⟩ := zbi_use hf
  refine z_fcallVi (u := zHo ao co o ++ wC ad cy σ119) (w := wM am cm) (As := [.int (xs (x4 + 1).toNatClampNeg)]) (rest := []) hC (zI.swap hI) (zKM hI.1) (cX12_peek_met st l D am cm μ (xs (x4 + 1).toNatClampNeg) _ g121) (zgV zw86_6 zw86_7 zw86_8 zw1_5 zw86_9) rfl ⟨rfl, rfl⟩ 1 hdX12_peek ⟨Nat.le_of_ble_eq_true rfl, Nat.le_of_ble_eq_true rfl⟩ rfl rfl (wM_e0 am cm μ) rfl hl rfl (Nat.le_of_ble_eq_true rfl) dL_law_1015 ⟨by show cells ≤ 600128; omega, by show slots ≤ 7301064; omega⟩ (fun H locs hI => ?_)
  have hI : zLw st D ad cy am cm ao co μ121 o σ119 s H locs := zI.swap hI
  refine lv_pop hx hb dL_law_1018 rfl ?_
  refine lv_goto (tgt := 1418) hx hb dL_law_1019 (by decide) ?_
  obtain ⟨v123, ev123⟩ : ∃ z : Int32, z = x4 + 8 := ⟨_, rfl⟩
  replace hf := zbv_use ev123 hf
  refine lv_iinc (v := v123) (lv' := [(4, .int v123), (3, .ref ao), (2, .ref (am 0)), (1, .ref (ad 0)), (0, .ref b)]) hx hb dL_law_1418 hl (k := 0) rfl (by rw [ev123]; rfl) (by decide) rfl (fun ls hl => ?_)
  refine lv_goto (tgt := 33) hx hb dL_law_1421 (by decide) ?_
  exact hk _ _ _ _ _ _ _ _ _ (by omega) (by omega) hI (lv_sub hl [0, 1, 2, 3, 4] rfl) hf
def fLaw_1022 (xs : Nat → Int32) (L : Nat) (kn : zSt → (Nat → Int64) → zSt → Int32 → Option Int32) (μ : zSt) (o : Nat → Int64) (σ : zSt) (x4 : Int32) : Option Int32 :=
  zck (zin (x4 + 1) L) (zck (zin (x4 + 2) L) (zbu (fX11_poke σ (xs (x4 + 1).toNatClampNeg) (xs (x4 + 2).toNatClampNeg)) (fun σ124 =>
  zck (zin (x4 + 1) L) (zck (zin (x4 + 2) L) (zbu (fX12_poke μ (xs (x4 + 1).toNatClampNeg) (xs (x4 + 2).toNatClampNeg)) (fun μ125 =>
  zbv (x4 + 8) (fun v126 => kn μ125 o σ124 v126)))))))
set_option maxRecDepth 20000 in
set_option maxHeartbeats 4000000 in
theorem bLaw_1022 {p : Program} {l : Launch} {e : Env} {s : State} {m : MethodId} {below : List Frame} {meth : Method} {c : Code} {st : Nat → Nat} {D : va_G} {b L : Nat} {xs : Nat → Int32} {ad am : Nat → Nat} {cy cm : Nat → ClassId} {ao : Nat} {co : ClassId} (hC : zC p m c cL_law 8 s #[Value.ref b] wzL_law RL meth ret) (hst : l.stackTraces = false) (hX : va_X b L xs s s.heap) (hbl : b < s.heap.size) (hbA : ¬ (fun q : Nat => s.heap.size ≤ q) b) {n : Nat} {kn : zSt → (Nat → Int64) → zSt → Int32 → Option Int32} (hk : ∀ (H : Heap) (locs : List Loc) (μ : zSt) (o : Nat → Int64) (σ : zSt) (ls : Array Slot) (x4 : Int32) (cells slots : Nat), cells + n ≤ 600128 → slots + 6 * n ≤ 7301064 → zLw st D ad cy am cm ao co μ o σ s H locs → lv_has ls 8 [(4, .int x4), (3, .ref ao), (2, .ref (am 0)), (1, .ref (ad 0)), (0, .ref b)] → kn μ o σ x4 = some 1 → W p l e room_1 s m #[Value.ref b] below meth c H locs cells slots (lw_Z below #[Value.ref b] s) (F0 m 33 ls [])) {H : Heap} {locs : List Loc} {μ : zSt} {o : Nat → Int64} {σ : zSt} {ls : Array Slot} {x4 : Int32} {cells slots : Nat} (hc : cells + (n + 1) ≤ 600128) (hs : slots + 6 * (n + 1) ≤ 7301064) (hI : zLw st D ad cy am cm ao co μ o σ s H locs) (hl : lv_has ls 8 [(4, .int x4), (3, .ref ao), (2, .ref (am 0)), (1, .ref (ad 0)), (0, .ref b)]) (hf : fLaw_1022 xs L kn μ o σ x4 = some 1) : W p l e room_1 s m #[Value.ref b] below meth c H locs cells slots (lw_Z below #[Value.ref b] s) (F0 m 1022 ls []) := by
  have hx := hC.1
  have hb := hC.2.1
  unfold fLaw_1022 at hf
  refine lv_aload_n hx hb dL_law_1022 rfl (lv_at hl 3 rfl) ?_
  refine lv_aload_n hx hb dL_law_1023 rfl (lv_at hl 4 rfl) ?_
  refine lv_iload hx hb dL_law_1024 (lv_at hl 0 rfl) ?_
  refine lv_iconst (v := 1) hx hb dL_law_1026 (by decide) ?_
  refine lv_iadd hx hb dL_law_1027 ?_
  obtain ⟨q, hf⟩ := zck_use hf
  refine va_sld hx hb hX hbl hbA hI.2.2.2.1 (zin_in q) dL_law_1028 ?_
  refine lv_aload_n hx hb dL_law_1029 rfl (lv_at hl 4 rfl) ?_
  refine lv_iload hx hb dL_law_1030 (lv_at hl 0 rfl) ?_
  refine lv_iconst (v := 2) hx hb dL_law_1032 (by decide) ?_
  refine lv_iadd hx hb dL_law_1033 ?_
  obtain ⟨q, hf⟩ := zck_use hf
  refine va_sld hx hb hX hbl hbA hI.2.2.2.1 (zin_in q) dL_law_1034 ?_
  obtain ⟨σ124, g124, hf⟩ := zbu_use hf
  refine z_fcallVu (u := wM am cm μ ++ zHo ao co o) (w := wC ad cy) (As := [.int (xs (x4 + 1).toNatClampNeg), .int (xs (x4 + 2).toNatClampNeg)]) (rest := []) hC (zI.al hI) (zKC hI.1) (cX11_poke_met st l D ad cy σ (xs (x4 + 1).toNatClampNeg) (xs (x4 + 2).toNatClampNeg) _ g124) (zgV zw86_10 zw86_11 zw86_12 zw1_2 zw86_13) rfl ⟨rfl, rfl⟩ 2 hdX11_poke ⟨Nat.le_of_ble_eq_true rfl, Nat.le_of_ble_eq_true rfl⟩ rfl rfl (wC_e0 ad cy σ) rfl hl rfl (Nat.le_of_ble_eq_true rfl) dL_law_1035 ⟨by show cells ≤ 600128; omega, by show slots ≤ 7301064; omega⟩ (fun H locs hI => ?_)
  have hI : zLw st D ad cy am cm ao co μ o σ124 s H locs := zI.ar hI
  refine lv_aload_n hx hb dL_law_1038 rfl (lv_at hl 2 rfl) ?_
  refine lv_aload_n hx hb dL_law_1039 rfl (lv_at hl 4 rfl) ?_
  refine lv_iload hx hb dL_law_1040 (lv_at hl 0 rfl) ?_
  refine lv_iconst (v := 1) hx hb dL_law_1042 (by decide) ?_
  refine lv_iadd hx hb dL_law_1043 ?_
  obtain ⟨q, hf⟩ := zck_use hf
  refine va_sld hx hb hX hbl hbA hI.2.2.2.1 (zin_in q) dL_law_1044 ?_
  refine lv_aload_n hx hb dL_law_1045 rfl (lv_at hl 4 rfl) ?_
  refine lv_iload hx hb dL_law_1046 (lv_at hl 0 rfl) ?_
  refine lv_iconst (v := 2) hx hb dL_law_1048 (by decide) ?_
  refine lv_iadd hx hb dL_law_1049 ?_
  obtain ⟨q, hf⟩ := zck_use hf
  refine va_sld hx hb hX hbl hbA hI.2.2.2.1 (zin_in q) dL_law_1050 ?_
  obtain ⟨μ125, g125, hf⟩ := zbu_use hf
  refine z_fcallVu (u := zHo ao co o ++ wC ad cy σ124) (w := wM am cm) (As := [.int (xs (x4 + 1).toNatClampNeg), .int (xs (x4 + 2).toNatClampNeg)]) (rest := []) hC (zI.swap hI) (zKM hI.1) (cX12_poke_met st l D am cm μ (xs (x4 + 1).toNatClampNeg) (xs (x4 + 2).toNatClampNeg) _ g125) (zgV zw86_15 zw86_16 zw86_17 zw1_5 zw86_18) rfl ⟨rfl, rfl⟩ 2 hdX12_poke ⟨Nat.le_of_ble_eq_true rfl, Nat.le_of_ble_eq_true rfl⟩ rfl rfl (wM_e0 am cm μ) rfl hl rfl (Nat.le_of_ble_eq_true rfl) dL_law_1051 ⟨by show cells ≤ 600128; omega, by show slots ≤ 7301064; omega⟩ (fun H locs hI => ?_)
  have hI : zLw st D ad cy am cm ao co μ125 o σ124 s H locs := zI.swap hI
  refine lv_goto (tgt := 1418) hx hb dL_law_1054 (by decide) ?_
  obtain ⟨v126, ev126⟩ : ∃ z : Int32, z = x4 + 8 := ⟨_, rfl⟩
  replace hf := zbv_use ev126 hf
  refine lv_iinc (v := v126) (lv' := [(4, .int v126), (3, .ref ao), (2, .ref (am 0)), (1, .ref (ad 0)), (0, .ref b)]) hx hb dL_law_1418 hl (k := 0) rfl (by rw [ev126]; rfl) (by decide) rfl (fun ls hl => ?_)
  refine lv_goto (tgt := 33) hx hb dL_law_1421 (by decide) ?_
  exact hk _ _ _ _ _ _ _ _ _ (by omega) (by omega) hI (lv_sub hl [0, 1, 2, 3, 4] rfl) hf
def fLaw_1057 (xs : Nat → Int32) (L : Nat) (kn : zSt → (Nat → Int64) → zSt → Int32 → Option Int32) (μ : zSt) (o : Nat → Int64) (σ : zSt) (x4 : Int32) : Option Int32 :=
  zck (zin (x4 + 1) L) (zbi (fX11_in σ (xs (x4 + 1).toNatClampNeg)) (fun σ127 v128 =>
  zck (zin (x4 + 1) L) (zbi (fX12_in μ (xs (x4 + 1).toNatClampNeg)) (fun μ129 v130 =>
  zbv (x4 + 8) (fun v131 => kn μ129 o σ127 v131)))))
set_option maxRecDepth 20000 in
set_option maxHeartbeats 4000000 in
theorem bLaw_1057 {p : Program} {l : Launch} {e : Env} {s : State} {m : MethodId} {below : List Frame} {meth : Method} {c : Code} {st : Nat → Nat} {D : va_G} {b L : Nat} {xs : Nat → Int32} {ad am : Nat → Nat} {cy cm : Nat → ClassId} {ao : Nat} {co : ClassId} (hC : zC p m c cL_law 8 s #[Value.ref b] wzL_law RL meth ret) (hst : l.stackTraces = false) (hX : va_X b L xs s s.heap) (hbl : b < s.heap.size) (hbA : ¬ (fun q : Nat => s.heap.size ≤ q) b) {n : Nat} {kn : zSt → (Nat → Int64) → zSt → Int32 → Option Int32} (hk : ∀ (H : Heap) (locs : List Loc) (μ : zSt) (o : Nat → Int64) (σ : zSt) (ls : Array Slot) (x4 : Int32) (cells slots : Nat), cells + n ≤ 600128 → slots + 6 * n ≤ 7301064 → zLw st D ad cy am cm ao co μ o σ s H locs → lv_has ls 8 [(4, .int x4), (3, .ref ao), (2, .ref (am 0)), (1, .ref (ad 0)), (0, .ref b)] → kn μ o σ x4 = some 1 → W p l e room_1 s m #[Value.ref b] below meth c H locs cells slots (lw_Z below #[Value.ref b] s) (F0 m 33 ls [])) {H : Heap} {locs : List Loc} {μ : zSt} {o : Nat → Int64} {σ : zSt} {ls : Array Slot} {x4 : Int32} {cells slots : Nat} (hc : cells + (n + 1) ≤ 600128) (hs : slots + 6 * (n + 1) ≤ 7301064) (hI : zLw st D ad cy am cm ao co μ o σ s H locs) (hl : lv_has ls 8 [(4, .int x4), (3, .ref ao), (2, .ref (am 0)), (1, .ref (ad 0)), (0, .ref b)]) (hf : fLaw_1057 xs L kn μ o σ x4 = some 1) : W p l e room_1 s m #[Value.ref b] below meth c H locs cells slots (lw_Z below #[Value.ref b] s) (F0 m 1057 ls []) := by
  have hx := hC.1
  have hb := hC.2.1
  unfold fLaw_1057 at hf
  refine lv_aload_n hx hb dL_law_1057 rfl (lv_at hl 3 rfl) ?_
  refine lv_aload_n hx hb dL_law_1058 rfl (lv_at hl 4 rfl) ?_
  refine lv_iload hx hb dL_law_1059 (lv_at hl 0 rfl) ?_
  refine lv_iconst (v := 1) hx hb dL_law_1061 (by decide) ?_
  refine lv_iadd hx hb dL_law_1062 ?_
  obtain ⟨q, hf⟩ := zck_use hf
  refine va_sld hx hb hX hbl hbA hI.2.2.2.1 (zin_in q) dL_law_1063 ?_
  obtain ⟨σ127, v128, g127, hf⟩ := zbi_use hf
  refine z_fcallVi (u := wM am cm μ ++ zHo ao co o) (w := wC ad cy) (As := [.int (xs (x4 + 1).toNatClampNeg)]) (rest := []) hC (zI.al hI) (zKC hI.1) (cX11_in_met st l D ad cy σ (xs (x4 + 1).toNatClampNeg) _ g127) (zgV zw86_19 zw86_20 zw86_21 zw1_2 zw86_22) rfl ⟨rfl, rfl⟩ 1 hdX11_in ⟨Nat.le_of_ble_eq_true rfl, Nat.le_of_ble_eq_true rfl⟩ rfl rfl (wC_e0 ad cy σ) rfl hl rfl (Nat.le_of_ble_eq_true rfl) dL_law_1064 ⟨by show cells ≤ 600128; omega, by show slots ≤ 7301064; omega⟩ (fun H locs hI => ?_)
  have hI : zLw st D ad cy am cm ao co μ o σ127 s H locs := zI.ar hI
  refine lv_pop hx hb dL_law_1067 rfl ?_
  refine lv_aload_n hx hb dL_law_1068 rfl (lv_at hl 2 rfl) ?_
  refine lv_aload_n hx hb dL_law_1069 rfl (lv_at hl 4 rfl) ?_
  refine lv_iload hx hb dL_law_1070 (lv_at hl 0 rfl) ?_
  refine lv_iconst (v := 1) hx hb dL_law_1072 (by decide) ?_
  refine lv_iadd hx hb dL_law_1073 ?_
  obtain ⟨q, hf⟩ := zck_use hf
  refine va_sld hx hb hX hbl hbA hI.2.2.2.1 (zin_in q) dL_law_1074 ?_
  obtain ⟨μ129, v130, g129, hf⟩ := zbi_use hf
  refine z_fcallVi (u := zHo ao co o ++ wC ad cy σ127) (w := wM am cm) (As := [.int (xs (x4 + 1).toNatClampNeg)]) (rest := []) hC (zI.swap hI) (zKM hI.1) (cX12_in_met st l D am cm μ (xs (x4 + 1).toNatClampNeg) _ g129) (zgV zw87_0 zw87_1 zw87_2 zw1_5 zw87_3) rfl ⟨rfl, rfl⟩ 1 hdX12_in ⟨Nat.le_of_ble_eq_true rfl, Nat.le_of_ble_eq_true rfl⟩ rfl rfl (wM_e0 am cm μ) rfl hl rfl (Nat.le_of_ble_eq_true rfl) dL_law_1075 ⟨by show cells ≤ 600128; omega, by show slots ≤ 7301064; omega⟩ (fun H locs hI => ?_)
  have hI : zLw st D ad cy am cm ao co μ129 o σ127 s H locs := zI.swap hI
  refine lv_pop hx hb dL_law_1078 rfl ?_
  refine lv_goto (tgt := 1418) hx hb dL_law_1079 (by decide) ?_
  obtain ⟨v131, ev131⟩ : ∃ z : Int32, z = x4 + 8 := ⟨_, rfl⟩
  replace hf := zbv_use ev131 hf
  refine lv_iinc (v := v131) (lv' := [(4, .int v131), (3, .ref ao), (2, .ref (am 0)), (1, .ref (ad 0)), (0, .ref b)]) hx hb dL_law_1418 hl (k := 0) rfl (by rw [ev131]; rfl) (by decide) rfl (fun ls hl => ?_)
  refine lv_goto (tgt := 33) hx hb dL_law_1421 (by decide) ?_
  exact hk _ _ _ _ _ _ _ _ _ (by omega) (by omega) hI (lv_sub hl [0, 1, 2, 3, 4] rfl) hf
def fLaw_1082 (xs : Nat → Int32) (L : Nat) (kn : zSt → (Nat → Int64) → zSt → Int32 → Option Int32) (μ : zSt) (o : Nat → Int64) (σ : zSt) (x4 : Int32) : Option Int32 :=
  zck (zin (x4 + 1) L) (zck (zin (x4 + 2) L) (zbu (fX11_out σ (xs (x4 + 1).toNatClampNeg) (xs (x4 + 2).toNatClampNeg)) (fun σ132 =>
  zck (zin (x4 + 1) L) (zck (zin (x4 + 2) L) (zbu (fX12_out μ (xs (x4 + 1).toNatClampNeg) (xs (x4 + 2).toNatClampNeg)) (fun μ133 =>
  zbv (x4 + 8) (fun v134 => kn μ133 o σ132 v134)))))))
set_option maxRecDepth 20000 in
set_option maxHeartbeats 4000000 in
theorem bLaw_1082 {p : Program} {l : Launch} {e : Env} {s : State} {m : MethodId} {below : List Frame} {meth : Method} {c : Code} {st : Nat → Nat} {D : va_G} {b L : Nat} {xs : Nat → Int32} {ad am : Nat → Nat} {cy cm : Nat → ClassId} {ao : Nat} {co : ClassId} (hC : zC p m c cL_law 8 s #[Value.ref b] wzL_law RL meth ret) (hst : l.stackTraces = false) (hX : va_X b L xs s s.heap) (hbl : b < s.heap.size) (hbA : ¬ (fun q : Nat => s.heap.size ≤ q) b) {n : Nat} {kn : zSt → (Nat → Int64) → zSt → Int32 → Option Int32} (hk : ∀ (H : Heap) (locs : List Loc) (μ : zSt) (o : Nat → Int64) (σ : zSt) (ls : Array Slot) (x4 : Int32) (cells slots : Nat), cells + n ≤ 600128 → slots + 6 * n ≤ 7301064 → zLw st D ad cy am cm ao co μ o σ s H locs → lv_has ls 8 [(4, .int x4), (3, .ref ao), (2, .ref (am 0)), (1, .ref (ad 0)), (0, .ref b)] → kn μ o σ x4 = some 1 → W p l e room_1 s m #[Value.ref b] below meth c H locs cells slots (lw_Z below #[Value.ref b] s) (F0 m 33 ls [])) {H : Heap} {locs : List Loc} {μ : zSt} {o : Nat → Int64} {σ : zSt} {ls : Array Slot} {x4 : Int32} {cells slots : Nat} (hc : cells + (n + 1) ≤ 600128) (hs : slots + 6 * (n + 1) ≤ 7301064) (hI : zLw st D ad cy am cm ao co μ o σ s H locs) (hl : lv_has ls 8 [(4, .int x4), (3, .ref ao), (2, .ref (am 0)), (1, .ref (ad 0)), (0, .ref b)]) (hf : fLaw_1082 xs L kn μ o σ x4 = some 1) : W p l e room_1 s m #[Value.ref b] below meth c H locs cells slots (lw_Z below #[Value.ref b] s) (F0 m 1082 ls []) := by
  have hx := hC.1
  have hb := hC.2.1
  unfold fLaw_1082 at hf
  refine lv_aload_n hx hb dL_law_1082 rfl (lv_at hl 3 rfl) ?_
  refine lv_aload_n hx hb dL_law_1083 rfl (lv_at hl 4 rfl) ?_
  refine lv_iload hx hb dL_law_1084 (lv_at hl 0 rfl) ?_
  refine lv_iconst (v := 1) hx hb dL_law_1086 (by decide) ?_
  refine lv_iadd hx hb dL_law_1087 ?_
  obtain ⟨q, hf⟩ := zck_use hf
  refine va_sld hx hb hX hbl hbA hI.2.2.2.1 (zin_in q) dL_law_1088 ?_
  refine lv_aload_n hx hb dL_law_1089 rfl (lv_at hl 4 rfl) ?_
  refine lv_iload hx hb dL_law_1090 (lv_at hl 0 rfl) ?_
  refine lv_iconst (v := 2) hx hb dL_law_1092 (by decide) ?_
  refine lv_iadd hx hb dL_law_1093 ?_
  obtain ⟨q, hf⟩ := zck_use hf
  refine va_sld hx hb hX hbl hbA hI.2.2.2.1 (zin_in q) dL_law_1094 ?_
  obtain ⟨σ132, g132, hf⟩ := zbu_use hf
  refine z_fcallVu (u := wM am cm μ ++ zHo ao co o) (w := wC ad cy) (As := [.int (xs (x4 + 1).toNatClampNeg), .int (xs (x4 + 2).toNatClampNeg)]) (rest := []) hC (zI.al hI) (zKC hI.1) (cX11_out_met st l D ad cy σ (xs (x4 + 1).toNatClampNeg) (xs (x4 + 2).toNatClampNeg) _ g132) (zgV zw87_4 zw87_5 zw87_6 zw1_2 zw87_7) rfl ⟨rfl, rfl⟩ 2 hdX11_out ⟨Nat.le_of_ble_eq_true rfl, Nat.le_of_ble_eq_true rfl⟩ rfl rfl (wC_e0 ad cy σ) rfl hl rfl (Nat.le_of_ble_eq_true rfl) dL_law_1095 ⟨by show cells ≤ 600128; omega, by show slots ≤ 7301064; omega⟩ (fun H locs hI => ?_)
  have hI : zLw st D ad cy am cm ao co μ o σ132 s H locs := zI.ar hI
  refine lv_aload_n hx hb dL_law_1098 rfl (lv_at hl 2 rfl) ?_
  refine lv_aload_n hx hb dL_law_1099 rfl (lv_at hl 4 rfl) ?_
  refine lv_iload hx hb dL_law_1100 (lv_at hl 0 rfl) ?_
  refine lv_iconst (v := 1) hx hb dL_law_1102 (by decide) ?_
  refine lv_iadd hx hb dL_law_1103 ?_
  obtain ⟨q, hf⟩ := zck_use hf
  refine va_sld hx hb hX hbl hbA hI.2.2.2.1 (zin_in q) dL_law_1104 ?_
  refine lv_aload_n hx hb dL_law_1105 rfl (lv_at hl 4 rfl) ?_
  refine lv_iload hx hb dL_law_1106 (lv_at hl 0 rfl) ?_
  refine lv_iconst (v := 2) hx hb dL_law_1108 (by decide) ?_
  refine lv_iadd hx hb dL_law_1109 ?_
  obtain ⟨q, hf⟩ := zck_use hf
  refine va_sld hx hb hX hbl hbA hI.2.2.2.1 (zin_in q) dL_law_1110 ?_
  obtain ⟨μ133, g133, hf⟩ := zbu_use hf
  refine z_fcallVu (u := zHo ao co o ++ wC ad cy σ132) (w := wM am cm) (As := [.int (xs (x4 + 1).toNatClampNeg), .int (xs (x4 + 2).toNatClampNeg)]) (rest := []) hC (zI.swap hI) (zKM hI.1) (cX12_out_met st l D am cm μ (xs (x4 + 1).toNatClampNeg) (xs (x4 + 2).toNatClampNeg) _ g133) (zgV zw87_9 zw87_10 zw87_11 zw1_5 zw87_12) rfl ⟨rfl, rfl⟩ 2 hdX12_out ⟨Nat.le_of_ble_eq_true rfl, Nat.le_of_ble_eq_true rfl⟩ rfl rfl (wM_e0 am cm μ) rfl hl rfl (Nat.le_of_ble_eq_true rfl) dL_law_1111 ⟨by show cells ≤ 600128; omega, by show slots ≤ 7301064; omega⟩ (fun H locs hI => ?_)
  have hI : zLw st D ad cy am cm ao co μ133 o σ132 s H locs := zI.swap hI
  refine lv_goto (tgt := 1418) hx hb dL_law_1114 (by decide) ?_
  obtain ⟨v134, ev134⟩ : ∃ z : Int32, z = x4 + 8 := ⟨_, rfl⟩
  replace hf := zbv_use ev134 hf
  refine lv_iinc (v := v134) (lv' := [(4, .int v134), (3, .ref ao), (2, .ref (am 0)), (1, .ref (ad 0)), (0, .ref b)]) hx hb dL_law_1418 hl (k := 0) rfl (by rw [ev134]; rfl) (by decide) rfl (fun ls hl => ?_)
  refine lv_goto (tgt := 33) hx hb dL_law_1421 (by decide) ?_
  exact hk _ _ _ _ _ _ _ _ _ (by omega) (by omega) hI (lv_sub hl [0, 1, 2, 3, 4] rfl) hf
def fLaw_1117 (xs : Nat → Int32) (L : Nat) (kn : zSt → (Nat → Int64) → zSt → Int32 → Option Int32) (μ : zSt) (o : Nat → Int64) (σ : zSt) (x4 : Int32) : Option Int32 :=
  zck (zin (x4 + 1) L) (zbh (fL_battery o σ (xs (x4 + 1).toNatClampNeg)) (fun o135 σ135 v136 =>
  zck (zin (x4 + 1) L) (zbi (fX12_battery μ (xs (x4 + 1).toNatClampNeg)) (fun μ137 v138 =>
  zbv (x4 + 8) (fun v139 => kn μ137 o135 σ135 v139)))))
set_option maxRecDepth 20000 in
set_option maxHeartbeats 4000000 in
theorem bLaw_1117 {p : Program} {l : Launch} {e : Env} {s : State} {m : MethodId} {below : List Frame} {meth : Method} {c : Code} {st : Nat → Nat} {D : va_G} {b L : Nat} {xs : Nat → Int32} {ad am : Nat → Nat} {cy cm : Nat → ClassId} {ao : Nat} {co : ClassId} (hC : zC p m c cL_law 8 s #[Value.ref b] wzL_law RL meth ret) (hst : l.stackTraces = false) (hX : va_X b L xs s s.heap) (hbl : b < s.heap.size) (hbA : ¬ (fun q : Nat => s.heap.size ≤ q) b) {n : Nat} {kn : zSt → (Nat → Int64) → zSt → Int32 → Option Int32} (hk : ∀ (H : Heap) (locs : List Loc) (μ : zSt) (o : Nat → Int64) (σ : zSt) (ls : Array Slot) (x4 : Int32) (cells slots : Nat), cells + n ≤ 600128 → slots + 6 * n ≤ 7301064 → zLw st D ad cy am cm ao co μ o σ s H locs → lv_has ls 8 [(4, .int x4), (3, .ref ao), (2, .ref (am 0)), (1, .ref (ad 0)), (0, .ref b)] → kn μ o σ x4 = some 1 → W p l e room_1 s m #[Value.ref b] below meth c H locs cells slots (lw_Z below #[Value.ref b] s) (F0 m 33 ls [])) {H : Heap} {locs : List Loc} {μ : zSt} {o : Nat → Int64} {σ : zSt} {ls : Array Slot} {x4 : Int32} {cells slots : Nat} (hc : cells + (n + 1) ≤ 600128) (hs : slots + 6 * (n + 1) ≤ 7301064) (hI : zLw st D ad cy am cm ao co μ o σ s H locs) (hl : lv_has ls 8 [(4, .int x4), (3, .ref ao), (2, .ref (am 0)), (1, .ref (ad 0)), (0, .ref b)]) (hf : fLaw_1117 xs L kn μ o σ x4 = some 1) : W p l e room_1 s m #[Value.ref b] below meth c H locs cells slots (lw_Z below #[Value.ref b] s) (F0 m 1117 ls []) := by
  have hx := hC.1
  have hb := hC.2.1
  unfold fLaw_1117 at hf
  refine lv_aload_n hx hb dL_law_1117 rfl (lv_at hl 3 rfl) ?_
  refine lv_aload_n hx hb dL_law_1118 rfl (lv_at hl 4 rfl) ?_
  refine lv_iload hx hb dL_law_1119 (lv_at hl 0 rfl) ?_
  refine lv_iconst (v := 1) hx hb dL_law_1121 (by decide) ?_
  refine lv_iadd hx hb dL_law_1122 ?_
  obtain ⟨q, hf⟩ := zck_use hf
  refine va_sld hx hb hX hbl hbA hI.2.2.2.1 (zin_in q) dL_law_1123 ?_
  refine lv_aload_n hx hb dL_law_1124 rfl (lv_at hl 1 rfl) ?_
  obtain ⟨o135, σ135, v136, g135, hf⟩ := zbh_use hf
  refine z_fcallH (u := wM am cm μ) (w := fun x : zHs => zHo ao co x.1 ++ wC ad cy x.2) (x := (o, σ)) (As := [.ref (ad 0), .int (xs (x4 + 1).toNatClampNeg), .ref ao]) (rest := []) hC hI (zKH hI.1) (cL_battery_met st l hst D ad cy ao co o σ (xs (x4 + 1).toNatClampNeg) _ g135) (zgS zw87_13 zw87_14 zw1_10 zw87_15) rfl ⟨rfl, rfl⟩ 3 hdL_battery ⟨Nat.le_of_ble_eq_true rfl, Nat.le_of_ble_eq_true rfl⟩ rfl hl rfl (Nat.le_of_ble_eq_true rfl) dL_law_1125 ⟨by show cells + 1 ≤ 600128; omega, by show slots + 6 ≤ 7301064; omega⟩ (fun H locs hI => ?_)
  have hI : zLw st D ad cy am cm ao co μ o135 σ135 s H locs := hI
  refine lv_istore (lv' := [(5, .int v136), (4, .int x4), (3, .ref ao), (2, .ref (am 0)), (1, .ref (ad 0)), (0, .ref b)]) hx hb dL_law_1128 hl (by decide) rfl (fun ls hl => ?_)
  refine lv_aload_n hx hb dL_law_1130 rfl (lv_at hl 3 rfl) ?_
  refine lv_aload_n hx hb dL_law_1131 rfl (lv_at hl 5 rfl) ?_
  refine lv_iload hx hb dL_law_1132 (lv_at hl 1 rfl) ?_
  refine lv_iconst (v := 1) hx hb dL_law_1134 (by decide) ?_
  refine lv_iadd hx hb dL_law_1135 ?_
  obtain ⟨q, hf⟩ := zck_use hf
  refine va_sld hx hb hX hbl hbA hI.2.2.2.1 (zin_in q) dL_law_1136 ?_
  obtain ⟨μ137, v138, g137, hf⟩ := zbi_use hf
  refine z_fcallVi (u := zHo ao co o135 ++ wC ad cy σ135) (w := wM am cm) (As := [.int (xs (x4 + 1).toNatClampNeg)]) (rest := []) hC (zI.swap hI) (zKM hI.1) (cX12_battery_met st l D am cm μ (xs (x4 + 1).toNatClampNeg) _ g137) (zgV zw88_1 zw88_2 zw88_3 zw1_5 zw88_4) rfl ⟨rfl, rfl⟩ 1 hdX12_battery ⟨Nat.le_of_ble_eq_true rfl, Nat.le_of_ble_eq_true rfl⟩ rfl rfl (wM_e0 am cm μ) rfl hl rfl (Nat.le_of_ble_eq_true rfl) dL_law_1137 ⟨by show cells + 1 ≤ 600128; omega, by show slots + 6 ≤ 7301064; omega⟩ (fun H locs hI => ?_)
  have hI : zLw st D ad cy am cm ao co μ137 o135 σ135 s H locs := zI.swap hI
  refine lv_istore (lv' := [(6, .int v138), (5, .int v136), (4, .int x4), (3, .ref ao), (2, .ref (am 0)), (1, .ref (ad 0)), (0, .ref b)]) hx hb dL_law_1140 hl (by decide) rfl (fun ls hl => ?_)
  refine lv_goto (tgt := 1418) hx hb dL_law_1142 (by decide) ?_
  obtain ⟨v139, ev139⟩ : ∃ z : Int32, z = x4 + 8 := ⟨_, rfl⟩
  replace hf := zbv_use ev139 hf
  refine lv_iinc (v := v139) (lv' := [(4, .int v139), (6, .int v138), (5, .int v136), (3, .ref ao), (2, .ref (am 0)), (1, .ref (ad 0)), (0, .ref b)]) hx hb dL_law_1418 hl (k := 2) rfl (by rw [ev139]; rfl) (by decide) rfl (fun ls hl => ?_)
  refine lv_goto (tgt := 33) hx hb dL_law_1421 (by decide) ?_
  exact hk _ _ _ _ _ _ _ _ _ (by omega) (by omega) hI (lv_sub hl [0, 3, 4, 5, 6] rfl) hf
def fLaw_1145 (xs : Nat → Int32) (L : Nat) (kn : zSt → (Nat → Int64) → zSt → Int32 → Option Int32) (μ : zSt) (o : Nat → Int64) (σ : zSt) (x4 : Int32) : Option Int32 :=
  zbu (fX11_wipe σ ) (fun σ140 =>
  zbu (fX12_wipe μ ) (fun μ141 =>
  zbv (x4 + 8) (fun v142 => kn μ141 o σ140 v142)))
set_option maxRecDepth 20000 in
set_option maxHeartbeats 4000000 in
theorem bLaw_1145 {p : Program} {l : Launch} {e : Env} {s : State} {m : MethodId} {below : List Frame} {meth : Method} {c : Code} {st : Nat → Nat} {D : va_G} {b L : Nat} {xs : Nat → Int32} {ad am : Nat → Nat} {cy cm : Nat → ClassId} {ao : Nat} {co : ClassId} (hC : zC p m c cL_law 8 s #[Value.ref b] wzL_law RL meth ret) (hst : l.stackTraces = false) (hX : va_X b L xs s s.heap) (hbl : b < s.heap.size) (hbA : ¬ (fun q : Nat => s.heap.size ≤ q) b) {n : Nat} {kn : zSt → (Nat → Int64) → zSt → Int32 → Option Int32} (hk : ∀ (H : Heap) (locs : List Loc) (μ : zSt) (o : Nat → Int64) (σ : zSt) (ls : Array Slot) (x4 : Int32) (cells slots : Nat), cells + n ≤ 600128 → slots + 6 * n ≤ 7301064 → zLw st D ad cy am cm ao co μ o σ s H locs → lv_has ls 8 [(4, .int x4), (3, .ref ao), (2, .ref (am 0)), (1, .ref (ad 0)), (0, .ref b)] → kn μ o σ x4 = some 1 → W p l e room_1 s m #[Value.ref b] below meth c H locs cells slots (lw_Z below #[Value.ref b] s) (F0 m 33 ls [])) {H : Heap} {locs : List Loc} {μ : zSt} {o : Nat → Int64} {σ : zSt} {ls : Array Slot} {x4 : Int32} {cells slots : Nat} (hc : cells + (n + 1) ≤ 600128) (hs : slots + 6 * (n + 1) ≤ 7301064) (hI : zLw st D ad cy am cm ao co μ o σ s H locs) (hl : lv_has ls 8 [(4, .int x4), (3, .ref ao), (2, .ref (am 0)), (1, .ref (ad 0)), (0, .ref b)]) (hf : fLaw_1145 xs L kn μ o σ x4 = some 1) : W p l e room_1 s m #[Value.ref b] below meth c H locs cells slots (lw_Z below #[Value.ref b] s) (F0 m 1145 ls []) := by
  have hx := hC.1
  have hb := hC.2.1
  unfold fLaw_1145 at hf
  refine lv_aload_n hx hb dL_law_1145 rfl (lv_at hl 3 rfl) ?_
  obtain ⟨σ140, g140, hf⟩ := zbu_use hf
  refine z_fcallVu (u := wM am cm μ ++ zHo ao co o) (w := wC ad cy) (As := []) (rest := []) hC (zI.al hI) (zKC hI.1) (cX11_wipe_met st l D ad cy σ  _ g140) (zgV zw88_6 zw88_7 zw88_8 zw1_2 zw88_9) rfl ⟨rfl, rfl⟩ 0 hdX11_wipe ⟨Nat.le_of_ble_eq_true rfl, Nat.le_of_ble_eq_true rfl⟩ rfl rfl (wC_e0 ad cy σ) rfl hl rfl (Nat.le_of_ble_eq_true rfl) dL_law_1146 ⟨by show cells ≤ 600128; omega, by show slots ≤ 7301064; omega⟩ (fun H locs hI => ?_)
  have hI : zLw st D ad cy am cm ao co μ o σ140 s H locs := zI.ar hI
  refine lv_aload_n hx hb dL_law_1149 rfl (lv_at hl 2 rfl) ?_
  obtain ⟨μ141, g141, hf⟩ := zbu_use hf
  refine z_fcallVu (u := zHo ao co o ++ wC ad cy σ140) (w := wM am cm) (As := []) (rest := []) hC (zI.swap hI) (zKM hI.1) (cX12_wipe_met st l D am cm μ  _ g141) (zgV zw88_14 zw88_15 zw88_16 zw1_5 zw88_17) rfl ⟨rfl, rfl⟩ 0 hdX12_wipe ⟨Nat.le_of_ble_eq_true rfl, Nat.le_of_ble_eq_true rfl⟩ rfl rfl (wM_e0 am cm μ) rfl hl rfl (Nat.le_of_ble_eq_true rfl) dL_law_1150 ⟨by show cells ≤ 600128; omega, by show slots ≤ 7301064; omega⟩ (fun H locs hI => ?_)
  have hI : zLw st D ad cy am cm ao co μ141 o σ140 s H locs := zI.swap hI
  refine lv_goto (tgt := 1418) hx hb dL_law_1153 (by decide) ?_
  obtain ⟨v142, ev142⟩ : ∃ z : Int32, z = x4 + 8 := ⟨_, rfl⟩
  replace hf := zbv_use ev142 hf
  refine lv_iinc (v := v142) (lv' := [(4, .int v142), (3, .ref ao), (2, .ref (am 0)), (1, .ref (ad 0)), (0, .ref b)]) hx hb dL_law_1418 hl (k := 0) rfl (by rw [ev142]; rfl) (by decide) rfl (fun ls hl => ?_)
  refine lv_goto (tgt := 33) hx hb dL_law_1421 (by decide) ?_
  exact hk _ _ _ _ _ _ _ _ _ (by omega) (by omega) hI (lv_sub hl [0, 1, 2, 3, 4] rfl) hf
def fLaw_1156 (xs : Nat → Int32) (L : Nat) (kn : zSt → (Nat → Int64) → zSt → Int32 → Option Int32) (μ : zSt) (o : Nat → Int64) (σ : zSt) (x4 : Int32) : Option Int32 :=
  zck (zin (x4 + 1) L) (zbl (fX11_video σ (xs (x4 + 1).toNatClampNeg)) (fun σ143 v144 =>
  zck (zin (x4 + 1) L) (zbl (fX12_video μ (xs (x4 + 1).toNatClampNeg)) (fun μ145 v146 =>
  zbv (x4 + 8) (fun v147 => kn μ145 o σ143 v147)))))
set_option maxRecDepth 20000 in
set_option maxHeartbeats 4000000 in
theorem bLaw_1156 {p : Program} {l : Launch} {e : Env} {s : State} {m : MethodId} {below : List Frame} {meth : Method} {c : Code} {st : Nat → Nat} {D : va_G} {b L : Nat} {xs : Nat → Int32} {ad am : Nat → Nat} {cy cm : Nat → ClassId} {ao : Nat} {co : ClassId} (hC : zC p m c cL_law 8 s #[Value.ref b] wzL_law RL meth ret) (hst : l.stackTraces = false) (hX : va_X b L xs s s.heap) (hbl : b < s.heap.size) (hbA : ¬ (fun q : Nat => s.heap.size ≤ q) b) {n : Nat} {kn : zSt → (Nat → Int64) → zSt → Int32 → Option Int32} (hk : ∀ (H : Heap) (locs : List Loc) (μ : zSt) (o : Nat → Int64) (σ : zSt) (ls : Array Slot) (x4 : Int32) (cells slots : Nat), cells + n ≤ 600128 → slots + 6 * n ≤ 7301064 → zLw st D ad cy am cm ao co μ o σ s H locs → lv_has ls 8 [(4, .int x4), (3, .ref ao), (2, .ref (am 0)), (1, .ref (ad 0)), (0, .ref b)] → kn μ o σ x4 = some 1 → W p l e room_1 s m #[Value.ref b] below meth c H locs cells slots (lw_Z below #[Value.ref b] s) (F0 m 33 ls [])) {H : Heap} {locs : List Loc} {μ : zSt} {o : Nat → Int64} {σ : zSt} {ls : Array Slot} {x4 : Int32} {cells slots : Nat} (hc : cells + (n + 1) ≤ 600128) (hs : slots + 6 * (n + 1) ≤ 7301064) (hI : zLw st D ad cy am cm ao co μ o σ s H locs) (hl : lv_has ls 8 [(4, .int x4), (3, .ref ao), (2, .ref (am 0)), (1, .ref (ad 0)), (0, .ref b)]) (hf : fLaw_1156 xs L kn μ o σ x4 = some 1) : W p l e room_1 s m #[Value.ref b] below meth c H locs cells slots (lw_Z below #[Value.ref b] s) (F0 m 1156 ls []) := by
  have hx := hC.1
  have hb := hC.2.1
  unfold fLaw_1156 at hf
  refine lv_aload_n hx hb dL_law_1156 rfl (lv_at hl 3 rfl) ?_
  refine lv_aload_n hx hb dL_law_1157 rfl (lv_at hl 4 rfl) ?_
  refine lv_iload hx hb dL_law_1158 (lv_at hl 0 rfl) ?_
  refine lv_iconst (v := 1) hx hb dL_law_1160 (by decide) ?_
  refine lv_iadd hx hb dL_law_1161 ?_
  obtain ⟨q, hf⟩ := zck_use hf
  refine va_sld hx hb hX hbl hbA hI.2.2.2.1 (zin_in q) dL_law_1162 ?_
  obtain ⟨σ143, v144, g143, hf⟩ := zbl_use hf
  refine z_fcallVl (u := wM am cm μ ++ zHo ao co o) (w := wC ad cy) (As := [.int (xs (x4 + 1).toNatClampNeg)]) (rest := []) hC (zI.al hI) (zKC hI.1) (cX11_video_met st l D ad cy σ (xs (x4 + 1).toNatClampNeg) _ g143) (zgV zw88_18 zw88_19 zw88_20 zw1_2 zw88_21) rfl ⟨rfl, rfl⟩ 1 hdX11_video ⟨Nat.le_of_ble_eq_true rfl, Nat.le_of_ble_eq_true rfl⟩ rfl rfl (wC_e0 ad cy σ) rfl hl rfl (Nat.le_of_ble_eq_true rfl) dL_law_1163 ⟨by show cells ≤ 600128; omega, by show slots ≤ 7301064; omega⟩ (fun H locs hI => ?_)
  have hI : zLw st D ad cy am cm ao co μ o σ143 s H locs := zI.ar hI
  refine lv_pop2_2 hx hb dL_law_1166 rfl ?_
  refine lv_aload_n hx hb dL_law_1167 rfl (lv_at hl 2 rfl) ?_
  refine lv_aload_n hx hb dL_law_1168 rfl (lv_at hl 4 rfl) ?_
  refine lv_iload hx hb dL_law_1169 (lv_at hl 0 rfl) ?_
  refine lv_iconst (v := 1) hx hb dL_law_1171 (by decide) ?_
  refine lv_iadd hx hb dL_law_1172 ?_
  obtain ⟨q, hf⟩ := zck_use hf
  refine va_sld hx hb hX hbl hbA hI.2.2.2.1 (zin_in q) dL_law_1173 ?_
  obtain ⟨μ145, v146, g145, hf⟩ := zbl_use hf
  refine z_fcallVl (u := zHo ao co o ++ wC ad cy σ143) (w := wM am cm) (As := [.int (xs (x4 + 1).toNatClampNeg)]) (rest := []) hC (zI.swap hI) (zKM hI.1) (cX12_video_met st l D am cm μ (xs (x4 + 1).toNatClampNeg) _ g145) (zgV zw89_2 zw89_3 zw89_4 zw1_5 zw89_5) rfl ⟨rfl, rfl⟩ 1 hdX12_video ⟨Nat.le_of_ble_eq_true rfl, Nat.le_of_ble_eq_true rfl⟩ rfl rfl (wM_e0 am cm μ) rfl hl rfl (Nat.le_of_ble_eq_true rfl) dL_law_1174 ⟨by show cells ≤ 600128; omega, by show slots ≤ 7301064; omega⟩ (fun H locs hI => ?_)
  have hI : zLw st D ad cy am cm ao co μ145 o σ143 s H locs := zI.swap hI
  refine lv_pop2_2 hx hb dL_law_1177 rfl ?_
  refine lv_goto (tgt := 1418) hx hb dL_law_1178 (by decide) ?_
  obtain ⟨v147, ev147⟩ : ∃ z : Int32, z = x4 + 8 := ⟨_, rfl⟩
  replace hf := zbv_use ev147 hf
  refine lv_iinc (v := v147) (lv' := [(4, .int v147), (3, .ref ao), (2, .ref (am 0)), (1, .ref (ad 0)), (0, .ref b)]) hx hb dL_law_1418 hl (k := 0) rfl (by rw [ev147]; rfl) (by decide) rfl (fun ls hl => ?_)
  refine lv_goto (tgt := 33) hx hb dL_law_1421 (by decide) ?_
  exact hk _ _ _ _ _ _ _ _ _ (by omega) (by omega) hI (lv_sub hl [0, 1, 2, 3, 4] rfl) hf
def fLaw_1181 (xs : Nat → Int32) (L : Nat) (kn : zSt → (Nat → Int64) → zSt → Int32 → Option Int32) (μ : zSt) (o : Nat → Int64) (σ : zSt) (x4 : Int32) : Option Int32 :=
  zck (zin (x4 + 1) L) (zbh (fL_chip o σ (xs (x4 + 1).toNatClampNeg)) (fun o148 σ148 v149 =>
  zck (zin (x4 + 1) L) (zbi (fX12_chip μ (xs (x4 + 1).toNatClampNeg)) (fun μ150 v151 =>
  zbv (x4 + 8) (fun v152 => kn μ150 o148 σ148 v152)))))
set_option maxRecDepth 20000 in
set_option maxHeartbeats 4000000 in
theorem bLaw_1181 {p : Program} {l : Launch} {e : Env} {s : State} {m : MethodId} {below : List Frame} {meth : Method} {c : Code} {st : Nat → Nat} {D : va_G} {b L : Nat} {xs : Nat → Int32} {ad am : Nat → Nat} {cy cm : Nat → ClassId} {ao : Nat} {co : ClassId} (hC : zC p m c cL_law 8 s #[Value.ref b] wzL_law RL meth ret) (hst : l.stackTraces = false) (hX : va_X b L xs s s.heap) (hbl : b < s.heap.size) (hbA : ¬ (fun q : Nat => s.heap.size ≤ q) b) {n : Nat} {kn : zSt → (Nat → Int64) → zSt → Int32 → Option Int32} (hk : ∀ (H : Heap) (locs : List Loc) (μ : zSt) (o : Nat → Int64) (σ : zSt) (ls : Array Slot) (x4 : Int32) (cells slots : Nat), cells + n ≤ 600128 → slots + 6 * n ≤ 7301064 → zLw st D ad cy am cm ao co μ o σ s H locs → lv_has ls 8 [(4, .int x4), (3, .ref ao), (2, .ref (am 0)), (1, .ref (ad 0)), (0, .ref b)] → kn μ o σ x4 = some 1 → W p l e room_1 s m #[Value.ref b] below meth c H locs cells slots (lw_Z below #[Value.ref b] s) (F0 m 33 ls [])) {H : Heap} {locs : List Loc} {μ : zSt} {o : Nat → Int64} {σ : zSt} {ls : Array Slot} {x4 : Int32} {cells slots : Nat} (hc : cells + (n + 1) ≤ 600128) (hs : slots + 6 * (n + 1) ≤ 7301064) (hI : zLw st D ad cy am cm ao co μ o σ s H locs) (hl : lv_has ls 8 [(4, .int x4), (3, .ref ao), (2, .ref (am 0)), (1, .ref (ad 0)), (0, .ref b)]) (hf : fLaw_1181 xs L kn μ o σ x4 = some 1) : W p l e room_1 s m #[Value.ref b] below meth c H locs cells slots (lw_Z below #[Value.ref b] s) (F0 m 1181 ls []) := by
  have hx := hC.1
  have hb := hC.2.1
  unfold fLaw_1181 at hf
  refine lv_aload_n hx hb dL_law_1181 rfl (lv_at hl 3 rfl) ?_
  refine lv_aload_n hx hb dL_law_1182 rfl (lv_at hl 4 rfl) ?_
  refine lv_iload hx hb dL_law_1183 (lv_at hl 0 rfl) ?_
  refine lv_iconst (v := 1) hx hb dL_law_1185 (by decide) ?_
  refine lv_iadd hx hb dL_law_1186 ?_
  obtain ⟨q, hf⟩ := zck_use hf
  refine va_sld hx hb hX hbl hbA hI.2.2.2.1 (zin_in q) dL_law_1187 ?_
  refine lv_aload_n hx hb dL_law_1188 rfl (lv_at hl 1 rfl) ?_
  obtain ⟨o148, σ148, v149, g148, hf⟩ := zbh_use hf
  refine z_fcallH (u := wM am cm μ) (w := fun x : zHs => zHo ao co x.1 ++ wC ad cy x.2) (x := (o, σ)) (As := [.ref (ad 0), .int (xs (x4 + 1).toNatClampNeg), .ref ao]) (rest := []) hC hI (zKH hI.1) (cL_chip_met st l hst D ad cy ao co o σ (xs (x4 + 1).toNatClampNeg) _ g148) (zgS zw89_6 zw89_7 zw1_10 zw89_8) rfl ⟨rfl, rfl⟩ 3 hdL_chip ⟨Nat.le_of_ble_eq_true rfl, Nat.le_of_ble_eq_true rfl⟩ rfl hl rfl (Nat.le_of_ble_eq_true rfl) dL_law_1189 ⟨by show cells + 1 ≤ 600128; omega, by show slots + 6 ≤ 7301064; omega⟩ (fun H locs hI => ?_)
  have hI : zLw st D ad cy am cm ao co μ o148 σ148 s H locs := hI
  refine lv_istore (lv' := [(5, .int v149), (4, .int x4), (3, .ref ao), (2, .ref (am 0)), (1, .ref (ad 0)), (0, .ref b)]) hx hb dL_law_1192 hl (by decide) rfl (fun ls hl => ?_)
  refine lv_aload_n hx hb dL_law_1194 rfl (lv_at hl 3 rfl) ?_
  refine lv_aload_n hx hb dL_law_1195 rfl (lv_at hl 5 rfl) ?_
  refine lv_iload hx hb dL_law_1196 (lv_at hl 1 rfl) ?_
  refine lv_iconst (v := 1) hx hb dL_law_1198 (by decide) ?_
  refine lv_iadd hx hb dL_law_1199 ?_
  obtain ⟨q, hf⟩ := zck_use hf
  refine va_sld hx hb hX hbl hbA hI.2.2.2.1 (zin_in q) dL_law_1200 ?_
  obtain ⟨μ150, v151, g150, hf⟩ := zbi_use hf
  refine z_fcallVi (u := zHo ao co o148 ++ wC ad cy σ148) (w := wM am cm) (As := [.int (xs (x4 + 1).toNatClampNeg)]) (rest := []) hC (zI.swap hI) (zKM hI.1) (cX12_chip_met st l D am cm μ (xs (x4 + 1).toNatClampNeg) _ g150) (zgV zw90_1 zw90_2 zw90_3 zw1_5 zw90_4) rfl ⟨rfl, rfl⟩ 1 hdX12_chip ⟨Nat.le_of_ble_eq_true rfl, Nat.le_of_ble_eq_true rfl⟩ rfl rfl (wM_e0 am cm μ) rfl hl rfl (Nat.le_of_ble_eq_true rfl) dL_law_1201 ⟨by show cells + 1 ≤ 600128; omega, by show slots + 6 ≤ 7301064; omega⟩ (fun H locs hI => ?_)
  have hI : zLw st D ad cy am cm ao co μ150 o148 σ148 s H locs := zI.swap hI
  refine lv_istore (lv' := [(6, .int v151), (5, .int v149), (4, .int x4), (3, .ref ao), (2, .ref (am 0)), (1, .ref (ad 0)), (0, .ref b)]) hx hb dL_law_1204 hl (by decide) rfl (fun ls hl => ?_)
  refine lv_goto (tgt := 1418) hx hb dL_law_1206 (by decide) ?_
  obtain ⟨v152, ev152⟩ : ∃ z : Int32, z = x4 + 8 := ⟨_, rfl⟩
  replace hf := zbv_use ev152 hf
  refine lv_iinc (v := v152) (lv' := [(4, .int v152), (6, .int v151), (5, .int v149), (3, .ref ao), (2, .ref (am 0)), (1, .ref (ad 0)), (0, .ref b)]) hx hb dL_law_1418 hl (k := 2) rfl (by rw [ev152]; rfl) (by decide) rfl (fun ls hl => ?_)
  refine lv_goto (tgt := 33) hx hb dL_law_1421 (by decide) ?_
  exact hk _ _ _ _ _ _ _ _ _ (by omega) (by omega) hI (lv_sub hl [0, 3, 4, 5, 6] rfl) hf
def fLaw_1209 (xs : Nat → Int32) (L : Nat) (kn : zSt → (Nat → Int64) → zSt → Int32 → Option Int32) (μ : zSt) (o : Nat → Int64) (σ : zSt) (x4 : Int32) : Option Int32 :=
  zck (zin (x4 + 1) L) (zck (zin (x4 + 2) L) (zbh (fL_dot o σ (xs (x4 + 1).toNatClampNeg) (xs (x4 + 2).toNatClampNeg)) (fun o153 σ153 v154 =>
  zck (zin (x4 + 1) L) (zck (zin (x4 + 2) L) (zbi (fX12_dot μ (xs (x4 + 1).toNatClampNeg) (xs (x4 + 2).toNatClampNeg)) (fun μ155 v156 =>
  zbv (x4 + 8) (fun v157 => kn μ155 o153 σ153 v157)))))))
set_option maxRecDepth 20000 in
set_option maxHeartbeats 4000000 in
theorem bLaw_1209 {p : Program} {l : Launch} {e : Env} {s : State} {m : MethodId} {below : List Frame} {meth : Method} {c : Code} {st : Nat → Nat} {D : va_G} {b L : Nat} {xs : Nat → Int32} {ad am : Nat → Nat} {cy cm : Nat → ClassId} {ao : Nat} {co : ClassId} (hC : zC p m c cL_law 8 s #[Value.ref b] wzL_law RL meth ret) (hst : l.stackTraces = false) (hX : va_X b L xs s s.heap) (hbl : b < s.heap.size) (hbA : ¬ (fun q : Nat => s.heap.size ≤ q) b) {n : Nat} {kn : zSt → (Nat → Int64) → zSt → Int32 → Option Int32} (hk : ∀ (H : Heap) (locs : List Loc) (μ : zSt) (o : Nat → Int64) (σ : zSt) (ls : Array Slot) (x4 : Int32) (cells slots : Nat), cells + n ≤ 600128 → slots + 6 * n ≤ 7301064 → zLw st D ad cy am cm ao co μ o σ s H locs → lv_has ls 8 [(4, .int x4), (3, .ref ao), (2, .ref (am 0)), (1, .ref (ad 0)), (0, .ref b)] → kn μ o σ x4 = some 1 → W p l e room_1 s m #[Value.ref b] below meth c H locs cells slots (lw_Z below #[Value.ref b] s) (F0 m 33 ls [])) {H : Heap} {locs : List Loc} {μ : zSt} {o : Nat → Int64} {σ : zSt} {ls : Array Slot} {x4 : Int32} {cells slots : Nat} (hc : cells + (n + 1) ≤ 600128) (hs : slots + 6 * (n + 1) ≤ 7301064) (hI : zLw st D ad cy am cm ao co μ o σ s H locs) (hl : lv_has ls 8 [(4, .int x4), (3, .ref ao), (2, .ref (am 0)), (1, .ref (ad 0)), (0, .ref b)]) (hf : fLaw_1209 xs L kn μ o σ x4 = some 1) : W p l e room_1 s m #[Value.ref b] below meth c H locs cells slots (lw_Z below #[Value.ref b] s) (F0 m 1209 ls []) := by
  have hx := hC.1
  have hb := hC.2.1
  unfold fLaw_1209 at hf
  refine lv_aload_n hx hb dL_law_1209 rfl (lv_at hl 3 rfl) ?_
  refine lv_aload_n hx hb dL_law_1210 rfl (lv_at hl 4 rfl) ?_
  refine lv_iload hx hb dL_law_1211 (lv_at hl 0 rfl) ?_
  refine lv_iconst (v := 1) hx hb dL_law_1213 (by decide) ?_
  refine lv_iadd hx hb dL_law_1214 ?_
  obtain ⟨q, hf⟩ := zck_use hf
  refine va_sld hx hb hX hbl hbA hI.2.2.2.1 (zin_in q) dL_law_1215 ?_
  refine lv_aload_n hx hb dL_law_1216 rfl (lv_at hl 4 rfl) ?_
  refine lv_iload hx hb dL_law_1217 (lv_at hl 0 rfl) ?_
  refine lv_iconst (v := 2) hx hb dL_law_1219 (by decide) ?_
  refine lv_iadd hx hb dL_law_1220 ?_
  obtain ⟨q, hf⟩ := zck_use hf
  refine va_sld hx hb hX hbl hbA hI.2.2.2.1 (zin_in q) dL_law_1221 ?_
  refine lv_aload_n hx hb dL_law_1222 rfl (lv_at hl 1 rfl) ?_
  obtain ⟨o153, σ153, v154, g153, hf⟩ := zbh_use hf
  refine z_fcallH (u := wM am cm μ) (w := fun x : zHs => zHo ao co x.1 ++ wC ad cy x.2) (x := (o, σ)) (As := [.ref (ad 0), .int (xs (x4 + 1).toNatClampNeg), .int (xs (x4 + 2).toNatClampNeg), .ref ao]) (rest := []) hC hI (zKH hI.1) (cL_dot_met st l hst D ad cy ao co o σ (xs (x4 + 1).toNatClampNeg) (xs (x4 + 2).toNatClampNeg) _ g153) (zgS zw90_6 zw90_7 zw1_10 zw90_8) rfl ⟨rfl, rfl⟩ 4 hdL_dot ⟨Nat.le_of_ble_eq_true rfl, Nat.le_of_ble_eq_true rfl⟩ rfl hl rfl (Nat.le_of_ble_eq_true rfl) dL_law_1223 ⟨by show cells + 1 ≤ 600128; omega, by show slots + 6 ≤ 7301064; omega⟩ (fun H locs hI => ?_)
  have hI : zLw st D ad cy am cm ao co μ o153 σ153 s H locs := hI
  refine lv_istore (lv' := [(5, .int v154), (4, .int x4), (3, .ref ao), (2, .ref (am 0)), (1, .ref (ad 0)), (0, .ref b)]) hx hb dL_law_1226 hl (by decide) rfl (fun ls hl => ?_)
  refine lv_aload_n hx hb dL_law_1228 rfl (lv_at hl 3 rfl) ?_
  refine lv_aload_n hx hb dL_law_1229 rfl (lv_at hl 5 rfl) ?_
  refine lv_iload hx hb dL_law_1230 (lv_at hl 1 rfl) ?_
  refine lv_iconst (v := 1) hx hb dL_law_1232 (by decide) ?_
  refine lv_iadd hx hb dL_law_1233 ?_
  obtain ⟨q, hf⟩ := zck_use hf
  refine va_sld hx hb hX hbl hbA hI.2.2.2.1 (zin_in q) dL_law_1234 ?_
  refine lv_aload_n hx hb dL_law_1235 rfl (lv_at hl 5 rfl) ?_
  refine lv_iload hx hb dL_law_1236 (lv_at hl 1 rfl) ?_
  refine lv_iconst (v := 2) hx hb dL_law_1238 (by decide) ?_
  refine lv_iadd hx hb dL_law_1239 ?_
  obtain ⟨q, hf⟩ := zck_use hf
  refine va_sld hx hb hX hbl hbA hI.2.2.2.1 (zin_in q) dL_law_1240 ?_
  obtain ⟨μ155, v156, g155, hf⟩ := zbi_use hf
  refine z_fcallVi (u := zHo ao co o153 ++ wC ad cy σ153) (w := wM am cm) (As := [.int (xs (x4 + 1).toNatClampNeg), .int (xs (x4 + 2).toNatClampNeg)]) (rest := []) hC (zI.swap hI) (zKM hI.1) (cX12_dot_met st l D am cm μ (xs (x4 + 1).toNatClampNeg) (xs (x4 + 2).toNatClampNeg) _ g155) (zgV zw91_5 zw91_6 zw91_7 zw1_5 zw91_8) rfl ⟨rfl, rfl⟩ 2 hdX12_dot ⟨Nat.le_of_ble_eq_true rfl, Nat.le_of_ble_eq_true rfl⟩ rfl rfl (wM_e0 am cm μ) rfl hl rfl (Nat.le_of_ble_eq_true rfl) dL_law_1241 ⟨by show cells + 1 ≤ 600128; omega, by show slots + 6 ≤ 7301064; omega⟩ (fun H locs hI => ?_)
  have hI : zLw st D ad cy am cm ao co μ155 o153 σ153 s H locs := zI.swap hI
  refine lv_istore (lv' := [(6, .int v156), (5, .int v154), (4, .int x4), (3, .ref ao), (2, .ref (am 0)), (1, .ref (ad 0)), (0, .ref b)]) hx hb dL_law_1244 hl (by decide) rfl (fun ls hl => ?_)
  refine lv_goto (tgt := 1418) hx hb dL_law_1246 (by decide) ?_
  obtain ⟨v157, ev157⟩ : ∃ z : Int32, z = x4 + 8 := ⟨_, rfl⟩
  replace hf := zbv_use ev157 hf
  refine lv_iinc (v := v157) (lv' := [(4, .int v157), (6, .int v156), (5, .int v154), (3, .ref ao), (2, .ref (am 0)), (1, .ref (ad 0)), (0, .ref b)]) hx hb dL_law_1418 hl (k := 2) rfl (by rw [ev157]; rfl) (by decide) rfl (fun ls hl => ?_)
  refine lv_goto (tgt := 33) hx hb dL_law_1421 (by decide) ?_
  exact hk _ _ _ _ _ _ _ _ _ (by omega) (by omega) hI (lv_sub hl [0, 3, 4, 5, 6] rfl) hf
