def fLaw_904 (xs : Nat → Int32) (L : Nat) (kn : zSt → (Nat → Int64) → zSt → Int32 → Option Int32) (μ : zSt) (o : Nat → Int64) (σ : zSt) (x4 : Int32) : Option Int32 :=
  zck (zin (x4 + 1) L) (zbh (fL_register o σ (xs (x4 + 1).toNatClampNeg)) (fun o107 σ107 v108 =>
  zck (zin (x4 + 1) L) (zbi (fX12_register μ (xs (x4 + 1).toNatClampNeg)) (fun μ109 v110 =>
  zbv (x4 + 8) (fun v111 => kn μ109 o107 σ107 v111)))))
set_option maxRecDepth 20000 in
set_option maxHeartbeats 4000000 in
theorem bLaw_904 {p : Program} {l : Launch} {e : Env} {s : State} {m : MethodId} {below : List Frame} {meth : Method} {c : Code} {st : Nat → Nat} {D : va_G} {b L : Nat} {xs : Nat → Int32} {ad am : Nat → Nat} {cy cm : Nat → ClassId} {ao : Nat} {co : ClassId} (hC : zC p m c cL_law 8 s #[Value.ref b] wzL_law RL meth ret) (hst : l.stackTraces = false) (hX : va_X b L xs s s.heap) (hbl : b < s.heap.size) (hbA : ¬ (fun q : Nat => s.heap.size ≤ q) b) {n : Nat} {kn : zSt → (Nat → Int64) → zSt → Int32 → Option Int32} (hk : ∀ (H : Heap) (locs : List Loc) (μ : zSt) (o : Nat → Int64) (σ : zSt) (ls : Array Slot) (x4 : Int32) (cells slots : Nat), cells + n ≤ 600128 → slots + 6 * n ≤ 7301064 → zLw st D ad cy am cm ao co μ o σ s H locs → lv_has ls 8 [(4, .int x4), (3, .ref ao), (2, .ref (am 0)), (1, .ref (ad 0)), (0, .ref b)] → kn μ o σ x4 = some 1 → W p l e room_1 s m #[Value.ref b] below meth c H locs cells slots (lw_Z below #[Value.ref b] s) (F0 m 33 ls [])) {H : Heap} {locs : List Loc} {μ : zSt} {o : Nat → Int64} {σ : zSt} {ls : Array Slot} {x4 : Int32} {cells slots : Nat} (hc : cells + (n + 1) ≤ 600128) (hs : slots + 6 * (n + 1) ≤ 7301064) (hI : zLw st D ad cy am cm ao co μ o σ s H locs) (hl : lv_has ls 8 [(4, .int x4), (3, .ref ao), (2, .ref (am 0)), (1, .ref (ad 0)), (0, .ref b)]) (hf : fLaw_904 xs L kn μ o σ x4 = some 1) : W p l e room_1 s m #[Value.ref b] below meth c H locs cells slots (lw_Z below #[Value.ref b] s) (F0 m 904 ls []) := by
  have hx := hC.1
  have hb := hC.2.1
  unfold fLaw_904 at hf
  refine lv_aload_n hx hb dL_law_904 rfl (lv_at hl 3 rfl) ?_
  refine lv_aload_n hx hb dL_law_905 rfl (lv_at hl 4 rfl) ?_
  refine lv_iload hx hb dL_law_906 (lv_at hl 0 rfl) ?_
  refine lv_iconst (v := 1) hx hb dL_law_908 (by decide) ?_
  refine lv_iadd hx hb dL_law_909 ?_
  obtain ⟨q, hf⟩ := zck_use hf
  refine va_sld hx hb hX hbl hbA hI.2.2.2.1 (zin_in q) dL_law_910 ?_
  refine lv_aload_n hx hb dL_law_911 rfl (lv_at hl 1 rfl) ?_
  obtain ⟨o107, σ107, v108, g107, hf⟩ := zbh_use hf
  refine z_fcallH (u := wM am cm μ) (w := fun x : zHs => zHo ao co x.1 ++ wC ad cy x.2) (x := (o, σ)) (As := [.ref (ad 0), .int (xs (x4 + 1).toNatClampNeg), .ref ao]) (rest := []) hC hI (zKH hI.1) (cL_register_met st l hst D ad cy ao co o σ (xs (x4 + 1).toNatClampNeg) _ g107) (zgS zw84_16 zw84_17 zw1_10 zw84_18) rfl ⟨rfl, rfl⟩ 3 hdL_register ⟨Nat.le_of_ble_eq_true rfl, Nat.le_of_ble_eq_true rfl⟩ rfl hl rfl (Nat.le_of_ble_eq_true rfl) dL_law_912 ⟨by show cells + 1 ≤ 600128; omega, by show slots + 6 ≤ 7301064; omega⟩ (fun H locs hI => ?_)
  have hI : zLw st D ad cy am cm ao co μ o107 σ107 s H locs := hI
  refine lv_istore (lv' := [(5, .int v108), (4, .int x4), (3, .ref ao), (2, .ref (am 0)), (1, .ref (ad 0)), (0, .ref b)]) hx hb dL_law_915 hl (by decide) rfl (fun ls hl => ?_)
  refine lv_aload_n hx hb dL_law_917 rfl (lv_at hl 3 rfl) ?_
  refine lv_aload_n hx hb dL_law_918 rfl (lv_at hl 5 rfl) ?_
  refine lv_iload hx hb dL_law_919 (lv_at hl 1 rfl) ?_
  refine lv_iconst (v := 1) hx hb dL_law_921 (by decide) ?_
  refine lv_iadd hx hb dL_law_922 ?_
  obtain ⟨q, hf⟩ := zck_use hf
  refine va_sld hx hb hX hbl hbA hI.2.2.2.1 (zin_in q) dL_law_923 ?_
  obtain ⟨μ109, v110, g109, hf⟩ := zbi_use hf
  refine z_fcallVi (u := zHo ao co o107 ++ wC ad cy σ107) (w := wM am cm) (As := [.int (xs (x4 + 1).toNatClampNeg)]) (rest := []) hC (zI.swap hI) (zKM hI.1) (cX12_register_met st l D am cm μ (xs (x4 + 1).toNatClampNeg) _ g109) (zgV zw84_23 zw85_0 zw85_1 zw1_5 zw85_2) rfl ⟨rfl, rfl⟩ 1 hdX12_register ⟨Nat.le_of_ble_eq_true rfl, Nat.le_of_ble_eq_true rfl⟩ rfl rfl (wM_e0 am cm μ) rfl hl rfl (Nat.le_of_ble_eq_true rfl) dL_law_924 ⟨by show cells + 1 ≤ 600128; omega, by show slots + 6 ≤ 7301064; omega⟩ (fun H locs hI => ?_)
  have hI : zLw st D ad cy am cm ao co μ109 o107 σ107 s H locs := zI.swap hI
  refine lv_istore (lv' := [(6, .int v110), (5, .int v108), (4, .int x4), (3, .ref ao), (2, .ref (am 0)), (1, .ref (ad 0)), (0, .ref b)]) hx hb dL_law_927 hl (by decide) rfl (fun ls hl => ?_)
  refine lv_goto (tgt := 1390) hx hb dL_law_929 (by decide) ?_
  obtain ⟨v111, ev111⟩ : ∃ z : Int32, z = x4 + 8 := ⟨_, rfl⟩
  replace hf := zbv_use ev111 hf
  refine lv_iinc (v := v111) (lv' := [(4, .int v111), (6, .int v110), (5, .int v108), (3, .ref ao), (2, .ref (am 0)), (1, .ref (ad 0)), (0, .ref b)]) hx hb dL_law_1390 hl (k := 2) rfl (by rw [ev111]; rfl) (by decide) rfl (fun ls hl => ?_)
  refine lv_goto (tgt := 33) hx hb dL_law_1393 (by decide) ?_
  exact hk _ _ _ _ _ _ _ _ _ (by omega) (by omega) hI (lv_sub hl [0, 3, 4, 5, 6] rfl) hf
def fLaw_932 (xs : Nat → Int32) (L : Nat) (kn : zSt → (Nat → Int64) → zSt → Int32 → Option Int32) (μ : zSt) (o : Nat → Int64) (σ : zSt) (x4 : Int32) : Option Int32 :=
  zck (zin (x4 + 1) L) (zck (zin (x4 + 2) L) (zbi (fL_set σ (xs (x4 + 1).toNatClampNeg) (xs (x4 + 2).toNatClampNeg)) (fun σ112 v113 =>
  zck (zin (x4 + 1) L) (zck (zin (x4 + 2) L) (zbu (fX12_set μ (xs (x4 + 1).toNatClampNeg) (xs (x4 + 2).toNatClampNeg)) (fun μ114 =>
  zbv (x4 + 8) (fun v115 => kn μ114 o σ112 v115)))))))
set_option maxRecDepth 20000 in
set_option maxHeartbeats 4000000 in
theorem bLaw_932 {p : Program} {l : Launch} {e : Env} {s : State} {m : MethodId} {below : List Frame} {meth : Method} {c : Code} {st : Nat → Nat} {D : va_G} {b L : Nat} {xs : Nat → Int32} {ad am : Nat → Nat} {cy cm : Nat → ClassId} {ao : Nat} {co : ClassId} (hC : zC p m c cL_law 8 s #[Value.ref b] wzL_law RL meth ret) (hst : l.stackTraces = false) (hX : va_X b L xs s s.heap) (hbl : b < s.heap.size) (hbA : ¬ (fun q : Nat => s.heap.size ≤ q) b) {n : Nat} {kn : zSt → (Nat → Int64) → zSt → Int32 → Option Int32} (hk : ∀ (H : Heap) (locs : List Loc) (μ : zSt) (o : Nat → Int64) (σ : zSt) (ls : Array Slot) (x4 : Int32) (cells slots : Nat), cells + n ≤ 600128 → slots + 6 * n ≤ 7301064 → zLw st D ad cy am cm ao co μ o σ s H locs → lv_has ls 8 [(4, .int x4), (3, .ref ao), (2, .ref (am 0)), (1, .ref (ad 0)), (0, .ref b)] → kn μ o σ x4 = some 1 → W p l e room_1 s m #[Value.ref b] below meth c H locs cells slots (lw_Z below #[Value.ref b] s) (F0 m 33 ls [])) {H : Heap} {locs : List Loc} {μ : zSt} {o : Nat → Int64} {σ : zSt} {ls : Array Slot} {x4 : Int32} {cells slots : Nat} (hc : cells + (n + 1) ≤ 600128) (hs : slots + 6 * (n + 1) ≤ 7301064) (hI : zLw st D ad cy am cm ao co μ o σ s H locs) (hl : lv_has ls 8 [(4, .int x4), (3, .ref ao), (2, .ref (am 0)), (1, .ref (ad 0)), (0, .ref b)]) (hf : fLaw_932 xs L kn μ o σ x4 = some 1) : W p l e room_1 s m #[Value.ref b] below meth c H locs cells slots (lw_Z below #[Value.ref b] s) (F0 m 932 ls []) := by
  have hx := hC.1
  have hb := hC.2.1
  unfold fLaw_932 at hf
  refine lv_aload_n hx hb dL_law_932 rfl (lv_at hl 3 rfl) ?_
  refine lv_aload_n hx hb dL_law_933 rfl (lv_at hl 4 rfl) ?_
  refine lv_iload hx hb dL_law_934 (lv_at hl 0 rfl) ?_
  refine lv_iconst (v := 1) hx hb dL_law_936 (by decide) ?_
  refine lv_iadd hx hb dL_law_937 ?_
  obtain ⟨q, hf⟩ := zck_use hf
  refine va_sld hx hb hX hbl hbA hI.2.2.2.1 (zin_in q) dL_law_938 ?_
  refine lv_aload_n hx hb dL_law_939 rfl (lv_at hl 4 rfl) ?_
  refine lv_iload hx hb dL_law_940 (lv_at hl 0 rfl) ?_
  refine lv_iconst (v := 2) hx hb dL_law_942 (by decide) ?_
  refine lv_iadd hx hb dL_law_943 ?_
  obtain ⟨q, hf⟩ := zck_use hf
  refine va_sld hx hb hX hbl hbA hI.2.2.2.1 (zin_in q) dL_law_944 ?_
  obtain ⟨σ112, v113, g112, hf⟩ := zbi_use hf
  refine z_fcallH (u := wM am cm μ ++ zHo ao co o) (w := wC ad cy) (x := σ) (As := [.ref (ad 0), .int (xs (x4 + 1).toNatClampNeg), .int (xs (x4 + 2).toNatClampNeg)]) (rest := []) hC (zI.al hI) (zKC hI.1) (cL_set_met st l hst D ad cy σ (xs (x4 + 1).toNatClampNeg) (xs (x4 + 2).toNatClampNeg) _ g112) (zgS zw85_4 zw85_5 zw1_10 zw85_6) rfl ⟨rfl, rfl⟩ 3 hdL_set ⟨Nat.le_of_ble_eq_true rfl, Nat.le_of_ble_eq_true rfl⟩ rfl hl rfl (Nat.le_of_ble_eq_true rfl) dL_law_945 ⟨by show cells + 1 ≤ 600128; omega, by show slots + 6 ≤ 7301064; omega⟩ (fun H locs hI => ?_)
  have hI : zLw st D ad cy am cm ao co μ o σ112 s H locs := zI.ar hI
  refine lv_istore (lv' := [(5, .int v113), (4, .int x4), (3, .ref ao), (2, .ref (am 0)), (1, .ref (ad 0)), (0, .ref b)]) hx hb dL_law_948 hl (by decide) rfl (fun ls hl => ?_)
  refine lv_aload_n hx hb dL_law_950 rfl (lv_at hl 3 rfl) ?_
  refine lv_aload_n hx hb dL_law_951 rfl (lv_at hl 5 rfl) ?_
  refine lv_iload hx hb dL_law_952 (lv_at hl 1 rfl) ?_
  refine lv_iconst (v := 1) hx hb dL_law_954 (by decide) ?_
  refine lv_iadd hx hb dL_law_955 ?_
  obtain ⟨q, hf⟩ := zck_use hf
  refine va_sld hx hb hX hbl hbA hI.2.2.2.1 (zin_in q) dL_law_956 ?_
  refine lv_aload_n hx hb dL_law_957 rfl (lv_at hl 5 rfl) ?_
  refine lv_iload hx hb dL_law_958 (lv_at hl 1 rfl) ?_
  refine lv_iconst (v := 2) hx hb dL_law_960 (by decide) ?_
  refine lv_iadd hx hb dL_law_961 ?_
  obtain ⟨q, hf⟩ := zck_use hf
  refine va_sld hx hb hX hbl hbA hI.2.2.2.1 (zin_in q) dL_law_962 ?_
  obtain ⟨μ114, g114, hf⟩ := zbu_use hf
  refine z_fcallVu (u := zHo ao co o ++ wC ad cy σ112) (w := wM am cm) (As := [.int (xs (x4 + 1).toNatClampNeg), .int (xs (x4 + 2).toNatClampNeg)]) (rest := []) hC (zI.swap hI) (zKM hI.1) (cX12_set_met st l D am cm μ (xs (x4 + 1).toNatClampNeg) (xs (x4 + 2).toNatClampNeg) _ g114) (zgV zw85_16 zw85_17 zw85_18 zw1_5 zw85_19) rfl ⟨rfl, rfl⟩ 2 hdX12_set ⟨Nat.le_of_ble_eq_true rfl, Nat.le_of_ble_eq_true rfl⟩ rfl rfl (wM_e0 am cm μ) rfl hl rfl (Nat.le_of_ble_eq_true rfl) dL_law_963 ⟨by show cells + 1 ≤ 600128; omega, by show slots + 6 ≤ 7301064; omega⟩ (fun H locs hI => ?_)
  have hI : zLw st D ad cy am cm ao co μ114 o σ112 s H locs := zI.swap hI
  refine lv_goto (tgt := 1390) hx hb dL_law_966 (by decide) ?_
  obtain ⟨v115, ev115⟩ : ∃ z : Int32, z = x4 + 8 := ⟨_, rfl⟩
  replace hf := zbv_use ev115 hf
  refine lv_iinc (v := v115) (lv' := [(4, .int v115), (5, .int v113), (3, .ref ao), (2, .ref (am 0)), (1, .ref (ad 0)), (0, .ref b)]) hx hb dL_law_1390 hl (k := 1) rfl (by rw [ev115]; rfl) (by decide) rfl (fun ls hl => ?_)
  refine lv_goto (tgt := 33) hx hb dL_law_1393 (by decide) ?_
  exact hk _ _ _ _ _ _ _ _ _ (by omega) (by omega) hI (lv_sub hl [0, 2, 3, 4, 5] rfl) hf
def fLaw_969 (xs : Nat → Int32) (L : Nat) (kn : zSt → (Nat → Int64) → zSt → Int32 → Option Int32) (μ : zSt) (o : Nat → Int64) (σ : zSt) (x4 : Int32) : Option Int32 :=
  zck (zin (x4 + 1) L) (zbi (fX11_peek σ (xs (x4 + 1).toNatClampNeg)) (fun σ116 v117 =>
  zck (zin (x4 + 1) L) (zbi (fX12_peek μ (xs (x4 + 1).toNatClampNeg)) (fun μ118 v119 =>
  zbv (x4 + 8) (fun v120 => kn μ118 o σ116 v120)))))
set_option maxRecDepth 20000 in
set_option maxHeartbeats 4000000 in
theorem bLaw_969 {p : Program} {l : Launch} {e : Env} {s : State} {m : MethodId} {below : List Frame} {meth : Method} {c : Code} {st : Nat → Nat} {D : va_G} {b L : Nat} {xs : Nat → Int32} {ad am : Nat → Nat} {cy cm : Nat → ClassId} {ao : Nat} {co : ClassId} (hC : zC p m c cL_law 8 s #[Value.ref b] wzL_law RL meth ret) (hst : l.stackTraces = false) (hX : va_X b L xs s s.heap) (hbl : b < s.heap.size) (hbA : ¬ (fun q : Nat => s.heap.size ≤ q) b) {n : Nat} {kn : zSt → (Nat → Int64) → zSt → Int32 → Option Int32} (hk : ∀ (H : Heap) (locs : List Loc) (μ : zSt) (o : Nat → Int64) (σ : zSt) (ls : Array Slot) (x4 : Int32) (cells slots : Nat), cells + n ≤ 600128 → slots + 6 * n ≤ 7301064 → zLw st D ad cy am cm ao co μ o σ s H locs → lv_has ls 8 [(4, .int x4), (3, .ref ao), (2, .ref (am 0)), (1, .ref (ad 0)), (0, .ref b)] → kn μ o σ x4 = some 1 → W p l e room_1 s m #[Value.ref b] below meth c H locs cells slots (lw_Z below #[Value.ref b] s) (F0 m 33 ls [])) {H : Heap} {locs : List Loc} {μ : zSt} {o : Nat → Int64} {σ : zSt} {ls : Array Slot} {x4 : Int32} {cells slots : Nat} (hc : cells + (n + 1) ≤ 600128) (hs : slots + 6 * (n + 1) ≤ 7301064) (hI : zLw st D ad cy am cm ao co μ o σ s H locs) (hl : lv_has ls 8 [(4, .int x4), (3, .ref ao), (2, .ref (am 0)), (1, .ref (ad 0)), (0, .ref b)]) (hf : fLaw_969 xs L kn μ o σ x4 = some 1) : W p l e room_1 s m #[Value.ref b] below meth c H locs cells slots (lw_Z below #[Value.ref b] s) (F0 m 969 ls []) := by
  have hx := hC.1
  have hb := hC.2.1
  unfold fLaw_969 at hf
  refine lv_aload_n hx hb dL_law_969 rfl (lv_at hl 3 rfl) ?_
  refine lv_aload_n hx hb dL_law_970 rfl (lv_at hl 4 rfl) ?_
  refine lv_iload hx hb dL_law_971 (lv_at hl 0 rfl) ?_
  refine lv_iconst (v := 1) hx hb dL_law_973 (by decide) ?_
  refine lv_iadd hx hb dL_law_974 ?_
  obtain ⟨q, hf⟩ := zck_use hf
  refine va_sld hx hb hX hbl hbA hI.2.2.2.1 (zin_in q) dL_law_975 ?_
  obtain ⟨σ116, v117, g116, hf⟩ := zbi_use hf
  refine z_fcallVi (u := wM am cm μ ++ zHo ao co o) (w := wC ad cy) (As := [.int (xs (x4 + 1).toNatClampNeg)]) (rest := []) hC (zI.al hI) (zKC hI.1) (cX11_peek_met st l D ad cy σ (xs (x4 + 1).toNatClampNeg) _ g116) (zgV zw85_21 zw85_22 zw85_23 zw1_2 zw86_0) rfl ⟨rfl, rfl⟩ 1 hdX11_peek ⟨Nat.le_of_ble_eq_true rfl, Nat.le_of_ble_eq_true rfl⟩ rfl rfl (wC_e0 ad cy σ) rfl hl rfl (Nat.le_of_ble_eq_true rfl) dL_law_976 ⟨by show cells ≤ 600128; omega, by show slots ≤ 7301064; omega⟩ (fun H locs hI => ?_)
  have hI : zLw st D ad cy am cm ao co μ o σ116 s H locs := zI.ar hI
  refine lv_pop hx hb dL_law_979 rfl ?_
  refine lv_aload_n hx hb dL_law_980 rfl (lv_at hl 2 rfl) ?_
  refine lv_aload_n hx hb dL_law_981 rfl (lv_at hl 4 rfl) ?_
  refine lv_iload hx hb dL_law_982 (lv_at hl 0 rfl) ?_
  refine lv_iconst (v := 1) hx hb dL_law_984 (by decide) ?_
  refine lv_iadd hx hb dL_law_985 ?_
  obtain ⟨q, hf⟩ := zck_use hf
  refine va_sld hx hb hX hbl hbA hI.2.2.2.1 (zin_in q) dL_law_986 ?_
  obtain ⟨μ118, v119, g118, hf⟩ := zbi_use hf
  refine z_fcallVi (u := zHo ao co o ++ wC ad cy σ116) (w := wM am cm) (As := [.int (xs (x4 + 1).toNatClampNeg)]) (rest := []) hC (zI.swap hI) (zKM hI.1) (cX12_peek_met st l D am cm μ (xs (x4 + 1).toNatClampNeg) _ g118) (zgV zw86_2 zw86_3 zw86_4 zw1_5 zw86_5) rfl ⟨rfl, rfl⟩ 1 hdX12_peek ⟨Nat.le_of_ble_eq_true rfl, Nat.le_of_ble_eq_true rfl⟩ rfl rfl (wM_e0 am cm μ) rfl hl rfl (Nat.le_of_ble_eq_true rfl) dL_law_987 ⟨by show cells ≤ 600128; omega, by show slots ≤ 7301064; omega⟩ (fun H locs hI => ?_)
  have hI : zLw st D ad cy am cm ao co μ118 o σ116 s H locs := zI.swap hI
  refine lv_pop hx hb dL_law_990 rfl ?_
  refine lv_goto (tgt := 1390) hx hb dL_law_991 (by decide) ?_
  obtain ⟨v120, ev120⟩ : ∃ z : Int32, z = x4 + 8 := ⟨_, rfl⟩
  replace hf := zbv_use ev120 hf
  refine lv_iinc (v := v120) (lv' := [(4, .int v120), (3, .ref ao), (2, .ref (am 0)), (1, .ref (ad 0)), (0, .ref b)]) hx hb dL_law_1390 hl (k := 0) rfl (by rw [ev120]; rfl) (by decide) rfl (fun ls hl => ?_)
  refine lv_goto (tgt := 33) hx hb dL_law_1393 (by decide) ?_
  exact hk _ _ _ _ _ _ _ _ _ (by omega) (by omega) hI (lv_sub hl [0, 1, 2, 3, 4] rfl) hf
def fLaw_994 (xs : Nat → Int32) (L : Nat) (kn : zSt → (Nat → Int64) → zSt → Int32 → Option Int32) (μ : zSt) (o : Nat → Int64) (σ : zSt) (x4 : Int32) : Option Int32 :=
  zck (zin (x4 + 1) L) (zck (zin (x4 + 2) L) (zbu (fX11_poke σ (xs (x4 + 1).toNatClampNeg) (xs (x4 + 2).toNatClampNeg)) (fun σ121 =>
  zck (zin (x4 + 1) L) (zck (zin (x4 + 2) L) (zbu (fX12_poke μ (xs (x4 + 1).toNatClampNeg) (xs (x4 + 2).toNatClampNeg)) (fun μ122 =>
  zbv (x4 + 8) (fun v123 => kn μ122 o σ121 v123)))))))
set_option maxRecDepth 20000 in
set_option maxHeartbeats 4000000 in
theorem bLaw_994 {p : Program} {l : Launch} {e : Env} {s : State} {m : MethodId} {below : List Frame} {meth : Method} {c : Code} {st : Nat → Nat} {D : va_G} {b L : Nat} {xs : Nat → Int32} {ad am : Nat → Nat} {cy cm : Nat → ClassId} {ao : Nat} {co : ClassId} (hC : zC p m c cL_law 8 s #[Value.ref b] wzL_law RL meth ret) (hst : l.stackTraces = false) (hX : va_X b L xs s s.heap) (hbl : b < s.heap.size) (hbA : ¬ (fun q : Nat => s.heap.size ≤ q) b) {n : Nat} {kn : zSt → (Nat → Int64) → zSt → Int32 → Option Int32} (hk : ∀ (H : Heap) (locs : List Loc) (μ : zSt) (o : Nat → Int64) (σ : zSt) (ls : Array Slot) (x4 : Int32) (cells slots : Nat), cells + n ≤ 600128 → slots + 6 * n ≤ 7301064 → zLw st D ad cy am cm ao co μ o σ s H locs → lv_has ls 8 [(4, .int x4), (3, .ref ao), (2, .ref (am 0)), (1, .ref (ad 0)), (0, .ref b)] → kn μ o σ x4 = some 1 → W p l e room_1 s m #[Value.ref b] below meth c H locs cells slots (lw_Z below #[Value.ref b] s) (F0 m 33 ls [])) {H : Heap} {locs : List Loc} {μ : zSt} {o : Nat → Int64} {σ : zSt} {ls : Array Slot} {x4 : Int32} {cells slots : Nat} (hc : cells + (n + 1) ≤ 600128) (hs : slots + 6 * (n + 1) ≤ 7301064) (hI : zLw st D ad cy am cm ao co μ o σ s H locs) (hl : lv_has ls 8 [(4, .int x4), (3, .ref ao), (2, .ref (am 0)), (1, .ref (ad 0)), (0, .ref b)]) (hf : fLaw_994 xs L kn μ o σ x4 = some 1) : W p l e room_1 s m #[Value.ref b] below meth c H locs cells slots (lw_Z below #[Value.ref b] s) (F0 m 994 ls []) := by
  have hx := hC.1
  have hb := hC.2.1
  unfold fLaw_994 at hf
  refine lv_aload_n hx hb dL_law_994 rfl (lv_at hl 3 rfl) ?_
  refine lv_aload_n hx hb dL_law_995 rfl (lv_at hl 4 rfl) ?_
  refine lv_iload hx hb dL_law_996 (lv_at hl 0 rfl) ?_
  refine lv_iconst (v := 1) hx hb dL_law_998 (by decide) ?_
  refine lv_iadd hx hb dL_law_999 ?_
  obtain ⟨q, hf⟩ := zck_use hf
  refine va_sld hx hb hX hbl hbA hI.2.2.2.1 (zin_in q) dL_law_1000 ?_
  refine lv_aload_n hx hb dL_law_1001 rfl (lv_at hl 4 rfl) ?_
  refine lv_iload hx hb dL_law_1002 (lv_at hl 0 rfl) ?_
  refine lv_iconst (v := 2) hx hb dL_law_1004 (by decide) ?_
  refine lv_iadd hx hb dL_law_1005 ?_
  obtain ⟨q, hf⟩ := zck_use hf
  refine va_sld hx hb hX hbl hbA hI.2.2.2.1 (zin_in q) dL_law_1006 ?_
  obtain ⟨σ121, g121, hf⟩ := zbu_use hf
  refine z_fcallVu (u := wM am cm μ ++ zHo ao co o) (w := wC ad cy) (As := [.int (xs (x4 + 1).toNatClampNeg), .int (xs (x4 + 2).toNatClampNeg)]) (rest := []) hC (zI.al hI) (zKC hI.1) (cX11_poke_met st l D ad cy σ (xs (x4 + 1).toNatClampNeg) (xs (x4 + 2).toNatClampNeg) _ g121) (zgV zw86_6 zw86_7 zw86_8 zw1_2 zw86_9) rfl ⟨rfl, rfl⟩ 2 hdX11_poke ⟨Nat.le_of_ble_eq_true rfl, Nat.le_of_ble_eq_true rfl⟩ rfl rfl (wC_e0 ad cy σ) rfl hl rfl (Nat.le_of_ble_eq_true rfl) dL_law_1007 ⟨by show cells ≤ 600128; omega, by show slots ≤ 7301064; omega⟩ (fun H locs hI => ?_)
  have hI : zLw st D ad cy am cm ao co μ o σ121 s H locs := zI.ar hI
  refine lv_aload_n hx hb dL_law_1010 rfl (lv_at hl 2 rfl) ?_
  refine lv_aload_n hx hb dL_law_1011 rfl (lv_at hl 4 rfl) ?_
  refine lv_iload hx hb dL_law_1012 (lv_at hl 0 rfl) ?_
  refine lv_iconst (v := 1) hx hb dL_law_1014 (by decide) ?_
  refine lv_iadd hx hb dL_law_1015 ?_
  obtain ⟨q, hf⟩ := zck_use hf
  refine va_sld hx hb hX hbl hbA hI.2.2.2.1 (zin_in q) dL_law_1016 ?_
  refine lv_aload_n hx hb dL_law_1017 rfl (lv_at hl 4 rfl) ?_
  refine lv_iload hx hb dL_law_1018 (lv_at hl 0 rfl) ?_
  refine lv_iconst (v := 2) hx hb dL_law_1020 (by decide) ?_
  refine lv_iadd hx hb dL_law_1021 ?_
  obtain ⟨q, hf⟩ := zck_use hf
  refine va_sld hx hb hX hbl hbA hI.2.2.2.1 (zin_in q) dL_law_1022 ?_
  obtain ⟨μ122, g122, hf⟩ := zbu_use hf
  refine z_fcallVu (u := zHo ao co o ++ wC ad cy σ121) (w := wM am cm) (As := [.int (xs (x4 + 1).toNatClampNeg), .int (xs (x4 + 2).toNatClampNeg)]) (rest := []) hC (zI.swap hI) (zKM hI.1) (cX12_poke_met st l D am cm μ (xs (x4 + 1).toNatClampNeg) (xs (x4 + 2).toNatClampNeg) _ g122) (zgV zw86_11 zw86_12 zw86_13 zw1_5 zw86_14) rfl ⟨rfl, rfl⟩ 2 hdX12_poke ⟨Nat.le_of_ble_eq_true rfl, Nat.le_of_ble_eq_true rfl⟩ rfl rfl (wM_e0 am cm μ) rfl hl rfl (Nat.le_of_ble_eq_true rfl) dL_law_1023 ⟨by show cells ≤ 600128; omega, by show slots ≤ 7301064; omega⟩ (fun H locs hI => ?_)
  have hI : zLw st D ad cy am cm ao co μ122 o σ121 s H locs := zI.swap hI
  refine lv_goto (tgt := 1390) hx hb dL_law_1026 (by decide) ?_
  obtain ⟨v123, ev123⟩ : ∃ z : Int32, z = x4 + 8 := ⟨_, rfl⟩
  replace hf := zbv_use ev123 hf
  refine lv_iinc (v := v123) (lv' := [(4, .int v123), (3, .ref ao), (2, .ref (am 0)), (1, .ref (ad 0)), (0, .ref b)]) hx hb dL_law_1390 hl (k := 0) rfl (by rw [ev123]; rfl) (by decide) rfl (fun ls hl => ?_)
  refine lv_goto (tgt := 33) hx hb dL_law_1393 (by decide) ?_
  exact hk _ _ _ _ _ _ _ _ _ (by omega) (by omega) hI (lv_sub hl [0, 1, 2, 3, 4] rfl) hf
def fLaw_1029 (xs : Nat → Int32) (L : Nat) (kn : zSt → (Nat → Int64) → zSt → Int32 → Option Int32) (μ : zSt) (o : Nat → Int64) (σ : zSt) (x4 : Int32) : Option Int32 :=
  zck (zin (x4 + 1) L) (zbi (fX11_in σ (xs (x4 + 1).toNatClampNeg)) (fun σ124 v125 =>
  zck (zin (x4 + 1) L) (zbi (fX12_in μ (xs (x4 + 1).toNatClampNeg)) (fun μ126 v127 =>
  zbv (x4 + 8) (fun v128 => kn μ126 o σ124 v128)))))
set_option maxRecDepth 20000 in
set_option maxHeartbeats 4000000 in
theorem bLaw_1029 {p : Program} {l : Launch} {e : Env} {s : State} {m : MethodId} {below : List Frame} {meth : Method} {c : Code} {st : Nat → Nat} {D : va_G} {b L : Nat} {xs : Nat → Int32} {ad am : Nat → Nat} {cy cm : Nat → ClassId} {ao : Nat} {co : ClassId} (hC : zC p m c cL_law 8 s #[Value.ref b] wzL_law RL meth ret) (hst : l.stackTraces = false) (hX : va_X b L xs s s.heap) (hbl : b < s.heap.size) (hbA : ¬ (fun q : Nat => s.heap.size ≤ q) b) {n : Nat} {kn : zSt → (Nat → Int64) → zSt → Int32 → Option Int32} (hk : ∀ (H : Heap) (locs : List Loc) (μ : zSt) (o : Nat → Int64) (σ : zSt) (ls : Array Slot) (x4 : Int32) (cells slots : Nat), cells + n ≤ 600128 → slots + 6 * n ≤ 7301064 → zLw st D ad cy am cm ao co μ o σ s H locs → lv_has ls 8 [(4, .int x4), (3, .ref ao), (2, .ref (am 0)), (1, .ref (ad 0)), (0, .ref b)] → kn μ o σ x4 = some 1 → W p l e room_1 s m #[Value.ref b] below meth c H locs cells slots (lw_Z below #[Value.ref b] s) (F0 m 33 ls [])) {H : Heap} {locs : List Loc} {μ : zSt} {o : Nat → Int64} {σ : zSt} {ls : Array Slot} {x4 : Int32} {cells slots : Nat} (hc : cells + (n + 1) ≤ 600128) (hs : slots + 6 * (n + 1) ≤ 7301064) (hI : zLw st D ad cy am cm ao co μ o σ s H locs) (hl : lv_has ls 8 [(4, .int x4), (3, .ref ao), (2, .ref (am 0)), (1, .ref (ad 0)), (0, .ref b)]) (hf : fLaw_1029 xs L kn μ o σ x4 = some 1) : W p l e room_1 s m #[Value.ref b] below meth c H locs cells slots (lw_Z below #[Value.ref b] s) (F0 m 1029 ls []) := by
  have hx := hC.1
  have hb := hC.2.1
  unfold fLaw_1029 at hf
  refine lv_aload_n hx hb dL_law_1029 rfl (lv_at hl 3 rfl) ?_
  refine lv_aload_n hx hb dL_law_1030 rfl (lv_at hl 4 rfl) ?_
  refine lv_iload hx hb dL_law_1031 (lv_at hl 0 rfl) ?_
  refine lv_iconst (v := 1) hx hb dL_law_1033 (by decide) ?_
  refine lv_iadd hx hb dL_law_1034 ?_
  obtain ⟨q, hf⟩ := zck_use hf
  refine va_sld hx hb hX hbl hbA hI.2.2.2.1 (zin_in q) dL_law_1035 ?_
  obtain ⟨σ124, v125, g124, hf⟩ := zbi_use hf
  refine z_fcallVi (u := wM am cm μ ++ zHo ao co o) (w := wC ad cy) (As := [.int (xs (x4 + 1).toNatClampNeg)]) (rest := []) hC (zI.al hI) (zKC hI.1) (cX11_in_met st l D ad cy σ (xs (x4 + 1).toNatClampNeg) _ g124) (zgV zw86_15 zw86_16 zw86_17 zw1_2 zw86_18) rfl ⟨rfl, rfl⟩ 1 hdX11_in ⟨Nat.le_of_ble_eq_true rfl, Nat.le_of_ble_eq_true rfl⟩ rfl rfl (wC_e0 ad cy σ) rfl hl rfl (Nat.le_of_ble_eq_true rfl) dL_law_1036 ⟨by show cells ≤ 600128; omega, by show slots ≤ 7301064; omega⟩ (fun H locs hI => ?_)
  have hI : zLw st D ad cy am cm ao co μ o σ124 s H locs := zI.ar hI
  refine lv_pop hx hb dL_law_1039 rfl ?_
  refine lv_aload_n hx hb dL_law_1040 rfl (lv_at hl 2 rfl) ?_
  refine lv_aload_n hx hb dL_law_1041 rfl (lv_at hl 4 rfl) ?_
  refine lv_iload hx hb dL_law_1042 (lv_at hl 0 rfl) ?_
  refine lv_iconst (v := 1) hx hb dL_law_1044 (by decide) ?_
  refine lv_iadd hx hb dL_law_1045 ?_
  obtain ⟨q, hf⟩ := zck_use hf
  refine va_sld hx hb hX hbl hbA hI.2.2.2.1 (zin_in q) dL_law_1046 ?_
  obtain ⟨μ126, v127, g126, hf⟩ := zbi_use hf
  refine z_fcallVi (u := zHo ao co o ++ wC ad cy σ124) (w := wM am cm) (As := [.int (xs (x4 + 1).toNatClampNeg)]) (rest := []) hC (zI.swap hI) (zKM hI.1) (cX12_in_met st l D am cm μ (xs (x4 + 1).toNatClampNeg) _ g126) (zgV zw86_20 zw86_21 zw86_22 zw1_5 zw86_23) rfl ⟨rfl, rfl⟩ 1 hdX12_in ⟨Nat.le_of_ble_eq_true rfl, Nat.le_of_ble_eq_true rfl⟩ rfl rfl (wM_e0 am cm μ) rfl hl rfl (Nat.le_of_ble_eq_true rfl) dL_law_1047 ⟨by show cells ≤ 600128; omega, by show slots ≤ 7301064; omega⟩ (fun H locs hI => ?_)
  have hI : zLw st D ad cy am cm ao co μ126 o σ124 s H locs := zI.swap hI
  refine lv_pop hx hb dL_law_1050 rfl ?_
  refine lv_goto (tgt := 1390) hx hb dL_law_1051 (by decide) ?_
  obtain ⟨v128, ev128⟩ : ∃ z : Int32, z = x4 + 8 := ⟨_, rfl⟩
  replace hf := zbv_use ev128 hf
  refine lv_iinc (v := v128) (lv' := [(4, .int v128), (3, .ref ao), (2, .ref (am 0)), (1, .ref (ad 0)), (0, .ref b)]) hx hb dL_law_1390 hl (k := 0) rfl (by rw [ev128]; rfl) (by decide) rfl (fun ls hl => ?_)
  refine lv_goto (tgt := 33) hx hb dL_law_1393 (by decide) ?_
  exact hk _ _ _ _ _ _ _ _ _ (by omega) (by omega) hI (lv_sub hl [0, 1, 2, 3, 4] rfl) hf
def fLaw_1054 (xs : Nat → Int32) (L : Nat) (kn : zSt → (Nat → Int64) → zSt → Int32 → Option Int32) (μ : zSt) (o : Nat → Int64) (σ : zSt) (x4 : Int32) : Option Int32 :=
  zck (zin (x4 + 1) L) (zck (zin (x4 + 2) L) (zbu (fX11_out σ (xs (x4 + 1).toNatClampNeg) (xs (x4 + 2).toNatClampNeg)) (fun σ129 =>
  zck (zin (x4 + 1) L) (zck (zin (x4 + 2) L) (zbu (fX12_out μ (xs (x4 + 1).toNatClampNeg) (xs (x4 + 2).toNatClampNeg)) (fun μ130 =>
  zbv (x4 + 8) (fun v131 => kn μ130 o σ129 v131)))))))
set_option maxRecDepth 20000 in
set_option maxHeartbeats 4000000 in
theorem bLaw_1054 {p : Program} {l : Launch} {e : Env} {s : State} {m : MethodId} {below : List Frame} {meth : Method} {c : Code} {st : Nat → Nat} {D : va_G} {b L : Nat} {xs : Nat → Int32} {ad am : Nat → Nat} {cy cm : Nat → ClassId} {ao : Nat} {co : ClassId} (hC : zC p m c cL_law 8 s #[Value.ref b] wzL_law RL meth ret) (hst : l.stackTraces = false) (hX : va_X b L xs s s.heap) (hbl : b < s.heap.size) (hbA : ¬ (fun q : Nat => s.heap.size ≤ q) b) {n : Nat} {kn : zSt → (Nat → Int64) → zSt → Int32 → Option Int32} (hk : ∀ (H : Heap) (locs : List Loc) (μ : zSt) (o : Nat → Int64) (σ : zSt) (ls : Array Slot) (x4 : Int32) (cells slots : Nat), cells + n ≤ 600128 → slots + 6 * n ≤ 7301064 → zLw st D ad cy am cm ao co μ o σ s H locs → lv_has ls 8 [(4, .int x4), (3, .ref ao), (2, .ref (am 0)), (1, .ref (ad 0)), (0, .ref b)] → kn μ o σ x4 = some 1 → W p l e room_1 s m #[Value.ref b] below meth c H locs cells slots (lw_Z below #[Value.ref b] s) (F0 m 33 ls [])) {H : Heap} {locs : List Loc} {μ : zSt} {o : Nat → Int64} {σ : zSt} {ls : Array Slot} {x4 : Int32} {cells slots : Nat} (hc : cells + (n + 1) ≤ 600128) (hs : slots + 6 * (n + 1) ≤ 7301064) (hI : zLw st D ad cy am cm ao co μ o σ s H locs) (hl : lv_has ls 8 [(4, .int x4), (3, .ref ao), (2, .ref (am 0)), (1, .ref (ad 0)), (0, .ref b)]) (hf : fLaw_1054 xs L kn μ o σ x4 = some 1) : W p l e room_1 s m #[Value.ref b] below meth c H locs cells slots (lw_Z below #[Value.ref b] s) (F0 m 1054 ls []) := by
  have hx := hC.1
  have hb := hC.2.1
  unfold fLaw_1054 at hf
  refine lv_aload_n hx hb dL_law_1054 rfl (lv_at hl 3 rfl) ?_
  refine lv_aload_n hx hb dL_law_1055 rfl (lv_at hl 4 rfl) ?_
  refine lv_iload hx hb dL_law_1056 (lv_at hl 0 rfl) ?_
  refine lv_iconst (v := 1) hx hb dL_law_1058 (by decide) ?_
  refine lv_iadd hx hb dL_law_1059 ?_
  obtain ⟨q, hf⟩ := zck_use hf
  refine va_sld hx hb hX hbl hbA hI.2.2.2.1 (zin_in q) dL_law_1060 ?_
  refine lv_aload_n hx hb dL_law_1061 rfl (lv_at hl 4 rfl) ?_
  refine lv_iload hx hb dL_law_1062 (lv_at hl 0 rfl) ?_
  refine lv_iconst (v := 2) hx hb dL_law_1064 (by decide) ?_
  refine lv_iadd hx hb dL_law_1065 ?_
  obtain ⟨q, hf⟩ := zck_use hf
  refine va_sld hx hb hX hbl hbA hI.2.2.2.1 (zin_in q) dL_law_1066 ?_
  obtain ⟨σ129, g129, hf⟩ := zbu_use hf
  refine z_fcallVu (u := wM am cm μ ++ zHo ao co o) (w := wC ad cy) (As := [.int (xs (x4 + 1).toNatClampNeg), .int (xs (x4 + 2).toNatClampNeg)]) (rest := []) hC (zI.al hI) (zKC hI.1) (cX11_out_met st l D ad cy σ (xs (x4 + 1).toNatClampNeg) (xs (x4 + 2).toNatClampNeg) _ g129) (zgV zw87_0 zw87_1 zw87_2 zw1_2 zw87_3) rfl ⟨rfl, rfl⟩ 2 hdX11_out ⟨Nat.le_of_ble_eq_true rfl, Nat.le_of_ble_eq_true rfl⟩ rfl rfl (wC_e0 ad cy σ) rfl hl rfl (Nat.le_of_ble_eq_true rfl) dL_law_1067 ⟨by show cells ≤ 600128; omega, by show slots ≤ 7301064; omega⟩ (fun H locs hI => ?_)
  have hI : zLw st D ad cy am cm ao co μ o σ129 s H locs := zI.ar hI
  refine lv_aload_n hx hb dL_law_1070 rfl (lv_at hl 2 rfl) ?_
  refine lv_aload_n hx hb dL_law_1071 rfl (lv_at hl 4 rfl) ?_
  refine lv_iload hx hb dL_law_1072 (lv_at hl 0 rfl) ?_
  refine lv_iconst (v := 1) hx hb dL_law_1074 (by decide) ?_
  refine lv_iadd hx hb dL_law_1075 ?_
  obtain ⟨q, hf⟩ := zck_use hf
  refine va_sld hx hb hX hbl hbA hI.2.2.2.1 (zin_in q) dL_law_1076 ?_
  refine lv_aload_n hx hb dL_law_1077 rfl (lv_at hl 4 rfl) ?_
  refine lv_iload hx hb dL_law_1078 (lv_at hl 0 rfl) ?_
  refine lv_iconst (v := 2) hx hb dL_law_1080 (by decide) ?_
  refine lv_iadd hx hb dL_law_1081 ?_
  obtain ⟨q, hf⟩ := zck_use hf
  refine va_sld hx hb hX hbl hbA hI.2.2.2.1 (zin_in q) dL_law_1082 ?_
  obtain ⟨μ130, g130, hf⟩ := zbu_use hf
  refine z_fcallVu (u := zHo ao co o ++ wC ad cy σ129) (w := wM am cm) (As := [.int (xs (x4 + 1).toNatClampNeg), .int (xs (x4 + 2).toNatClampNeg)]) (rest := []) hC (zI.swap hI) (zKM hI.1) (cX12_out_met st l D am cm μ (xs (x4 + 1).toNatClampNeg) (xs (x4 + 2).toNatClampNeg) _ g130) (zgV zw87_5 zw87_6 zw87_7 zw1_5 zw87_8) rfl ⟨rfl, rfl⟩ 2 hdX12_out ⟨Nat.le_of_ble_eq_true rfl, Nat.le_of_ble_eq_true rfl⟩ rfl rfl (wM_e0 am cm μ) rfl hl rfl (Nat.le_of_ble_eq_true rfl) dL_law_1083 ⟨by show cells ≤ 600128; omega, by show slots ≤ 7301064; omega⟩ (fun H locs hI => ?_)
  have hI : zLw st D ad cy am cm ao co μ130 o σ129 s H locs := zI.swap hI
  refine lv_goto (tgt := 1390) hx hb dL_law_1086 (by decide) ?_
  obtain ⟨v131, ev131⟩ : ∃ z : Int32, z = x4 + 8 := ⟨_, rfl⟩
  replace hf := zbv_use ev131 hf
  refine lv_iinc (v := v131) (lv' := [(4, .int v131), (3, .ref ao), (2, .ref (am 0)), (1, .ref (ad 0)), (0, .ref b)]) hx hb dL_law_1390 hl (k := 0) rfl (by rw [ev131]; rfl) (by decide) rfl (fun ls hl => ?_)
  refine lv_goto (tgt := 33) hx hb dL_law_1393 (by decide) ?_
  exact hk _ _ _ _ _ _ _ _ _ (by omega) (by omega) hI (lv_sub hl [0, 1, 2, 3, 4] rfl) hf
def fLaw_1089 (xs : Nat → Int32) (L : Nat) (kn : zSt → (Nat → Int64) → zSt → Int32 → Option Int32) (μ : zSt) (o : Nat → Int64) (σ : zSt) (x4 : Int32) : Option Int32 :=
  zck (zin (x4 + 1) L) (zbh (fL_battery o σ (xs (x4 + 1).toNatClampNeg)) (fun o132 σ132 v133 =>
  zck (zin (x4 + 1) L) (zbi (fX12_battery μ (xs (x4 + 1).toNatClampNeg)) (fun μ134 v135 =>
  zbv (x4 + 8) (fun v136 => kn μ134 o132 σ132 v136)))))
set_option maxRecDepth 20000 in
set_option maxHeartbeats 4000000 in
theorem bLaw_1089 {p : Program} {l : Launch} {e : Env} {s : State} {m : MethodId} {below : List Frame} {meth : Method} {c : Code} {st : Nat → Nat} {D : va_G} {b L : Nat} {xs : Nat → Int32} {ad am : Nat → Nat} {cy cm : Nat → ClassId} {ao : Nat} {co : ClassId} (hC : zC p m c cL_law 8 s #[Value.ref b] wzL_law RL meth ret) (hst : l.stackTraces = false) (hX : va_X b L xs s s.heap) (hbl : b < s.heap.size) (hbA : ¬ (fun q : Nat => s.heap.size ≤ q) b) {n : Nat} {kn : zSt → (Nat → Int64) → zSt → Int32 → Option Int32} (hk : ∀ (H : Heap) (locs : List Loc) (μ : zSt) (o : Nat → Int64) (σ : zSt) (ls : Array Slot) (x4 : Int32) (cells slots : Nat), cells + n ≤ 600128 → slots + 6 * n ≤ 7301064 → zLw st D ad cy am cm ao co μ o σ s H locs → lv_has ls 8 [(4, .int x4), (3, .ref ao), (2, .ref (am 0)), (1, .ref (ad 0)), (0, .ref b)] → kn μ o σ x4 = some 1 → W p l e room_1 s m #[Value.ref b] below meth c H locs cells slots (lw_Z below #[Value.ref b] s) (F0 m 33 ls [])) {H : Heap} {locs : List Loc} {μ : zSt} {o : Nat → Int64} {σ : zSt} {ls : Array Slot} {x4 : Int32} {cells slots : Nat} (hc : cells + (n + 1) ≤ 600128) (hs : slots + 6 * (n + 1) ≤ 7301064) (hI : zLw st D ad cy am cm ao co μ o σ s H locs) (hl : lv_has ls 8 [(4, .int x4), (3, .ref ao), (2, .ref (am 0)), (1, .ref (ad 0)), (0, .ref b)]) (hf : fLaw_1089 xs L kn μ o σ x4 = some 1) : W p l e room_1 s m #[Value.ref b] below meth c H locs cells slots (lw_Z below #[Value.ref b] s) (F0 m 1089 ls []) := by
  have hx := hC.1
  have hb := hC.2.1
  unfold fLaw_1089 at hf
  refine lv_aload_n hx hb dL_law_1089 rfl (lv_at hl 3 rfl) ?_
  refine lv_aload_n hx hb dL_law_1090 rfl (lv_at hl 4 rfl) ?_
  refine lv_iload hx hb dL_law_1091 (lv_at hl 0 rfl) ?_
  refine lv_iconst (v := 1) hx hb dL_law_1093 (by decide) ?_
  refine lv_iadd hx hb dL_law_1094 ?_
  obtain ⟨q, hf⟩ := zck_use hf
  refine va_sld hx hb hX hbl hbA hI.2.2.2.1 (zin_in q) dL_law_1095 ?_
  refine lv_aload_n hx hb dL_law_1096 rfl (lv_at hl 1 rfl) ?_
  obtain ⟨o132, σ132, v133, g132, hf⟩ := zbh_use hf
  refine z_fcallH (u := wM am cm μ) (w := fun x : zHs => zHo ao co x.1 ++ wC ad cy x.2) (x := (o, σ)) (As := [.ref (ad 0), .int (xs (x4 + 1).toNatClampNeg), .ref ao]) (rest := []) hC hI (zKH hI.1) (cL_battery_met st l hst D ad cy ao co o σ (xs (x4 + 1).toNatClampNeg) _ g132) (zgS zw87_9 zw87_10 zw1_10 zw87_11) rfl ⟨rfl, rfl⟩ 3 hdL_battery ⟨Nat.le_of_ble_eq_true rfl, Nat.le_of_ble_eq_true rfl⟩ rfl hl rfl (Nat.le_of_ble_eq_true rfl) dL_law_1097 ⟨by show cells + 1 ≤ 600128; omega, by show slots + 6 ≤ 7301064; omega⟩ (fun H locs hI => ?_)
  have hI : zLw st D ad cy am cm ao co μ o132 σ132 s H locs := hI
  refine lv_istore (lv' := [(5, .int v133), (4, .int x4), (3, .ref ao), (2, .ref (am 0)), (1, .ref (ad 0)), (0, .ref b)]) hx hb dL_law_1100 hl (by decide) rfl (fun ls hl => ?_)
  refine lv_aload_n hx hb dL_law_1102 rfl (lv_at hl 3 rfl) ?_
  refine lv_aload_n hx hb dL_law_1103 rfl (lv_at hl 5 rfl) ?_
  refine lv_iload hx hb dL_law_1104 (lv_at hl 1 rfl) ?_
  refine lv_iconst (v := 1) hx hb dL_law_1106 (by decide) ?_
  refine lv_iadd hx hb dL_law_1107 ?_
  obtain ⟨q, hf⟩ := zck_use hf
  refine va_sld hx hb hX hbl hbA hI.2.2.2.1 (zin_in q) dL_law_1108 ?_
  obtain ⟨μ134, v135, g134, hf⟩ := zbi_use hf
  refine z_fcallVi (u := zHo ao co o132 ++ wC ad cy σ132) (w := wM am cm) (As := [.int (xs (x4 + 1).toNatClampNeg)]) (rest := []) hC (zI.swap hI) (zKM hI.1) (cX12_battery_met st l D am cm μ (xs (x4 + 1).toNatClampNeg) _ g134) (zgV zw87_21 zw87_22 zw87_23 zw1_5 zw88_0) rfl ⟨rfl, rfl⟩ 1 hdX12_battery ⟨Nat.le_of_ble_eq_true rfl, Nat.le_of_ble_eq_true rfl⟩ rfl rfl (wM_e0 am cm μ) rfl hl rfl (Nat.le_of_ble_eq_true rfl) dL_law_1109 ⟨by show cells + 1 ≤ 600128; omega, by show slots + 6 ≤ 7301064; omega⟩ (fun H locs hI => ?_)
  have hI : zLw st D ad cy am cm ao co μ134 o132 σ132 s H locs := zI.swap hI
  refine lv_istore (lv' := [(6, .int v135), (5, .int v133), (4, .int x4), (3, .ref ao), (2, .ref (am 0)), (1, .ref (ad 0)), (0, .ref b)]) hx hb dL_law_1112 hl (by decide) rfl (fun ls hl => ?_)
  refine lv_goto (tgt := 1390) hx hb dL_law_1114 (by decide) ?_
  obtain ⟨v136, ev136⟩ : ∃ z : Int32, z = x4 + 8 := ⟨_, rfl⟩
  replace hf := zbv_use ev136 hf
  refine lv_iinc (v := v136) (lv' := [(4, .int v136), (6, .int v135), (5, .int v133), (3, .ref ao), (2, .ref (am 0)), (1, .ref (ad 0)), (0, .ref b)]) hx hb dL_law_1390 hl (k := 2) rfl (by rw [ev136]; rfl) (by decide) rfl (fun ls hl => ?_)
  refine lv_goto (tgt := 33) hx hb dL_law_1393 (by decide) ?_
  exact hk _ _ _ _ _ _ _ _ _ (by omega) (by omega) hI (lv_sub hl [0, 3, 4, 5, 6] rfl) hf
def fLaw_1117 (xs : Nat → Int32) (L : Nat) (kn : zSt → (Nat → Int64) → zSt → Int32 → Option Int32) (μ : zSt) (o : Nat → Int64) (σ : zSt) (x4 : Int32) : Option Int32 :=
  zbu (fX11_wipe σ ) (fun σ137 =>
  zbu (fX12_wipe μ ) (fun μ138 =>
  zbv (x4 + 8) (fun v139 => kn μ138 o σ137 v139)))
set_option maxRecDepth 20000 in
set_option maxHeartbeats 4000000 in
theorem bLaw_1117 {p : Program} {l : Launch} {e : Env} {s : State} {m : MethodId} {below : List Frame} {meth : Method} {c : Code} {st : Nat → Nat} {D : va_G} {b L : Nat} {xs : Nat → Int32} {ad am : Nat → Nat} {cy cm : Nat → ClassId} {ao : Nat} {co : ClassId} (hC : zC p m c cL_law 8 s #[Value.ref b] wzL_law RL meth ret) (hst : l.stackTraces = false) (hX : va_X b L xs s s.heap) (hbl : b < s.heap.size) (hbA : ¬ (fun q : Nat => s.heap.size ≤ q) b) {n : Nat} {kn : zSt → (Nat → Int64) → zSt → Int32 → Option Int32} (hk : ∀ (H : Heap) (locs : List Loc) (μ : zSt) (o : Nat → Int64) (σ : zSt) (ls : Array Slot) (x4 : Int32) (cells slots : Nat), cells + n ≤ 600128 → slots + 6 * n ≤ 7301064 → zLw st D ad cy am cm ao co μ o σ s H locs → lv_has ls 8 [(4, .int x4), (3, .ref ao), (2, .ref (am 0)), (1, .ref (ad 0)), (0, .ref b)] → kn μ o σ x4 = some 1 → W p l e room_1 s m #[Value.ref b] below meth c H locs cells slots (lw_Z below #[Value.ref b] s) (F0 m 33 ls [])) {H : Heap} {locs : List Loc} {μ : zSt} {o : Nat → Int64} {σ : zSt} {ls : Array Slot} {x4 : Int32} {cells slots : Nat} (hc : cells + (n + 1) ≤ 600128) (hs : slots + 6 * (n + 1) ≤ 7301064) (hI : zLw st D ad cy am cm ao co μ o σ s H locs) (hl : lv_has ls 8 [(4, .int x4), (3, .ref ao), (2, .ref (am 0)), (1, .ref (ad 0)), (0, .ref b)]) (hf : fLaw_1117 xs L kn μ o σ x4 = some 1) : W p l e room_1 s m #[Value.ref b] below meth c H locs cells slots (lw_Z below #[Value.ref b] s) (F0 m 1117 ls []) := by
  have hx := hC.1
  have hb := hC.2.1
  unfold fLaw_1117 at hf
  refine lv_aload_n hx hb dL_law_1117 rfl (lv_at hl 3 rfl) ?_
  obtain ⟨σ137, g137, hf⟩ := zbu_use hf
  refine z_fcallVu (u := wM am cm μ ++ zHo ao co o) (w := wC ad cy) (As := []) (rest := []) hC (zI.al hI) (zKC hI.1) (cX11_wipe_met st l D ad cy σ  _ g137) (zgV zw88_2 zw88_3 zw88_4 zw1_2 zw88_5) rfl ⟨rfl, rfl⟩ 0 hdX11_wipe ⟨Nat.le_of_ble_eq_true rfl, Nat.le_of_ble_eq_true rfl⟩ rfl rfl (wC_e0 ad cy σ) rfl hl rfl (Nat.le_of_ble_eq_true rfl) dL_law_1118 ⟨by show cells ≤ 600128; omega, by show slots ≤ 7301064; omega⟩ (fun H locs hI => ?_)
  have hI : zLw st D ad cy am cm ao co μ o σ137 s H locs := zI.ar hI
  refine lv_aload_n hx hb dL_law_1121 rfl (lv_at hl 2 rfl) ?_
  obtain ⟨μ138, g138, hf⟩ := zbu_use hf
  refine z_fcallVu (u := zHo ao co o ++ wC ad cy σ137) (w := wM am cm) (As := []) (rest := []) hC (zI.swap hI) (zKM hI.1) (cX12_wipe_met st l D am cm μ  _ g138) (zgV zw88_10 zw88_11 zw88_12 zw1_5 zw88_13) rfl ⟨rfl, rfl⟩ 0 hdX12_wipe ⟨Nat.le_of_ble_eq_true rfl, Nat.le_of_ble_eq_true rfl⟩ rfl rfl (wM_e0 am cm μ) rfl hl rfl (Nat.le_of_ble_eq_true rfl) dL_law_1122 ⟨by show cells ≤ 600128; omega, by show slots ≤ 7301064; omega⟩ (fun H locs hI => ?_)
  have hI : zLw st D ad cy am cm ao co μ138 o σ137 s H locs := zI.swap hI
  refine lv_goto (tgt := 1390) hx hb dL_law_1125 (by decide) ?_
  obtain ⟨v139, ev139⟩ : ∃ z : Int32, z = x4 + 8 := ⟨_, rfl⟩
  replace hf := zbv_use ev139 hf
  refine lv_iinc (v := v139) (lv' := [(4, .int v139), (3, .ref ao), (2, .ref (am 0)), (1, .ref (ad 0)), (0, .ref b)]) hx hb dL_law_1390 hl (k := 0) rfl (by rw [ev139]; rfl) (by decide) rfl (fun ls hl => ?_)
  refine lv_goto (tgt := 33) hx hb dL_law_1393 (by decide) ?_
  exact hk _ _ _ _ _ _ _ _ _ (by omega) (by omega) hI (lv_sub hl [0, 1, 2, 3, 4] rfl) hf
def fLaw_1128 (xs : Nat → Int32) (L : Nat) (kn : zSt → (Nat → Int64) → zSt → Int32 → Option Int32) (μ : zSt) (o : Nat → Int64) (σ : zSt) (x4 : Int32) : Option Int32 :=
  zck (zin (x4 + 1) L) (zbl (fX11_video σ (xs (x4 + 1).toNatClampNeg)) (fun σ140 v141 =>
  zck (zin (x4 + 1) L) (zbl (fX12_video μ (xs (x4 + 1).toNatClampNeg)) (fun μ142 v143 =>
  zbv (x4 + 8) (fun v144 => kn μ142 o σ140 v144)))))
set_option maxRecDepth 20000 in
set_option maxHeartbeats 4000000 in
theorem bLaw_1128 {p : Program} {l : Launch} {e : Env} {s : State} {m : MethodId} {below : List Frame} {meth : Method} {c : Code} {st : Nat → Nat} {D : va_G} {b L : Nat} {xs : Nat → Int32} {ad am : Nat → Nat} {cy cm : Nat → ClassId} {ao : Nat} {co : ClassId} (hC : zC p m c cL_law 8 s #[Value.ref b] wzL_law RL meth ret) (hst : l.stackTraces = false) (hX : va_X b L xs s s.heap) (hbl : b < s.heap.size) (hbA : ¬ (fun q : Nat => s.heap.size ≤ q) b) {n : Nat} {kn : zSt → (Nat → Int64) → zSt → Int32 → Option Int32} (hk : ∀ (H : Heap) (locs : List Loc) (μ : zSt) (o : Nat → Int64) (σ : zSt) (ls : Array Slot) (x4 : Int32) (cells slots : Nat), cells + n ≤ 600128 → slots + 6 * n ≤ 7301064 → zLw st D ad cy am cm ao co μ o σ s H locs → lv_has ls 8 [(4, .int x4), (3, .ref ao), (2, .ref (am 0)), (1, .ref (ad 0)), (0, .ref b)] → kn μ o σ x4 = some 1 → W p l e room_1 s m #[Value.ref b] below meth c H locs cells slots (lw_Z below #[Value.ref b] s) (F0 m 33 ls [])) {H : Heap} {locs : List Loc} {μ : zSt} {o : Nat → Int64} {σ : zSt} {ls : Array Slot} {x4 : Int32} {cells slots : Nat} (hc : cells + (n + 1) ≤ 600128) (hs : slots + 6 * (n + 1) ≤ 7301064) (hI : zLw st D ad cy am cm ao co μ o σ s H locs) (hl : lv_has ls 8 [(4, .int x4), (3, .ref ao), (2, .ref (am 0)), (1, .ref (ad 0)), (0, .ref b)]) (hf : fLaw_1128 xs L kn μ o σ x4 = some 1) : W p l e room_1 s m #[Value.ref b] below meth c H locs cells slots (lw_Z below #[Value.ref b] s) (F0 m 1128 ls []) := by
  have hx := hC.1
  have hb := hC.2.1
  unfold fLaw_1128 at hf
  refine lv_aload_n hx hb dL_law_1128 rfl (lv_at hl 3 rfl) ?_
  refine lv_aload_n hx hb dL_law_1129 rfl (lv_at hl 4 rfl) ?_
  refine lv_iload hx hb dL_law_1130 (lv_at hl 0 rfl) ?_
  refine lv_iconst (v := 1) hx hb dL_law_1132 (by decide) ?_
  refine lv_iadd hx hb dL_law_1133 ?_
  obtain ⟨q, hf⟩ := zck_use hf
  refine va_sld hx hb hX hbl hbA hI.2.2.2.1 (zin_in q) dL_law_1134 ?_
  obtain ⟨σ140, v141, g140, hf⟩ := zbl_use hf
  refine z_fcallVl (u := wM am cm μ ++ zHo ao co o) (w := wC ad cy) (As := [.int (xs (x4 + 1).toNatClampNeg)]) (rest := []) hC (zI.al hI) (zKC hI.1) (cX11_video_met st l D ad cy σ (xs (x4 + 1).toNatClampNeg) _ g140) (zgV zw88_14 zw88_15 zw88_16 zw1_2 zw88_17) rfl ⟨rfl, rfl⟩ 1 hdX11_video ⟨Nat.le_of_ble_eq_true rfl, Nat.le_of_ble_eq_true rfl⟩ rfl rfl (wC_e0 ad cy σ) rfl hl rfl (Nat.le_of_ble_eq_true rfl) dL_law_1135 ⟨by show cells ≤ 600128; omega, by show slots ≤ 7301064; omega⟩ (fun H locs hI => ?_)
  have hI : zLw st D ad cy am cm ao co μ o σ140 s H locs := zI.ar hI
  refine lv_pop2_2 hx hb dL_law_1138 rfl ?_
  refine lv_aload_n hx hb dL_law_1139 rfl (lv_at hl 2 rfl) ?_
  refine lv_aload_n hx hb dL_law_1140 rfl (lv_at hl 4 rfl) ?_
  refine lv_iload hx hb dL_law_1141 (lv_at hl 0 rfl) ?_
  refine lv_iconst (v := 1) hx hb dL_law_1143 (by decide) ?_
  refine lv_iadd hx hb dL_law_1144 ?_
  obtain ⟨q, hf⟩ := zck_use hf
  refine va_sld hx hb hX hbl hbA hI.2.2.2.1 (zin_in q) dL_law_1145 ?_
  obtain ⟨μ142, v143, g142, hf⟩ := zbl_use hf
  refine z_fcallVl (u := zHo ao co o ++ wC ad cy σ140) (w := wM am cm) (As := [.int (xs (x4 + 1).toNatClampNeg)]) (rest := []) hC (zI.swap hI) (zKM hI.1) (cX12_video_met st l D am cm μ (xs (x4 + 1).toNatClampNeg) _ g142) (zgV zw88_22 zw88_23 zw89_0 zw1_5 zw89_1) rfl ⟨rfl, rfl⟩ 1 hdX12_video ⟨Nat.le_of_ble_eq_true rfl, Nat.le_of_ble_eq_true rfl⟩ rfl rfl (wM_e0 am cm μ) rfl hl rfl (Nat.le_of_ble_eq_true rfl) dL_law_1146 ⟨by show cells ≤ 600128; omega, by show slots ≤ 7301064; omega⟩ (fun H locs hI => ?_)
  have hI : zLw st D ad cy am cm ao co μ142 o σ140 s H locs := zI.swap hI
  refine lv_pop2_2 hx hb dL_law_1149 rfl ?_
  refine lv_goto (tgt := 1390) hx hb dL_law_1150 (by decide) ?_
  obtain ⟨v144, ev144⟩ : ∃ z : Int32, z = x4 + 8 := ⟨_, rfl⟩
  replace hf := zbv_use ev144 hf
  refine lv_iinc (v := v144) (lv' := [(4, .int v144), (3, .ref ao), (2, .ref (am 0)), (1, .ref (ad 0)), (0, .ref b)]) hx hb dL_law_1390 hl (k := 0) rfl (by rw [ev144]; rfl) (by decide) rfl (fun ls hl => ?_)
  refine lv_goto (tgt := 33) hx hb dL_law_1393 (by decide) ?_
  exact hk _ _ _ _ _ _ _ _ _ (by omega) (by omega) hI (lv_sub hl [0, 1, 2, 3, 4] rfl) hf
def fLaw_1153 (xs : Nat → Int32) (L : Nat) (kn : zSt → (Nat → Int64) → zSt → Int32 → Option Int32) (μ : zSt) (o : Nat → Int64) (σ : zSt) (x4 : Int32) : Option Int32 :=
  zck (zin (x4 + 1) L) (zbh (fL_chip o σ (xs (x4 + 1).toNatClampNeg)) (fun o145 σ145 v146 =>
  zck (zin (x4 + 1) L) (zbi (fX12_chip μ (xs (x4 + 1).toNatClampNeg)) (fun μ147 v148 =>
  zbv (x4 + 8) (fun v149 => kn μ147 o145 σ145 v149)))))
set_option maxRecDepth 20000 in
set_option maxHeartbeats 4000000 in
theorem bLaw_1153 {p : Program} {l : Launch} {e : Env} {s : State} {m : MethodId} {below : List Frame} {meth : Method} {c : Code} {st : Nat → Nat} {D : va_G} {b L : Nat} {xs : Nat → Int32} {ad am : Nat → Nat} {cy cm : Nat → ClassId} {ao : Nat} {co : ClassId} (hC : zC p m c cL_law 8 s #[Value.ref b] wzL_law RL meth ret) (hst : l.stackTraces = false) (hX : va_X b L xs s s.heap) (hbl : b < s.heap.size) (hbA : ¬ (fun q : Nat => s.heap.size ≤ q) b) {n : Nat} {kn : zSt → (Nat → Int64) → zSt → Int32 → Option Int32} (hk : ∀ (H : Heap) (locs : List Loc) (μ : zSt) (o : Nat → Int64) (σ : zSt) (ls : Array Slot) (x4 : Int32) (cells slots : Nat), cells + n ≤ 600128 → slots + 6 * n ≤ 7301064 → zLw st D ad cy am cm ao co μ o σ s H locs → lv_has ls 8 [(4, .int x4), (3, .ref ao), (2, .ref (am 0)), (1, .ref (ad 0)), (0, .ref b)] → kn μ o σ x4 = some 1 → W p l e room_1 s m #[Value.ref b] below meth c H locs cells slots (lw_Z below #[Value.ref b] s) (F0 m 33 ls [])) {H : Heap} {locs : List Loc} {μ : zSt} {o : Nat → Int64} {σ : zSt} {ls : Array Slot} {x4 : Int32} {cells slots : Nat} (hc : cells + (n + 1) ≤ 600128) (hs : slots + 6 * (n + 1) ≤ 7301064) (hI : zLw st D ad cy am cm ao co μ o σ s H locs) (hl : lv_has ls 8 [(4, .int x4), (3, .ref ao), (2, .ref (am 0)), (1, .ref (ad 0)), (0, .ref b)]) (hf : fLaw_1153 xs L kn μ o σ x4 = some 1) : W p l e room_1 s m #[Value.ref b] below meth c H locs cells slots (lw_Z below #[Value.ref b] s) (F0 m 1153 ls []) := by
  have hx := hC.1
  have hb := hC.2.1
  unfold fLaw_1153 at hf
  refine lv_aload_n hx hb dL_law_1153 rfl (lv_at hl 3 rfl) ?_
  refine lv_aload_n hx hb dL_law_1154 rfl (lv_at hl 4 rfl) ?_
  refine lv_iload hx hb dL_law_1155 (lv_at hl 0 rfl) ?_
  refine lv_iconst (v := 1) hx hb dL_law_1157 (by decide) ?_
  refine lv_iadd hx hb dL_law_1158 ?_
  obtain ⟨q, hf⟩ := zck_use hf
  refine va_sld hx hb hX hbl hbA hI.2.2.2.1 (zin_in q) dL_law_1159 ?_
  refine lv_aload_n hx hb dL_law_1160 rfl (lv_at hl 1 rfl) ?_
  obtain ⟨o145, σ145, v146, g145, hf⟩ := zbh_use hf
  refine z_fcallH (u := wM am cm μ) (w := fun x : zHs => zHo ao co x.1 ++ wC ad cy x.2) (x := (o, σ)) (As := [.ref (ad 0), .int (xs (x4 + 1).toNatClampNeg), .ref ao]) (rest := []) hC hI (zKH hI.1) (cL_chip_met st l hst D ad cy ao co o σ (xs (x4 + 1).toNatClampNeg) _ g145) (zgS zw89_2 zw89_3 zw1_10 zw89_4) rfl ⟨rfl, rfl⟩ 3 hdL_chip ⟨Nat.le_of_ble_eq_true rfl, Nat.le_of_ble_eq_true rfl⟩ rfl hl rfl (Nat.le_of_ble_eq_true rfl) dL_law_1161 ⟨by show cells + 1 ≤ 600128; omega, by show slots + 6 ≤ 7301064; omega⟩ (fun H locs hI => ?_)
  have hI : zLw st D ad cy am cm ao co μ o145 σ145 s H locs := hI
  refine lv_istore (lv' := [(5, .int v146), (4, .int x4), (3, .ref ao), (2, .ref (am 0)), (1, .ref (ad 0)), (0, .ref b)]) hx hb dL_law_1164 hl (by decide) rfl (fun ls hl => ?_)
  refine lv_aload_n hx hb dL_law_1166 rfl (lv_at hl 3 rfl) ?_
  refine lv_aload_n hx hb dL_law_1167 rfl (lv_at hl 5 rfl) ?_
  refine lv_iload hx hb dL_law_1168 (lv_at hl 1 rfl) ?_
  refine lv_iconst (v := 1) hx hb dL_law_1170 (by decide) ?_
  refine lv_iadd hx hb dL_law_1171 ?_
  obtain ⟨q, hf⟩ := zck_use hf
  refine va_sld hx hb hX hbl hbA hI.2.2.2.1 (zin_in q) dL_law_1172 ?_
  obtain ⟨μ147, v148, g147, hf⟩ := zbi_use hf
  refine z_fcallVi (u := zHo ao co o145 ++ wC ad cy σ145) (w := wM am cm) (As := [.int (xs (x4 + 1).toNatClampNeg)]) (rest := []) hC (zI.swap hI) (zKM hI.1) (cX12_chip_met st l D am cm μ (xs (x4 + 1).toNatClampNeg) _ g147) (zgV zw89_21 zw89_22 zw89_23 zw1_5 zw90_0) rfl ⟨rfl, rfl⟩ 1 hdX12_chip ⟨Nat.le_of_ble_eq_true rfl, Nat.le_of_ble_eq_true rfl⟩ rfl rfl (wM_e0 am cm μ) rfl hl rfl (Nat.le_of_ble_eq_true rfl) dL_law_1173 ⟨by show cells + 1 ≤ 600128; omega, by show slots + 6 ≤ 7301064; omega⟩ (fun H locs hI => ?_)
  have hI : zLw st D ad cy am cm ao co μ147 o145 σ145 s H locs := zI.swap hI
  refine lv_istore (lv' := [(6, .int v148), (5, .int v146), (4, .int x4), (3, .ref ao), (2, .ref (am 0)), (1, .ref (ad 0)), (0, .ref b)]) hx hb dL_law_1176 hl (by decide) rfl (fun ls hl => ?_)
  refine lv_goto (tgt := 1390) hx hb dL_law_1178 (by decide) ?_
  obtain ⟨v149, ev149⟩ : ∃ z : Int32, z = x4 + 8 := ⟨_, rfl⟩
  replace hf := zbv_use ev149 hf
  refine lv_iinc (v := v149) (lv' := [(4, .int v149), (6, .int v148), (5, .int v146), (3, .ref ao), (2, .ref (am 0)), (1, .ref (ad 0)), (0, .ref b)]) hx hb dL_law_1390 hl (k := 2) rfl (by rw [ev149]; rfl) (by decide) rfl (fun ls hl => ?_)
  refine lv_goto (tgt := 33) hx hb dL_law_1393 (by decide) ?_
  exact hk _ _ _ _ _ _ _ _ _ (by omega) (by omega) hI (lv_sub hl [0, 3, 4, 5, 6] rfl) hf
def fLaw_1181 (xs : Nat → Int32) (L : Nat) (kn : zSt → (Nat → Int64) → zSt → Int32 → Option Int32) (μ : zSt) (o : Nat → Int64) (σ : zSt) (x4 : Int32) : Option Int32 :=
  zck (zin (x4 + 1) L) (zck (zin (x4 + 2) L) (zbh (fL_dot o σ (xs (x4 + 1).toNatClampNeg) (xs (x4 + 2).toNatClampNeg)) (fun o150 σ150 v151 =>
  zck (zin (x4 + 1) L) (zck (zin (x4 + 2) L) (zbi (fX12_dot μ (xs (x4 + 1).toNatClampNeg) (xs (x4 + 2).toNatClampNeg)) (fun μ152 v153 =>
  zbv (x4 + 8) (fun v154 => kn μ152 o150 σ150 v154)))))))
set_option maxRecDepth 20000 in
set_option maxHeartbeats 4000000 in
theorem bLaw_1181 {p : Program} {l : Launch} {e : Env} {s : State} {m : MethodId} {below : List Frame} {meth : Method} {c : Code} {st : Nat → Nat} {D : va_G} {b L : Nat} {xs : Nat → Int32} {ad am : Nat → Nat} {cy cm : Nat → ClassId} {ao : Nat} {co : ClassId} (hC : zC p m c cL_law 8 s #[Value.ref b] wzL_law RL meth ret) (hst : l.stackTraces = false) (hX : va_X b L xs s s.heap) (hbl : b < s.heap.size) (hbA : ¬ (fun q : Nat => s.heap.size ≤ q) b) {n : Nat} {kn : zSt → (Nat → Int64) → zSt → Int32 → Option Int32} (hk : ∀ (H : Heap) (locs : List Loc) (μ : zSt) (o : Nat → Int64) (σ : zSt) (ls : Array Slot) (x4 : Int32) (cells slots : Nat), cells + n ≤ 600128 → slots + 6 * n ≤ 7301064 → zLw st D ad cy am cm ao co μ o σ s H locs → lv_has ls 8 [(4, .int x4), (3, .ref ao), (2, .ref (am 0)), (1, .ref (ad 0)), (0, .ref b)] → kn μ o σ x4 = some 1 → W p l e room_1 s m #[Value.ref b] below meth c H locs cells slots (lw_Z below #[Value.ref b] s) (F0 m 33 ls [])) {H : Heap} {locs : List Loc} {μ : zSt} {o : Nat → Int64} {σ : zSt} {ls : Array Slot} {x4 : Int32} {cells slots : Nat} (hc : cells + (n + 1) ≤ 600128) (hs : slots + 6 * (n + 1) ≤ 7301064) (hI : zLw st D ad cy am cm ao co μ o σ s H locs) (hl : lv_has ls 8 [(4, .int x4), (3, .ref ao), (2, .ref (am 0)), (1, .ref (ad 0)), (0, .ref b)]) (hf : fLaw_1181 xs L kn μ o σ x4 = some 1) : W p l e room_1 s m #[Value.ref b] below meth c H locs cells slots (lw_Z below #[Value.ref b] s) (F0 m 1181 ls []) := by
  have hx := hC.1
  have hb := hC.2.1
  unfold fLaw_1181 at hf
  refine lv_aload_n hx hb dL_law_1181 rfl (lv_at hl 3 rfl) ?_
  refine lv_aload_n hx hb dL_law_1182 rfl (lv_at hl 4 rfl) ?_
  refine lv_iload hx hb dL_law_1183 (lv_at hl 0 rfl) ?_
  refine lv_iconst (v := 1) hx hb dL_law_1185 (by decide) ?_
  refine lv_iadd hx hb dL_law_1186 ?_
  obtain ⟨q, hf⟩ := zck_use hf
  refine va_sld hx hb hX hbl hbA hI.2.2.2.1 (zin_in q) dL_law_1187 ?_
  refine lv_aload_n hx hb dL_law_1188 rfl (lv_at hl 4 rfl) ?_
  refine lv_iload hx hb dL_law_1189 (lv_at hl 0 rfl) ?_
  refine lv_iconst (v := 2) hx hb dL_law_1191 (by decide) ?_
  refine lv_iadd hx hb dL_law_1192 ?_
  obtain ⟨q, hf⟩ := zck_use hf
  refine va_sld hx hb hX hbl hbA hI.2.2.2.1 (zin_in q) dL_law_1193 ?_
  refine lv_aload_n hx hb dL_law_1194 rfl (lv_at hl 1 rfl) ?_
  obtain ⟨o150, σ150, v151, g150, hf⟩ := zbh_use hf
  refine z_fcallH (u := wM am cm μ) (w := fun x : zHs => zHo ao co x.1 ++ wC ad cy x.2) (x := (o, σ)) (As := [.ref (ad 0), .int (xs (x4 + 1).toNatClampNeg), .int (xs (x4 + 2).toNatClampNeg), .ref ao]) (rest := []) hC hI (zKH hI.1) (cL_dot_met st l hst D ad cy ao co o σ (xs (x4 + 1).toNatClampNeg) (xs (x4 + 2).toNatClampNeg) _ g150) (zgS zw90_2 zw90_3 zw1_10 zw90_4) rfl ⟨rfl, rfl⟩ 4 hdL_dot ⟨Nat.le_of_ble_eq_true rfl, Nat.le_of_ble_eq_true rfl⟩ rfl hl rfl (Nat.le_of_ble_eq_true rfl) dL_law_1195 ⟨by show cells + 1 ≤ 600128; omega, by show slots + 6 ≤ 7301064; omega⟩ (fun H locs hI => ?_)
  have hI : zLw st D ad cy am cm ao co μ o150 σ150 s H locs := hI
  refine lv_istore (lv' := [(5, .int v151), (4, .int x4), (3, .ref ao), (2, .ref (am 0)), (1, .ref (ad 0)), (0, .ref b)]) hx hb dL_law_1198 hl (by decide) rfl (fun ls hl => ?_)
  refine lv_aload_n hx hb dL_law_1200 rfl (lv_at hl 3 rfl) ?_
  refine lv_aload_n hx hb dL_law_1201 rfl (lv_at hl 5 rfl) ?_
  refine lv_iload hx hb dL_law_1202 (lv_at hl 1 rfl) ?_
  refine lv_iconst (v := 1) hx hb dL_law_1204 (by decide) ?_
  refine lv_iadd hx hb dL_law_1205 ?_
  obtain ⟨q, hf⟩ := zck_use hf
  refine va_sld hx hb hX hbl hbA hI.2.2.2.1 (zin_in q) dL_law_1206 ?_
  refine lv_aload_n hx hb dL_law_1207 rfl (lv_at hl 5 rfl) ?_
  refine lv_iload hx hb dL_law_1208 (lv_at hl 1 rfl) ?_
  refine lv_iconst (v := 2) hx hb dL_law_1210 (by decide) ?_
  refine lv_iadd hx hb dL_law_1211 ?_
  obtain ⟨q, hf⟩ := zck_use hf
  refine va_sld hx hb hX hbl hbA hI.2.2.2.1 (zin_in q) dL_law_1212 ?_
  obtain ⟨μ152, v153, g152, hf⟩ := zbi_use hf
  refine z_fcallVi (u := zHo ao co o150 ++ wC ad cy σ150) (w := wM am cm) (As := [.int (xs (x4 + 1).toNatClampNeg), .int (xs (x4 + 2).toNatClampNeg)]) (rest := []) hC (zI.swap hI) (zKM hI.1) (cX12_dot_met st l D am cm μ (xs (x4 + 1).toNatClampNeg) (xs (x4 + 2).toNatClampNeg) _ g152) (zgV zw91_1 zw91_2 zw91_3 zw1_5 zw91_4) rfl ⟨rfl, rfl⟩ 2 hdX12_dot ⟨Nat.le_of_ble_eq_true rfl, Nat.le_of_ble_eq_true rfl⟩ rfl rfl (wM_e0 am cm μ) rfl hl rfl (Nat.le_of_ble_eq_true rfl) dL_law_1213 ⟨by show cells + 1 ≤ 600128; omega, by show slots + 6 ≤ 7301064; omega⟩ (fun H locs hI => ?_)
  have hI : zLw st D ad cy am cm ao co μ152 o150 σ150 s H locs := zI.swap hI
  refine lv_istore (lv' := [(6, .int v153), (5, .int v151), (4, .int x4), (3, .ref ao), (2, .ref (am 0)), (1, .ref (ad 0)), (0, .ref b)]) hx hb dL_law_1216 hl (by decide) rfl (fun ls hl => ?_)
  refine lv_goto (tgt := 1390) hx hb dL_law_1218 (by decide) ?_
  obtain ⟨v154, ev154⟩ : ∃ z : Int32, z = x4 + 8 := ⟨_, rfl⟩
  replace hf := zbv_use ev154 hf
  refine lv_iinc (v := v154) (lv' := [(4, .int v154), (6, .int v153), (5, .int v151), (3, .ref ao), (2, .ref (am 0)), (1, .ref (ad 0)), (0, .ref b)]) hx hb dL_law_1390 hl (k := 2) rfl (by rw [ev154]; rfl) (by decide) rfl (fun ls hl => ?_)
  refine lv_goto (tgt := 33) hx hb dL_law_1393 (by decide) ?_
  exact hk _ _ _ _ _ _ _ _ _ (by omega) (by omega) hI (lv_sub hl [0, 3, 4, 5, 6] rfl) hf
def fLaw_1221 (xs : Nat → Int32) (L : Nat) (kn : zSt → (Nat → Int64) → zSt → Int32 → Option Int32) (μ : zSt) (o : Nat → Int64) (σ : zSt) (x4 : Int32) : Option Int32 :=
  zck (zin (x4 + 1) L) (zbh (fL_row o σ (xs (x4 + 1).toNatClampNeg)) (fun o155 σ155 v156 =>
  zck (zin (x4 + 1) L) (zbi (fX12_row μ (xs (x4 + 1).toNatClampNeg)) (fun μ157 v158 =>
  zbv (x4 + 8) (fun v159 => kn μ157 o155 σ155 v159)))))
set_option maxRecDepth 20000 in
set_option maxHeartbeats 4000000 in
theorem bLaw_1221 {p : Program} {l : Launch} {e : Env} {s : State} {m : MethodId} {below : List Frame} {meth : Method} {c : Code} {st : Nat → Nat} {D : va_G} {b L : Nat} {xs : Nat → Int32} {ad am : Nat → Nat} {cy cm : Nat → ClassId} {ao : Nat} {co : ClassId} (hC : zC p m c cL_law 8 s #[Value.ref b] wzL_law RL meth ret) (hst : l.stackTraces = false) (hX : va_X b L xs s s.heap) (hbl : b < s.heap.size) (hbA : ¬ (fun q : Nat => s.heap.size ≤ q) b) {n : Nat} {kn : zSt → (Nat → Int64) → zSt → Int32 → Option Int32} (hk : ∀ (H : Heap) (locs : List Loc) (μ : zSt) (o : Nat → Int64) (σ : zSt) (ls : Array Slot) (x4 : Int32) (cells slots : Nat), cells + n ≤ 600128 → slots + 6 * n ≤ 7301064 → zLw st D ad cy am cm ao co μ o σ s H locs → lv_has ls 8 [(4, .int x4), (3, .ref ao), (2, .ref (am 0)), (1, .ref (ad 0)), (0, .ref b)] → kn μ o σ x4 = some 1 → W p l e room_1 s m #[Value.ref b] below meth c H locs cells slots (lw_Z below #[Value.ref b] s) (F0 m 33 ls [])) {H : Heap} {locs : List Loc} {μ : zSt} {o : Nat → Int64} {σ : zSt} {ls : Array Slot} {x4 : Int32} {cells slots : Nat} (hc : cells + (n + 1) ≤ 600128) (hs : slots + 6 * (n + 1) ≤ 7301064) (hI : zLw st D ad cy am cm ao co μ o σ s H locs) (hl : lv_has ls 8 [(4, .int x4), (3, .ref ao), (2, .ref (am 0)), (1, .ref (ad 0)), (0, .ref b)]) (hf : fLaw_1221 xs L kn μ o σ x4 = some 1) : W p l e room_1 s m #[Value.ref b] below meth c H locs cells slots (lw_Z below #[Value.ref b] s) (F0 m 1221 ls []) := by
  have hx := hC.1
  have hb := hC.2.1
  unfold fLaw_1221 at hf
  refine lv_aload_n hx hb dL_law_1221 rfl (lv_at hl 3 rfl) ?_
  refine lv_aload_n hx hb dL_law_1222 rfl (lv_at hl 4 rfl) ?_
  refine lv_iload hx hb dL_law_1223 (lv_at hl 0 rfl) ?_
  refine lv_iconst (v := 1) hx hb dL_law_1225 (by decide) ?_
  refine lv_iadd hx hb dL_law_1226 ?_
  obtain ⟨q, hf⟩ := zck_use hf
  refine va_sld hx hb hX hbl hbA hI.2.2.2.1 (zin_in q) dL_law_1227 ?_
  refine lv_aload_n hx hb dL_law_1228 rfl (lv_at hl 1 rfl) ?_
  obtain ⟨o155, σ155, v156, g155, hf⟩ := zbh_use hf
  refine z_fcallH (u := wM am cm μ) (w := fun x : zHs => zHo ao co x.1 ++ wC ad cy x.2) (x := (o, σ)) (As := [.ref (ad 0), .int (xs (x4 + 1).toNatClampNeg), .ref ao]) (rest := []) hC hI (zKH hI.1) (cL_row_met st l hst D ad cy ao co o σ (xs (x4 + 1).toNatClampNeg) _ g155) (zgS zw91_5 zw91_6 zw1_10 zw91_7) rfl ⟨rfl, rfl⟩ 3 hdL_row ⟨Nat.le_of_ble_eq_true rfl, Nat.le_of_ble_eq_true rfl⟩ rfl hl rfl (Nat.le_of_ble_eq_true rfl) dL_law_1229 ⟨by show cells + 1 ≤ 600128; omega, by show slots + 6 ≤ 7301064; omega⟩ (fun H locs hI => ?_)
  have hI : zLw st D ad cy am cm ao co μ o155 σ155 s H locs := hI
  refine lv_istore (lv' := [(5, .int v156), (4, .int x4), (3, .ref ao), (2, .ref (am 0)), (1, .ref (ad 0)), (0, .ref b)]) hx hb dL_law_1232 hl (by decide) rfl (fun ls hl => ?_)
  refine lv_aload_n hx hb dL_law_1234 rfl (lv_at hl 3 rfl) ?_
  refine lv_aload_n hx hb dL_law_1235 rfl (lv_at hl 5 rfl) ?_
  refine lv_iload hx hb dL_law_1236 (lv_at hl 1 rfl) ?_
  refine lv_iconst (v := 1) hx hb dL_law_1238 (by decide) ?_
  refine lv_iadd hx hb dL_law_1239 ?_
  obtain ⟨q, hf⟩ := zck_use hf
  refine va_sld hx hb hX hbl hbA hI.2.2.2.1 (zin_in q) dL_law_1240 ?_
  obtain ⟨μ157, v158, g157, hf⟩ := zbi_use hf
  refine z_fcallVi (u := zHo ao co o155 ++ wC ad cy σ155) (w := wM am cm) (As := [.int (xs (x4 + 1).toNatClampNeg)]) (rest := []) hC (zI.swap hI) (zKM hI.1) (cX12_row_met st l D am cm μ (xs (x4 + 1).toNatClampNeg) _ g157) (zgV zw91_19 zw91_20 zw91_21 zw1_5 zw91_22) rfl ⟨rfl, rfl⟩ 1 hdX12_row ⟨Nat.le_of_ble_eq_true rfl, Nat.le_of_ble_eq_true rfl⟩ rfl rfl (wM_e0 am cm μ) rfl hl rfl (Nat.le_of_ble_eq_true rfl) dL_law_1241 ⟨by show cells + 1 ≤ 600128; omega, by show slots + 6 ≤ 7301064; omega⟩ (fun H locs hI => ?_)
  have hI : zLw st D ad cy am cm ao co μ157 o155 σ155 s H locs := zI.swap hI
  refine lv_istore (lv' := [(6, .int v158), (5, .int v156), (4, .int x4), (3, .ref ao), (2, .ref (am 0)), (1, .ref (ad 0)), (0, .ref b)]) hx hb dL_law_1244 hl (by decide) rfl (fun ls hl => ?_)
  refine lv_goto (tgt := 1390) hx hb dL_law_1246 (by decide) ?_
  obtain ⟨v159, ev159⟩ : ∃ z : Int32, z = x4 + 8 := ⟨_, rfl⟩
  replace hf := zbv_use ev159 hf
  refine lv_iinc (v := v159) (lv' := [(4, .int v159), (6, .int v158), (5, .int v156), (3, .ref ao), (2, .ref (am 0)), (1, .ref (ad 0)), (0, .ref b)]) hx hb dL_law_1390 hl (k := 2) rfl (by rw [ev159]; rfl) (by decide) rfl (fun ls hl => ?_)
  refine lv_goto (tgt := 33) hx hb dL_law_1393 (by decide) ?_
  exact hk _ _ _ _ _ _ _ _ _ (by omega) (by omega) hI (lv_sub hl [0, 3, 4, 5, 6] rfl) hf
