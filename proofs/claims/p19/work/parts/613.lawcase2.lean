def fLaw_915 (xs : Nat → Int32) (L : Nat) (kn : zSt → (Nat → Int64) → zSt → Int32 → Option Int32) (μ : zSt) (o : Nat → Int64) (σ : zSt) (x4 : Int32) : Option Int32 :=
  zck (zin (x4 + 1) L) (zbh (fL_register o σ (xs (x4 + 1).toNatClampNeg)) (fun o109 σ109 v110 =>
  zck (zin (x4 + 1) L) (zbi (fX12_register μ (xs (x4 + 1).toNatClampNeg)) (fun μ111 v112 =>
  zbv (x4 + 8) (fun v113 => kn μ111 o109 σ109 v113)))))
set_option maxRecDepth 20000 in
set_option maxHeartbeats 4000000 in
theorem bLaw_915 {p : Program} {l : Launch} {e : Env} {s : State} {m : MethodId} {below : List Frame} {meth : Method} {c : Code} {st : Nat → Nat} {D : va_G} {b L : Nat} {xs : Nat → Int32} {ad am : Nat → Nat} {cy cm : Nat → ClassId} {ao : Nat} {co : ClassId} (hC : zC p m c cL_law 8 s #[Value.ref b] wzL_law RL meth ret) (hst : l.stackTraces = false) (hX : va_X b L xs s s.heap) (hbl : b < s.heap.size) (hbA : ¬ (fun q : Nat => s.heap.size ≤ q) b) {n : Nat} {kn : zSt → (Nat → Int64) → zSt → Int32 → Option Int32} (hk : ∀ (H : Heap) (locs : List Loc) (μ : zSt) (o : Nat → Int64) (σ : zSt) (ls : Array Slot) (x4 : Int32) (cells slots : Nat), cells + n ≤ 600128 → slots + 6 * n ≤ 7301064 → zLw st D ad cy am cm ao co μ o σ s H locs → lv_has ls 8 [(4, .int x4), (3, .ref ao), (2, .ref (am 0)), (1, .ref (ad 0)), (0, .ref b)] → kn μ o σ x4 = some 1 → W p l e room_1 s m #[Value.ref b] below meth c H locs cells slots (lw_Z below #[Value.ref b] s) (F0 m 33 ls [])) {H : Heap} {locs : List Loc} {μ : zSt} {o : Nat → Int64} {σ : zSt} {ls : Array Slot} {x4 : Int32} {cells slots : Nat} (hc : cells + (n + 1) ≤ 600128) (hs : slots + 6 * (n + 1) ≤ 7301064) (hI : zLw st D ad cy am cm ao co μ o σ s H locs) (hl : lv_has ls 8 [(4, .int x4), (3, .ref ao), (2, .ref (am 0)), (1, .ref (ad 0)), (0, .ref b)]) (hf : fLaw_915 xs L kn μ o σ x4 = some 1) : W p l e room_1 s m #[Value.ref b] below meth c H locs cells slots (lw_Z below #[Value.ref b] s) (F0 m 915 ls []) := by
  have hx := hC.1
  have hb := hC.2.1
  unfold fLaw_915 at hf
  refine lv_aload_n hx hb dL_law_915 rfl (lv_at hl 3 rfl) ?_
  refine lv_aload_n hx hb dL_law_916 rfl (lv_at hl 4 rfl) ?_
  refine lv_iload hx hb dL_law_917 (lv_at hl 0 rfl) ?_
  refine lv_iconst (v := 1) hx hb dL_law_919 (by decide) ?_
  refine lv_iadd hx hb dL_law_920 ?_
  obtain ⟨q, hf⟩ := zck_use hf
  refine va_sld hx hb hX hbl hbA hI.2.2.2.1 (zin_in q) dL_law_921 ?_
  refine lv_aload_n hx hb dL_law_922 rfl (lv_at hl 1 rfl) ?_
  obtain ⟨o109, σ109, v110, g109, hf⟩ := zbh_use hf
  refine z_fcallH (u := wM am cm μ) (w := fun x : zHs => zHo ao co x.1 ++ wC ad cy x.2) (x := (o, σ)) (As := [.ref (ad 0), .int (xs (x4 + 1).toNatClampNeg), .ref ao]) (rest := []) hC hI (zKH hI.1) (cL_register_met st l hst D ad cy ao co o σ (xs (x4 + 1).toNatClampNeg) _ g109) (zgS zw84_20 zw84_21 zw1_10 zw84_22) rfl ⟨rfl, rfl⟩ 3 hdL_register ⟨Nat.le_of_ble_eq_true rfl, Nat.le_of_ble_eq_true rfl⟩ rfl hl rfl (Nat.le_of_ble_eq_true rfl) dL_law_923 ⟨by show cells + 1 ≤ 600128; omega, by show slots + 6 ≤ 7301064; omega⟩ (fun H locs hI => ?_)
  have hI : zLw st D ad cy am cm ao co μ o109 σ109 s H locs := hI
  refine lv_istore (lv' := [(5, .int v110), (4, .int x4), (3, .ref ao), (2, .ref (am 0)), (1, .ref (ad 0)), (0, .ref b)]) hx hb dL_law_926 hl (by decide) rfl (fun ls hl => ?_)
  refine lv_aload_n hx hb dL_law_928 rfl (lv_at hl 3 rfl) ?_
  refine lv_aload_n hx hb dL_law_929 rfl (lv_at hl 5 rfl) ?_
  refine lv_iload hx hb dL_law_930 (lv_at hl 1 rfl) ?_
  refine lv_iconst (v := 1) hx hb dL_law_932 (by decide) ?_
  refine lv_iadd hx hb dL_law_933 ?_
  obtain ⟨q, hf⟩ := zck_use hf
  refine va_sld hx hb hX hbl hbA hI.2.2.2.1 (zin_in q) dL_law_934 ?_
  obtain ⟨μ111, v112, g111, hf⟩ := zbi_use hf
  refine z_fcallVi (u := zHo ao co o109 ++ wC ad cy σ109) (w := wM am cm) (As := [.int (xs (x4 + 1).toNatClampNeg)]) (rest := []) hC (zI.swap hI) (zKM hI.1) (cX12_register_met st l D am cm μ (xs (x4 + 1).toNatClampNeg) _ g111) (zgV zw85_3 zw85_4 zw85_5 zw1_5 zw85_6) rfl ⟨rfl, rfl⟩ 1 hdX12_register ⟨Nat.le_of_ble_eq_true rfl, Nat.le_of_ble_eq_true rfl⟩ rfl rfl (wM_e0 am cm μ) rfl hl rfl (Nat.le_of_ble_eq_true rfl) dL_law_935 ⟨by show cells + 1 ≤ 600128; omega, by show slots + 6 ≤ 7301064; omega⟩ (fun H locs hI => ?_)
  have hI : zLw st D ad cy am cm ao co μ111 o109 σ109 s H locs := zI.swap hI
  refine lv_istore (lv' := [(6, .int v112), (5, .int v110), (4, .int x4), (3, .ref ao), (2, .ref (am 0)), (1, .ref (ad 0)), (0, .ref b)]) hx hb dL_law_938 hl (by decide) rfl (fun ls hl => ?_)
  refine lv_goto (tgt := 1401) hx hb dL_law_940 (by decide) ?_
  obtain ⟨v113, ev113⟩ : ∃ z : Int32, z = x4 + 8 := ⟨_, rfl⟩
  replace hf := zbv_use ev113 hf
  refine lv_iinc (v := v113) (lv' := [(4, .int v113), (6, .int v112), (5, .int v110), (3, .ref ao), (2, .ref (am 0)), (1, .ref (ad 0)), (0, .ref b)]) hx hb dL_law_1401 hl (k := 2) rfl (by rw [ev113]; rfl) (by decide) rfl (fun ls hl => ?_)
  refine lv_goto (tgt := 33) hx hb dL_law_1404 (by decide) ?_
  exact hk _ _ _ _ _ _ _ _ _ (by omega) (by omega) hI (lv_sub hl [0, 3, 4, 5, 6] rfl) hf
def fLaw_943 (xs : Nat → Int32) (L : Nat) (kn : zSt → (Nat → Int64) → zSt → Int32 → Option Int32) (μ : zSt) (o : Nat → Int64) (σ : zSt) (x4 : Int32) : Option Int32 :=
  zck (zin (x4 + 1) L) (zck (zin (x4 + 2) L) (zbi (fL_set σ (xs (x4 + 1).toNatClampNeg) (xs (x4 + 2).toNatClampNeg)) (fun σ114 v115 =>
  zck (zin (x4 + 1) L) (zck (zin (x4 + 2) L) (zbu (fX12_set μ (xs (x4 + 1).toNatClampNeg) (xs (x4 + 2).toNatClampNeg)) (fun μ116 =>
  zbv (x4 + 8) (fun v117 => kn μ116 o σ114 v117)))))))
set_option maxRecDepth 20000 in
set_option maxHeartbeats 4000000 in
theorem bLaw_943 {p : Program} {l : Launch} {e : Env} {s : State} {m : MethodId} {below : List Frame} {meth : Method} {c : Code} {st : Nat → Nat} {D : va_G} {b L : Nat} {xs : Nat → Int32} {ad am : Nat → Nat} {cy cm : Nat → ClassId} {ao : Nat} {co : ClassId} (hC : zC p m c cL_law 8 s #[Value.ref b] wzL_law RL meth ret) (hst : l.stackTraces = false) (hX : va_X b L xs s s.heap) (hbl : b < s.heap.size) (hbA : ¬ (fun q : Nat => s.heap.size ≤ q) b) {n : Nat} {kn : zSt → (Nat → Int64) → zSt → Int32 → Option Int32} (hk : ∀ (H : Heap) (locs : List Loc) (μ : zSt) (o : Nat → Int64) (σ : zSt) (ls : Array Slot) (x4 : Int32) (cells slots : Nat), cells + n ≤ 600128 → slots + 6 * n ≤ 7301064 → zLw st D ad cy am cm ao co μ o σ s H locs → lv_has ls 8 [(4, .int x4), (3, .ref ao), (2, .ref (am 0)), (1, .ref (ad 0)), (0, .ref b)] → kn μ o σ x4 = some 1 → W p l e room_1 s m #[Value.ref b] below meth c H locs cells slots (lw_Z below #[Value.ref b] s) (F0 m 33 ls [])) {H : Heap} {locs : List Loc} {μ : zSt} {o : Nat → Int64} {σ : zSt} {ls : Array Slot} {x4 : Int32} {cells slots : Nat} (hc : cells + (n + 1) ≤ 600128) (hs : slots + 6 * (n + 1) ≤ 7301064) (hI : zLw st D ad cy am cm ao co μ o σ s H locs) (hl : lv_has ls 8 [(4, .int x4), (3, .ref ao), (2, .ref (am 0)), (1, .ref (ad 0)), (0, .ref b)]) (hf : fLaw_943 xs L kn μ o σ x4 = some 1) : W p l e room_1 s m #[Value.ref b] below meth c H locs cells slots (lw_Z below #[Value.ref b] s) (F0 m 943 ls []) := by
  have hx := hC.1
  have hb := hC.2.1
  unfold fLaw_943 at hf
  refine lv_aload_n hx hb dL_law_943 rfl (lv_at hl 3 rfl) ?_
  refine lv_aload_n hx hb dL_law_944 rfl (lv_at hl 4 rfl) ?_
  refine lv_iload hx hb dL_law_945 (lv_at hl 0 rfl) ?_
  refine lv_iconst (v := 1) hx hb dL_law_947 (by decide) ?_
  refine lv_iadd hx hb dL_law_948 ?_
  obtain ⟨q, hf⟩ := zck_use hf
  refine va_sld hx hb hX hbl hbA hI.2.2.2.1 (zin_in q) dL_law_949 ?_
  refine lv_aload_n hx hb dL_law_950 rfl (lv_at hl 4 rfl) ?_
  refine lv_iload hx hb dL_law_951 (lv_at hl 0 rfl) ?_
  refine lv_iconst (v := 2) hx hb dL_law_953 (by decide) ?_
  refine lv_iadd hx hb dL_law_954 ?_
  obtain ⟨q, hf⟩ := zck_use hf
  refine va_sld hx hb hX hbl hbA hI.2.2.2.1 (zin_in q) dL_law_955 ?_
  obtain ⟨σ114, v115, g114, hf⟩ := zbi_use hf
  refine z_fcallH (u := wM am cm μ ++ zHo ao co o) (w := wC ad cy) (x := σ) (As := [.ref (ad 0), .int (xs (x4 + 1).toNatClampNeg), .int (xs (x4 + 2).toNatClampNeg)]) (rest := []) hC (zI.al hI) (zKC hI.1) (cL_set_met st l hst D ad cy σ (xs (x4 + 1).toNatClampNeg) (xs (x4 + 2).toNatClampNeg) _ g114) (zgS zw85_8 zw85_9 zw1_10 zw85_10) rfl ⟨rfl, rfl⟩ 3 hdL_set ⟨Nat.le_of_ble_eq_true rfl, Nat.le_of_ble_eq_true rfl⟩ rfl hl rfl (Nat.le_of_ble_eq_true rfl) dL_law_956 ⟨by show cells + 1 ≤ 600128; omega, by show slots + 6 ≤ 7301064; omega⟩ (fun H locs hI => ?_)
  have hI : zLw st D ad cy am cm ao co μ o σ114 s H locs := zI.ar hI
  refine lv_istore (lv' := [(5, .int v115), (4, .int x4), (3, .ref ao), (2, .ref (am 0)), (1, .ref (ad 0)), (0, .ref b)]) hx hb dL_law_959 hl (by decide) rfl (fun ls hl => ?_)
  refine lv_aload_n hx hb dL_law_961 rfl (lv_at hl 3 rfl) ?_
  refine lv_aload_n hx hb dL_law_962 rfl (lv_at hl 5 rfl) ?_
  refine lv_iload hx hb dL_law_963 (lv_at hl 1 rfl) ?_
  refine lv_iconst (v := 1) hx hb dL_law_965 (by decide) ?_
  refine lv_iadd hx hb dL_law_966 ?_
  obtain ⟨q, hf⟩ := zck_use hf
  refine va_sld hx hb hX hbl hbA hI.2.2.2.1 (zin_in q) dL_law_967 ?_
  refine lv_aload_n hx hb dL_law_968 rfl (lv_at hl 5 rfl) ?_
  refine lv_iload hx hb dL_law_969 (lv_at hl 1 rfl) ?_
  refine lv_iconst (v := 2) hx hb dL_law_971 (by decide) ?_
  refine lv_iadd hx hb dL_law_972 ?_
  obtain ⟨q, hf⟩ := zck_use hf
  refine va_sld hx hb hX hbl hbA hI.2.2.2.1 (zin_in q) dL_law_973 ?_
  obtain ⟨μ116, g116, hf⟩ := zbu_use hf
  refine z_fcallVu (u := zHo ao co o ++ wC ad cy σ114) (w := wM am cm) (As := [.int (xs (x4 + 1).toNatClampNeg), .int (xs (x4 + 2).toNatClampNeg)]) (rest := []) hC (zI.swap hI) (zKM hI.1) (cX12_set_met st l D am cm μ (xs (x4 + 1).toNatClampNeg) (xs (x4 + 2).toNatClampNeg) _ g116) (zgV zw85_20 zw85_21 zw85_22 zw1_5 zw85_23) rfl ⟨rfl, rfl⟩ 2 hdX12_set ⟨Nat.le_of_ble_eq_true rfl, Nat.le_of_ble_eq_true rfl⟩ rfl rfl (wM_e0 am cm μ) rfl hl rfl (Nat.le_of_ble_eq_true rfl) dL_law_974 ⟨by show cells + 1 ≤ 600128; omega, by show slots + 6 ≤ 7301064; omega⟩ (fun H locs hI => ?_)
  have hI : zLw st D ad cy am cm ao co μ116 o σ114 s H locs := zI.swap hI
  refine lv_goto (tgt := 1401) hx hb dL_law_977 (by decide) ?_
  obtain ⟨v117, ev117⟩ : ∃ z : Int32, z = x4 + 8 := ⟨_, rfl⟩
  replace hf := zbv_use ev117 hf
  refine lv_iinc (v := v117) (lv' := [(4, .int v117), (5, .int v115), (3, .ref ao), (2, .ref (am 0)), (1, .ref (ad 0)), (0, .ref b)]) hx hb dL_law_1401 hl (k := 1) rfl (by rw [ev117]; rfl) (by decide) rfl (fun ls hl => ?_)
  refine lv_goto (tgt := 33) hx hb dL_law_1404 (by decide) ?_
  exact hk _ _ _ _ _ _ _ _ _ (by omega) (by omega) hI (lv_sub hl [0, 2, 3, 4, 5] rfl) hf
def fLaw_980 (xs : Nat → Int32) (L : Nat) (kn : zSt → (Nat → Int64) → zSt → Int32 → Option Int32) (μ : zSt) (o : Nat → Int64) (σ : zSt) (x4 : Int32) : Option Int32 :=
  zck (zin (x4 + 1) L) (zbi (fX11_peek σ (xs (x4 + 1).toNatClampNeg)) (fun σ118 v119 =>
  zck (zin (x4 + 1) L) (zbi (fX12_peek μ (xs (x4 + 1).toNatClampNeg)) (fun μ120 v121 =>
  zbv (x4 + 8) (fun v122 => kn μ120 o σ118 v122)))))
set_option maxRecDepth 20000 in
set_option maxHeartbeats 4000000 in
theorem bLaw_980 {p : Program} {l : Launch} {e : Env} {s : State} {m : MethodId} {below : List Frame} {meth : Method} {c : Code} {st : Nat → Nat} {D : va_G} {b L : Nat} {xs : Nat → Int32} {ad am : Nat → Nat} {cy cm : Nat → ClassId} {ao : Nat} {co : ClassId} (hC : zC p m c cL_law 8 s #[Value.ref b] wzL_law RL meth ret) (hst : l.stackTraces = false) (hX : va_X b L xs s s.heap) (hbl : b < s.heap.size) (hbA : ¬ (fun q : Nat => s.heap.size ≤ q) b) {n : Nat} {kn : zSt → (Nat → Int64) → zSt → Int32 → Option Int32} (hk : ∀ (H : Heap) (locs : List Loc) (μ : zSt) (o : Nat → Int64) (σ : zSt) (ls : Array Slot) (x4 : Int32) (cells slots : Nat), cells + n ≤ 600128 → slots + 6 * n ≤ 7301064 → zLw st D ad cy am cm ao co μ o σ s H locs → lv_has ls 8 [(4, .int x4), (3, .ref ao), (2, .ref (am 0)), (1, .ref (ad 0)), (0, .ref b)] → kn μ o σ x4 = some 1 → W p l e room_1 s m #[Value.ref b] below meth c H locs cells slots (lw_Z below #[Value.ref b] s) (F0 m 33 ls [])) {H : Heap} {locs : List Loc} {μ : zSt} {o : Nat → Int64} {σ : zSt} {ls : Array Slot} {x4 : Int32} {cells slots : Nat} (hc : cells + (n + 1) ≤ 600128) (hs : slots + 6 * (n + 1) ≤ 7301064) (hI : zLw st D ad cy am cm ao co μ o σ s H locs) (hl : lv_has ls 8 [(4, .int x4), (3, .ref ao), (2, .ref (am 0)), (1, .ref (ad 0)), (0, .ref b)]) (hf : fLaw_980 xs L kn μ o σ x4 = some 1) : W p l e room_1 s m #[Value.ref b] below meth c H locs cells slots (lw_Z below #[Value.ref b] s) (F0 m 980 ls []) := by
  have hx := hC.1
  have hb := hC.2.1
  unfold fLaw_980 at hf
  refine lv_aload_n hx hb dL_law_980 rfl (lv_at hl 3 rfl) ?_
  refine lv_aload_n hx hb dL_law_981 rfl (lv_at hl 4 rfl) ?_
  refine lv_iload hx hb dL_law_982 (lv_at hl 0 rfl) ?_
  refine lv_iconst (v := 1) hx hb dL_law_984 (by decide) ?_
  refine lv_iadd hx hb dL_law_985 ?_
  obtain ⟨q, hf⟩ := zck_use hf
  refine va_sld hx hb hX hbl hbA hI.2.2.2.1 (zin_in q) dL_law_986 ?_
  obtain ⟨σ118, v119, g118, hf⟩ := zbi_use hf
  refine z_fcallVi (u := wM am cm μ ++ zHo ao co o) (w := wC ad cy) (As := [.int (xs (x4 + 1).toNatClampNeg)]) (rest := []) hC (zI.al hI) (zKC hI.1) (cX11_peek_met st l D ad cy σ (xs (x4 + 1).toNatClampNeg) _ g118) (zgV zw86_1 zw86_2 zw86_3 zw1_2 zw86_4) rfl ⟨rfl, rfl⟩ 1 hdX11_peek ⟨Nat.le_of_ble_eq_true rfl, Nat.le_of_ble_eq_true rfl⟩ rfl rfl (wC_e0 ad cy σ) rfl hl rfl (Nat.le_of_ble_eq_true rfl) dL_law_987 ⟨by show cells ≤ 600128; omega, by show slots ≤ 7301064; omega⟩ (fun H locs hI => ?_)
  have hI : zLw st D ad cy am cm ao co μ o σ118 s H locs := zI.ar hI
  refine lv_pop hx hb dL_law_990 rfl ?_
  refine lv_aload_n hx hb dL_law_991 rfl (lv_at hl 2 rfl) ?_
  refine lv_aload_n hx hb dL_law_992 rfl (lv_at hl 4 rfl) ?_
  refine lv_iload hx hb dL_law_993 (lv_at hl 0 rfl) ?_
  refine lv_iconst (v := 1) hx hb dL_law_995 (by decide) ?_
  refine lv_iadd hx hb dL_law_996 ?_
  obtain ⟨q, hf⟩ := zck_use hf
  refine va_sld hx hb hX hbl hbA hI.2.2.2.1 (zin_in q) dL_law_997 ?_
  obtain ⟨μ120, v121, g120, hf⟩ := zbi_use hf
  refine z_fcallVi (u := zHo ao co o ++ wC ad cy σ118) (w := wM am cm) (As := [.int (xs (x4 + 1).toNatClampNeg)]) (rest := []) hC (zI.swap hI) (zKM hI.1) (cX12_peek_met st l D am cm μ (xs (x4 + 1).toNatClampNeg) _ g120) (zgV zw86_6 zw86_7 zw86_8 zw1_5 zw86_9) rfl ⟨rfl, rfl⟩ 1 hdX12_peek ⟨Nat.le_of_ble_eq_true rfl, Nat.le_of_ble_eq_true rfl⟩ rfl rfl (wM_e0 am cm μ) rfl hl rfl (Nat.le_of_ble_eq_true rfl) dL_law_998 ⟨by show cells ≤ 600128; omega, by show slots ≤ 7301064; omega⟩ (fun H locs hI => ?_)
  have hI : zLw st D ad cy am cm ao co μ120 o σ118 s H locs := zI.swap hI
  refine lv_pop hx hb dL_law_1001 rfl ?_
  refine lv_goto (tgt := 1401) hx hb dL_law_1002 (by decide) ?_
  obtain ⟨v122, ev122⟩ : ∃ z : Int32, z = x4 + 8 := ⟨_, rfl⟩
  replace hf := zbv_use ev122 hf
  refine lv_iinc (v := v122) (lv' := [(4, .int v122), (3, .ref ao), (2, .ref (am 0)), (1, .ref (ad 0)), (0, .ref b)]) hx hb dL_law_1401 hl (k := 0) rfl (by rw [ev122]; rfl) (by decide) rfl (fun ls hl => ?_)
  refine lv_goto (tgt := 33) hx hb dL_law_1404 (by decide) ?_
  exact hk _ _ _ _ _ _ _ _ _ (by omega) (by omega) hI (lv_sub hl [0, 1, 2, 3, 4] rfl) hf
def fLaw_1005 (xs : Nat → Int32) (L : Nat) (kn : zSt → (Nat → Int64) → zSt → Int32 → Option Int32) (μ : zSt) (o : Nat → Int64) (σ : zSt) (x4 : Int32) : Option Int32 :=
  zck (zin (x4 + 1) L) (zck (zin (x4 + 2) L) (zbu (fX11_poke σ (xs (x4 + 1).toNatClampNeg) (xs (x4 + 2).toNatClampNeg)) (fun σ123 =>
  zck (zin (x4 + 1) L) (zck (zin (x4 + 2) L) (zbu (fX12_poke μ (xs (x4 + 1).toNatClampNeg) (xs (x4 + 2).toNatClampNeg)) (fun μ124 =>
  zbv (x4 + 8) (fun v125 => kn μ124 o σ123 v125)))))))
set_option maxRecDepth 20000 in
set_option maxHeartbeats 4000000 in
theorem bLaw_1005 {p : Program} {l : Launch} {e : Env} {s : State} {m : MethodId} {below : List Frame} {meth : Method} {c : Code} {st : Nat → Nat} {D : va_G} {b L : Nat} {xs : Nat → Int32} {ad am : Nat → Nat} {cy cm : Nat → ClassId} {ao : Nat} {co : ClassId} (hC : zC p m c cL_law 8 s #[Value.ref b] wzL_law RL meth ret) (hst : l.stackTraces = false) (hX : va_X b L xs s s.heap) (hbl : b < s.heap.size) (hbA : ¬ (fun q : Nat => s.heap.size ≤ q) b) {n : Nat} {kn : zSt → (Nat → Int64) → zSt → Int32 → Option Int32} (hk : ∀ (H : Heap) (locs : List Loc) (μ : zSt) (o : Nat → Int64) (σ : zSt) (ls : Array Slot) (x4 : Int32) (cells slots : Nat), cells + n ≤ 600128 → slots + 6 * n ≤ 7301064 → zLw st D ad cy am cm ao co μ o σ s H locs → lv_has ls 8 [(4, .int x4), (3, .ref ao), (2, .ref (am 0)), (1, .ref (ad 0)), (0, .ref b)] → kn μ o σ x4 = some 1 → W p l e room_1 s m #[Value.ref b] below meth c H locs cells slots (lw_Z below #[Value.ref b] s) (F0 m 33 ls [])) {H : Heap} {locs : List Loc} {μ : zSt} {o : Nat → Int64} {σ : zSt} {ls : Array Slot} {x4 : Int32} {cells slots : Nat} (hc : cells + (n + 1) ≤ 600128) (hs : slots + 6 * (n + 1) ≤ 7301064) (hI : zLw st D ad cy am cm ao co μ o σ s H locs) (hl : lv_has ls 8 [(4, .int x4), (3, .ref ao), (2, .ref (am 0)), (1, .ref (ad 0)), (0, .ref b)]) (hf : fLaw_1005 xs L kn μ o σ x4 = some 1) : W p l e room_1 s m #[Value.ref b] below meth c H locs cells slots (lw_Z below #[Value.ref b] s) (F0 m 1005 ls []) := by
  have hx := hC.1
  have hb := hC.2.1
  unfold fLaw_1005 at hf
  refine lv_aload_n hx hb dL_law_1005 rfl (lv_at hl 3 rfl) ?_
  refine lv_aload_n hx hb dL_law_1006 rfl (lv_at hl 4 rfl) ?_
  refine lv_iload hx hb dL_law_1007 (lv_at hl 0 rfl) ?_
  refine lv_iconst (v := 1) hx hb dL_law_1009 (by decide) ?_
  refine lv_iadd hx hb dL_law_1010 ?_
  obtain ⟨q, hf⟩ := zck_use hf
  refine va_sld hx hb hX hbl hbA hI.2.2.2.1 (zin_in q) dL_law_1011 ?_
  refine lv_aload_n hx hb dL_law_1012 rfl (lv_at hl 4 rfl) ?_
  refine lv_iload hx hb dL_law_1013 (lv_at hl 0 rfl) ?_
  refine lv_iconst (v := 2) hx hb dL_law_1015 (by decide) ?_
  refine lv_iadd hx hb dL_law_1016 ?_
  obtain ⟨q, hf⟩ := zck_use hf
  refine va_sld hx hb hX hbl hbA hI.2.2.2.1 (zin_in q) dL_law_1017 ?_
  obtain ⟨σ123, g123, hf⟩ := zbu_use hf
  refine z_fcallVu (u := wM am cm μ ++ zHo ao co o) (w := wC ad cy) (As := [.int (xs (x4 + 1).toNatClampNeg), .int (xs (x4 + 2).toNatClampNeg)]) (rest := []) hC (zI.al hI) (zKC hI.1) (cX11_poke_met st l D ad cy σ (xs (x4 + 1).toNatClampNeg) (xs (x4 + 2).toNatClampNeg) _ g123) (zgV zw86_10 zw86_11 zw86_12 zw1_2 zw86_13) rfl ⟨rfl, rfl⟩ 2 hdX11_poke ⟨Nat.le_of_ble_eq_true rfl, Nat.le_of_ble_eq_true rfl⟩ rfl rfl (wC_e0 ad cy σ) rfl hl rfl (Nat.le_of_ble_eq_true rfl) dL_law_1018 ⟨by show cells ≤ 600128; omega, by show slots ≤ 7301064; omega⟩ (fun H locs hI => ?_)
  have hI : zLw st D ad cy am cm ao co μ o σ123 s H locs := zI.ar hI
  refine lv_aload_n hx hb dL_law_1021 rfl (lv_at hl 2 rfl) ?_
  refine lv_aload_n hx hb dL_law_1022 rfl (lv_at hl 4 rfl) ?_
  refine lv_iload hx hb dL_law_1023 (lv_at hl 0 rfl) ?_
  refine lv_iconst (v := 1) hx hb dL_law_1025 (by decide) ?_
  refine lv_iadd hx hb dL_law_1026 ?_
  obtain ⟨q, hf⟩ := zck_use hf
  refine va_sld hx hb hX hbl hbA hI.2.2.2.1 (zin_in q) dL_law_1027 ?_
  refine lv_aload_n hx hb dL_law_1028 rfl (lv_at hl 4 rfl) ?_
  refine lv_iload hx hb dL_law_1029 (lv_at hl 0 rfl) ?_
  refine lv_iconst (v := 2) hx hb dL_law_1031 (by decide) ?_
  refine lv_iadd hx hb dL_law_1032 ?_
  obtain ⟨q, hf⟩ := zck_use hf
  refine va_sld hx hb hX hbl hbA hI.2.2.2.1 (zin_in q) dL_law_1033 ?_
  obtain ⟨μ124, g124, hf⟩ := zbu_use hf
  refine z_fcallVu (u := zHo ao co o ++ wC ad cy σ123) (w := wM am cm) (As := [.int (xs (x4 + 1).toNatClampNeg), .int (xs (x4 + 2).toNatClampNeg)]) (rest := []) hC (zI.swap hI) (zKM hI.1) (cX12_poke_met st l D am cm μ (xs (x4 + 1).toNatClampNeg) (xs (x4 + 2).toNatClampNeg) _ g124) (zgV zw86_15 zw86_16 zw86_17 zw1_5 zw86_18) rfl ⟨rfl, rfl⟩ 2 hdX12_poke ⟨Nat.le_of_ble_eq_true rfl, Nat.le_of_ble_eq_true rfl⟩ rfl rfl (wM_e0 am cm μ) rfl hl rfl (Nat.le_of_ble_eq_true rfl) dL_law_1034 ⟨by show cells ≤ 600128; omega, by show slots ≤ 7301064; omega⟩ (fun H locs hI => ?_)
  have hI : zLw st D ad cy am cm ao co μ124 o σ123 s H locs := zI.swap hI
  refine lv_goto (tgt := 1401) hx hb dL_law_1037 (by decide) ?_
  obtain ⟨v125, ev125⟩ : ∃ z : Int32, z = x4 + 8 := ⟨_, rfl⟩
  replace hf := zbv_use ev125 hf
  refine lv_iinc (v := v125) (lv' := [(4, .int v125), (3, .ref ao), (2, .ref (am 0)), (1, .ref (ad 0)), (0, .ref b)]) hx hb dL_law_1401 hl (k := 0) rfl (by rw [ev125]; rfl) (by decide) rfl (fun ls hl => ?_)
  refine lv_goto (tgt := 33) hx hb dL_law_1404 (by decide) ?_
  exact hk _ _ _ _ _ _ _ _ _ (by omega) (by omega) hI (lv_sub hl [0, 1, 2, 3, 4] rfl) hf
def fLaw_1040 (xs : Nat → Int32) (L : Nat) (kn : zSt → (Nat → Int64) → zSt → Int32 → Option Int32) (μ : zSt) (o : Nat → Int64) (σ : zSt) (x4 : Int32) : Option Int32 :=
  zck (zin (x4 + 1) L) (zbi (fX11_in σ (xs (x4 + 1).toNatClampNeg)) (fun σ126 v127 =>
  zck (zin (x4 + 1) L) (zbi (fX12_in μ (xs (x4 + 1).toNatClampNeg)) (fun μ128 v129 =>
  zbv (x4 + 8) (fun v130 => kn μ128 o σ126 v130)))))
set_option maxRecDepth 20000 in
set_option maxHeartbeats 4000000 in
theorem bLaw_1040 {p : Program} {l : Launch} {e : Env} {s : State} {m : MethodId} {below : List Frame} {meth : Method} {c : Code} {st : Nat → Nat} {D : va_G} {b L : Nat} {xs : Nat → Int32} {ad am : Nat → Nat} {cy cm : Nat → ClassId} {ao : Nat} {co : ClassId} (hC : zC p m c cL_law 8 s #[Value.ref b] wzL_law RL meth ret) (hst : l.stackTraces = false) (hX : va_X b L xs s s.heap) (hbl : b < s.heap.size) (hbA : ¬ (fun q : Nat => s.heap.size ≤ q) b) {n : Nat} {kn : zSt → (Nat → Int64) → zSt → Int32 → Option Int32} (hk : ∀ (H : Heap) (locs : List Loc) (μ : zSt) (o : Nat → Int64) (σ : zSt) (ls : Array Slot) (x4 : Int32) (cells slots : Nat), cells + n ≤ 600128 → slots + 6 * n ≤ 7301064 → zLw st D ad cy am cm ao co μ o σ s H locs → lv_has ls 8 [(4, .int x4), (3, .ref ao), (2, .ref (am 0)), (1, .ref (ad 0)), (0, .ref b)] → kn μ o σ x4 = some 1 → W p l e room_1 s m #[Value.ref b] below meth c H locs cells slots (lw_Z below #[Value.ref b] s) (F0 m 33 ls [])) {H : Heap} {locs : List Loc} {μ : zSt} {o : Nat → Int64} {σ : zSt} {ls : Array Slot} {x4 : Int32} {cells slots : Nat} (hc : cells + (n + 1) ≤ 600128) (hs : slots + 6 * (n + 1) ≤ 7301064) (hI : zLw st D ad cy am cm ao co μ o σ s H locs) (hl : lv_has ls 8 [(4, .int x4), (3, .ref ao), (2, .ref (am 0)), (1, .ref (ad 0)), (0, .ref b)]) (hf : fLaw_1040 xs L kn μ o σ x4 = some 1) : W p l e room_1 s m #[Value.ref b] below meth c H locs cells slots (lw_Z below #[Value.ref b] s) (F0 m 1040 ls []) := by
  have hx := hC.1
  have hb := hC.2.1
  unfold fLaw_1040 at hf
  refine lv_aload_n hx hb dL_law_1040 rfl (lv_at hl 3 rfl) ?_
  refine lv_aload_n hx hb dL_law_1041 rfl (lv_at hl 4 rfl) ?_
  refine lv_iload hx hb dL_law_1042 (lv_at hl 0 rfl) ?_
  refine lv_iconst (v := 1) hx hb dL_law_1044 (by decide) ?_
  refine lv_iadd hx hb dL_law_1045 ?_
  obtain ⟨q, hf⟩ := zck_use hf
  refine va_sld hx hb hX hbl hbA hI.2.2.2.1 (zin_in q) dL_law_1046 ?_
  obtain ⟨σ126, v127, g126, hf⟩ := zbi_use hf
  refine z_fcallVi (u := wM am cm μ ++ zHo ao co o) (w := wC ad cy) (As := [.int (xs (x4 + 1).toNatClampNeg)]) (rest := []) hC (zI.al hI) (zKC hI.1) (cX11_in_met st l D ad cy σ (xs (x4 + 1).toNatClampNeg) _ g126) (zgV zw86_19 zw86_20 zw86_21 zw1_2 zw86_22) rfl ⟨rfl, rfl⟩ 1 hdX11_in ⟨Nat.le_of_ble_eq_true rfl, Nat.le_of_ble_eq_true rfl⟩ rfl rfl (wC_e0 ad cy σ) rfl hl rfl (Nat.le_of_ble_eq_true rfl) dL_law_1047 ⟨by show cells ≤ 600128; omega, by show slots ≤ 7301064; omega⟩ (fun H locs hI => ?_)
  have hI : zLw st D ad cy am cm ao co μ o σ126 s H locs := zI.ar hI
  refine lv_pop hx hb dL_law_1050 rfl ?_
  refine lv_aload_n hx hb dL_law_1051 rfl (lv_at hl 2 rfl) ?_
  refine lv_aload_n hx hb dL_law_1052 rfl (lv_at hl 4 rfl) ?_
  refine lv_iload hx hb dL_law_1053 (lv_at hl 0 rfl) ?_
  refine lv_iconst (v := 1) hx hb dL_law_1055 (by decide) ?_
  refine lv_iadd hx hb dL_law_1056 ?_
  obtain ⟨q, hf⟩ := zck_use hf
  refine va_sld hx hb hX hbl hbA hI.2.2.2.1 (zin_in q) dL_law_1057 ?_
  obtain ⟨μ128, v129, g128, hf⟩ := zbi_use hf
  refine z_fcallVi (u := zHo ao co o ++ wC ad cy σ126) (w := wM am cm) (As := [.int (xs (x4 + 1).toNatClampNeg)]) (rest := []) hC (zI.swap hI) (zKM hI.1) (cX12_in_met st l D am cm μ (xs (x4 + 1).toNatClampNeg) _ g128) (zgV zw87_0 zw87_1 zw87_2 zw1_5 zw87_3) rfl ⟨rfl, rfl⟩ 1 hdX12_in ⟨Nat.le_of_ble_eq_true rfl, Nat.le_of_ble_eq_true rfl⟩ rfl rfl (wM_e0 am cm μ) rfl hl rfl (Nat.le_of_ble_eq_true rfl) dL_law_1058 ⟨by show cells ≤ 600128; omega, by show slots ≤ 7301064; omega⟩ (fun H locs hI => ?_)
  have hI : zLw st D ad cy am cm ao co μ128 o σ126 s H locs := zI.swap hI
  refine lv_pop hx hb dL_law_1061 rfl ?_
  refine lv_goto (tgt := 1401) hx hb dL_law_1062 (by decide) ?_
  obtain ⟨v130, ev130⟩ : ∃ z : Int32, z = x4 + 8 := ⟨_, rfl⟩
  replace hf := zbv_use ev130 hf
  refine lv_iinc (v := v130) (lv' := [(4, .int v130), (3, .ref ao), (2, .ref (am 0)), (1, .ref (ad 0)), (0, .ref b)]) hx hb dL_law_1401 hl (k := 0) rfl (by rw [ev130]; rfl) (by decide) rfl (fun ls hl => ?_)
  refine lv_goto (tgt := 33) hx hb dL_law_1404 (by decide) ?_
  exact hk _ _ _ _ _ _ _ _ _ (by omega) (by omega) hI (lv_sub hl [0, 1, 2, 3, 4] rfl) hf
def fLaw_1065 (xs : Nat → Int32) (L : Nat) (kn : zSt → (Nat → Int64) → zSt → Int32 → Option Int32) (μ : zSt) (o : Nat → Int64) (σ : zSt) (x4 : Int32) : Option Int32 :=
  zck (zin (x4 + 1) L) (zck (zin (x4 + 2) L) (zbu (fX11_out σ (xs (x4 + 1).toNatClampNeg) (xs (x4 + 2).toNatClampNeg)) (fun σ131 =>
  zck (zin (x4 + 1) L) (zck (zin (x4 + 2) L) (zbu (fX12_out μ (xs (x4 + 1).toNatClampNeg) (xs (x4 + 2).toNatClampNeg)) (fun μ132 =>
  zbv (x4 + 8) (fun v133 => kn μ132 o σ131 v133)))))))
set_option maxRecDepth 20000 in
set_option maxHeartbeats 4000000 in
theorem bLaw_1065 {p : Program} {l : Launch} {e : Env} {s : State} {m : MethodId} {below : List Frame} {meth : Method} {c : Code} {st : Nat → Nat} {D : va_G} {b L : Nat} {xs : Nat → Int32} {ad am : Nat → Nat} {cy cm : Nat → ClassId} {ao : Nat} {co : ClassId} (hC : zC p m c cL_law 8 s #[Value.ref b] wzL_law RL meth ret) (hst : l.stackTraces = false) (hX : va_X b L xs s s.heap) (hbl : b < s.heap.size) (hbA : ¬ (fun q : Nat => s.heap.size ≤ q) b) {n : Nat} {kn : zSt → (Nat → Int64) → zSt → Int32 → Option Int32} (hk : ∀ (H : Heap) (locs : List Loc) (μ : zSt) (o : Nat → Int64) (σ : zSt) (ls : Array Slot) (x4 : Int32) (cells slots : Nat), cells + n ≤ 600128 → slots + 6 * n ≤ 7301064 → zLw st D ad cy am cm ao co μ o σ s H locs → lv_has ls 8 [(4, .int x4), (3, .ref ao), (2, .ref (am 0)), (1, .ref (ad 0)), (0, .ref b)] → kn μ o σ x4 = some 1 → W p l e room_1 s m #[Value.ref b] below meth c H locs cells slots (lw_Z below #[Value.ref b] s) (F0 m 33 ls [])) {H : Heap} {locs : List Loc} {μ : zSt} {o : Nat → Int64} {σ : zSt} {ls : Array Slot} {x4 : Int32} {cells slots : Nat} (hc : cells + (n + 1) ≤ 600128) (hs : slots + 6 * (n + 1) ≤ 7301064) (hI : zLw st D ad cy am cm ao co μ o σ s H locs) (hl : lv_has ls 8 [(4, .int x4), (3, .ref ao), (2, .ref (am 0)), (1, .ref (ad 0)), (0, .ref b)]) (hf : fLaw_1065 xs L kn μ o σ x4 = some 1) : W p l e room_1 s m #[Value.ref b] below meth c H locs cells slots (lw_Z below #[Value.ref b] s) (F0 m 1065 ls []) := by
  have hx := hC.1
  have hb := hC.2.1
  unfold fLaw_1065 at hf
  refine lv_aload_n hx hb dL_law_1065 rfl (lv_at hl 3 rfl) ?_
  refine lv_aload_n hx hb dL_law_1066 rfl (lv_at hl 4 rfl) ?_
  refine lv_iload hx hb dL_law_1067 (lv_at hl 0 rfl) ?_
  refine lv_iconst (v := 1) hx hb dL_law_1069 (by decide) ?_
  refine lv_iadd hx hb dL_law_1070 ?_
  obtain ⟨q, hf⟩ := zck_use hf
  refine va_sld hx hb hX hbl hbA hI.2.2.2.1 (zin_in q) dL_law_1071 ?_
  refine lv_aload_n hx hb dL_law_1072 rfl (lv_at hl 4 rfl) ?_
  refine lv_iload hx hb dL_law_1073 (lv_at hl 0 rfl) ?_
  refine lv_iconst (v := 2) hx hb dL_law_1075 (by decide) ?_
  refine lv_iadd hx hb dL_law_1076 ?_
  obtain ⟨q, hf⟩ := zck_use hf
  refine va_sld hx hb hX hbl hbA hI.2.2.2.1 (zin_in q) dL_law_1077 ?_
  obtain ⟨σ131, g131, hf⟩ := zbu_use hf
  refine z_fcallVu (u := wM am cm μ ++ zHo ao co o) (w := wC ad cy) (As := [.int (xs (x4 + 1).toNatClampNeg), .int (xs (x4 + 2).toNatClampNeg)]) (rest := []) hC (zI.al hI) (zKC hI.1) (cX11_out_met st l D ad cy σ (xs (x4 + 1).toNatClampNeg) (xs (x4 + 2).toNatClampNeg) _ g131) (zgV zw87_4 zw87_5 zw87_6 zw1_2 zw87_7) rfl ⟨rfl, rfl⟩ 2 hdX11_out ⟨Nat.le_of_ble_eq_true rfl, Nat.le_of_ble_eq_true rfl⟩ rfl rfl (wC_e0 ad cy σ) rfl hl rfl (Nat.le_of_ble_eq_true rfl) dL_law_1078 ⟨by show cells ≤ 600128; omega, by show slots ≤ 7301064; omega⟩ (fun H locs hI => ?_)
  have hI : zLw st D ad cy am cm ao co μ o σ131 s H locs := zI.ar hI
  refine lv_aload_n hx hb dL_law_1081 rfl (lv_at hl 2 rfl) ?_
  refine lv_aload_n hx hb dL_law_1082 rfl (lv_at hl 4 rfl) ?_
  refine lv_iload hx hb dL_law_1083 (lv_at hl 0 rfl) ?_
  refine lv_iconst (v := 1) hx hb dL_law_1085 (by decide) ?_
  refine lv_iadd hx hb dL_law_1086 ?_
  obtain ⟨q, hf⟩ := zck_use hf
  refine va_sld hx hb hX hbl hbA hI.2.2.2.1 (zin_in q) dL_law_1087 ?_
  refine lv_aload_n hx hb dL_law_1088 rfl (lv_at hl 4 rfl) ?_
  refine lv_iload hx hb dL_law_1089 (lv_at hl 0 rfl) ?_
  refine lv_iconst (v := 2) hx hb dL_law_1091 (by decide) ?_
  refine lv_iadd hx hb dL_law_1092 ?_
  obtain ⟨q, hf⟩ := zck_use hf
  refine va_sld hx hb hX hbl hbA hI.2.2.2.1 (zin_in q) dL_law_1093 ?_
  obtain ⟨μ132, g132, hf⟩ := zbu_use hf
  refine z_fcallVu (u := zHo ao co o ++ wC ad cy σ131) (w := wM am cm) (As := [.int (xs (x4 + 1).toNatClampNeg), .int (xs (x4 + 2).toNatClampNeg)]) (rest := []) hC (zI.swap hI) (zKM hI.1) (cX12_out_met st l D am cm μ (xs (x4 + 1).toNatClampNeg) (xs (x4 + 2).toNatClampNeg) _ g132) (zgV zw87_9 zw87_10 zw87_11 zw1_5 zw87_12) rfl ⟨rfl, rfl⟩ 2 hdX12_out ⟨Nat.le_of_ble_eq_true rfl, Nat.le_of_ble_eq_true rfl⟩ rfl rfl (wM_e0 am cm μ) rfl hl rfl (Nat.le_of_ble_eq_true rfl) dL_law_1094 ⟨by show cells ≤ 600128; omega, by show slots ≤ 7301064; omega⟩ (fun H locs hI => ?_)
  have hI : zLw st D ad cy am cm ao co μ132 o σ131 s H locs := zI.swap hI
  refine lv_goto (tgt := 1401) hx hb dL_law_1097 (by decide) ?_
  obtain ⟨v133, ev133⟩ : ∃ z : Int32, z = x4 + 8 := ⟨_, rfl⟩
  replace hf := zbv_use ev133 hf
  refine lv_iinc (v := v133) (lv' := [(4, .int v133), (3, .ref ao), (2, .ref (am 0)), (1, .ref (ad 0)), (0, .ref b)]) hx hb dL_law_1401 hl (k := 0) rfl (by rw [ev133]; rfl) (by decide) rfl (fun ls hl => ?_)
  refine lv_goto (tgt := 33) hx hb dL_law_1404 (by decide) ?_
  exact hk _ _ _ _ _ _ _ _ _ (by omega) (by omega) hI (lv_sub hl [0, 1, 2, 3, 4] rfl) hf
def fLaw_1100 (xs : Nat → Int32) (L : Nat) (kn : zSt → (Nat → Int64) → zSt → Int32 → Option Int32) (μ : zSt) (o : Nat → Int64) (σ : zSt) (x4 : Int32) : Option Int32 :=
  zck (zin (x4 + 1) L) (zbh (fL_battery o σ (xs (x4 + 1).toNatClampNeg)) (fun o134 σ134 v135 =>
  zck (zin (x4 + 1) L) (zbi (fX12_battery μ (xs (x4 + 1).toNatClampNeg)) (fun μ136 v137 =>
  zbv (x4 + 8) (fun v138 => kn μ136 o134 σ134 v138)))))
set_option maxRecDepth 20000 in
set_option maxHeartbeats 4000000 in
theorem bLaw_1100 {p : Program} {l : Launch} {e : Env} {s : State} {m : MethodId} {below : List Frame} {meth : Method} {c : Code} {st : Nat → Nat} {D : va_G} {b L : Nat} {xs : Nat → Int32} {ad am : Nat → Nat} {cy cm : Nat → ClassId} {ao : Nat} {co : ClassId} (hC : zC p m c cL_law 8 s #[Value.ref b] wzL_law RL meth ret) (hst : l.stackTraces = false) (hX : va_X b L xs s s.heap) (hbl : b < s.heap.size) (hbA : ¬ (fun q : Nat => s.heap.size ≤ q) b) {n : Nat} {kn : zSt → (Nat → Int64) → zSt → Int32 → Option Int32} (hk : ∀ (H : Heap) (locs : List Loc) (μ : zSt) (o : Nat → Int64) (σ : zSt) (ls : Array Slot) (x4 : Int32) (cells slots : Nat), cells + n ≤ 600128 → slots + 6 * n ≤ 7301064 → zLw st D ad cy am cm ao co μ o σ s H locs → lv_has ls 8 [(4, .int x4), (3, .ref ao), (2, .ref (am 0)), (1, .ref (ad 0)), (0, .ref b)] → kn μ o σ x4 = some 1 → W p l e room_1 s m #[Value.ref b] below meth c H locs cells slots (lw_Z below #[Value.ref b] s) (F0 m 33 ls [])) {H : Heap} {locs : List Loc} {μ : zSt} {o : Nat → Int64} {σ : zSt} {ls : Array Slot} {x4 : Int32} {cells slots : Nat} (hc : cells + (n + 1) ≤ 600128) (hs : slots + 6 * (n + 1) ≤ 7301064) (hI : zLw st D ad cy am cm ao co μ o σ s H locs) (hl : lv_has ls 8 [(4, .int x4), (3, .ref ao), (2, .ref (am 0)), (1, .ref (ad 0)), (0, .ref b)]) (hf : fLaw_1100 xs L kn μ o σ x4 = some 1) : W p l e room_1 s m #[Value.ref b] below meth c H locs cells slots (lw_Z below #[Value.ref b] s) (F0 m 1100 ls []) := by
  have hx := hC.1
  have hb := hC.2.1
  unfold fLaw_1100 at hf
  refine lv_aload_n hx hb dL_law_1100 rfl (lv_at hl 3 rfl) ?_
  refine lv_aload_n hx hb dL_law_1101 rfl (lv_at hl 4 rfl) ?_
  refine lv_iload hx hb dL_law_1102 (lv_at hl 0 rfl) ?_
  refine lv_iconst (v := 1) hx hb dL_law_1104 (by decide) ?_
  refine lv_iadd hx hb dL_law_1105 ?_
  obtain ⟨q, hf⟩ := zck_use hf
  refine va_sld hx hb hX hbl hbA hI.2.2.2.1 (zin_in q) dL_law_1106 ?_
  refine lv_aload_n hx hb dL_law_1107 rfl (lv_at hl 1 rfl) ?_
  obtain ⟨o134, σ134, v135, g134, hf⟩ := zbh_use hf
  refine z_fcallH (u := wM am cm μ) (w := fun x : zHs => zHo ao co x.1 ++ wC ad cy x.2) (x := (o, σ)) (As := [.ref (ad 0), .int (xs (x4 + 1).toNatClampNeg), .ref ao]) (rest := []) hC hI (zKH hI.1) (cL_battery_met st l hst D ad cy ao co o σ (xs (x4 + 1).toNatClampNeg) _ g134) (zgS zw87_13 zw87_14 zw1_10 zw87_15) rfl ⟨rfl, rfl⟩ 3 hdL_battery ⟨Nat.le_of_ble_eq_true rfl, Nat.le_of_ble_eq_true rfl⟩ rfl hl rfl (Nat.le_of_ble_eq_true rfl) dL_law_1108 ⟨by show cells + 1 ≤ 600128; omega, by show slots + 6 ≤ 7301064; omega⟩ (fun H locs hI => ?_)
  have hI : zLw st D ad cy am cm ao co μ o134 σ134 s H locs := hI
  refine lv_istore (lv' := [(5, .int v135), (4, .int x4), (3, .ref ao), (2, .ref (am 0)), (1, .ref (ad 0)), (0, .ref b)]) hx hb dL_law_1111 hl (by decide) rfl (fun ls hl => ?_)
  refine lv_aload_n hx hb dL_law_1113 rfl (lv_at hl 3 rfl) ?_
  refine lv_aload_n hx hb dL_law_1114 rfl (lv_at hl 5 rfl) ?_
  refine lv_iload hx hb dL_law_1115 (lv_at hl 1 rfl) ?_
  refine lv_iconst (v := 1) hx hb dL_law_1117 (by decide) ?_
  refine lv_iadd hx hb dL_law_1118 ?_
  obtain ⟨q, hf⟩ := zck_use hf
  refine va_sld hx hb hX hbl hbA hI.2.2.2.1 (zin_in q) dL_law_1119 ?_
  obtain ⟨μ136, v137, g136, hf⟩ := zbi_use hf
  refine z_fcallVi (u := zHo ao co o134 ++ wC ad cy σ134) (w := wM am cm) (As := [.int (xs (x4 + 1).toNatClampNeg)]) (rest := []) hC (zI.swap hI) (zKM hI.1) (cX12_battery_met st l D am cm μ (xs (x4 + 1).toNatClampNeg) _ g136) (zgV zw88_1 zw88_2 zw88_3 zw1_5 zw88_4) rfl ⟨rfl, rfl⟩ 1 hdX12_battery ⟨Nat.le_of_ble_eq_true rfl, Nat.le_of_ble_eq_true rfl⟩ rfl rfl (wM_e0 am cm μ) rfl hl rfl (Nat.le_of_ble_eq_true rfl) dL_law_1120 ⟨by show cells + 1 ≤ 600128; omega, by show slots + 6 ≤ 7301064; omega⟩ (fun H locs hI => ?_)
  have hI : zLw st D ad cy am cm ao co μ136 o134 σ134 s H locs := zI.swap hI
  refine lv_istore (lv' := [(6, .int v137), (5, .int v135), (4, .int x4), (3, .ref ao), (2, .ref (am 0)), (1, .ref (ad 0)), (0, .ref b)]) hx hb dL_law_1123 hl (by decide) rfl (fun ls hl => ?_)
  refine lv_goto (tgt := 1401) hx hb dL_law_1125 (by decide) ?_
  obtain ⟨v138, ev138⟩ : ∃ z : Int32, z = x4 + 8 := ⟨_, rfl⟩
  replace hf := zbv_use ev138 hf
  refine lv_iinc (v := v138) (lv' := [(4, .int v138), (6, .int v137), (5, .int v135), (3, .ref ao), (2, .ref (am 0)), (1, .ref (ad 0)), (0, .ref b)]) hx hb dL_law_1401 hl (k := 2) rfl (by rw [ev138]; rfl) (by decide) rfl (fun ls hl => ?_)
  refine lv_goto (tgt := 33) hx hb dL_law_1404 (by decide) ?_
  exact hk _ _ _ _ _ _ _ _ _ (by omega) (by omega) hI (lv_sub hl [0, 3, 4, 5, 6] rfl) hf
def fLaw_1128 (xs : Nat → Int32) (L : Nat) (kn : zSt → (Nat → Int64) → zSt → Int32 → Option Int32) (μ : zSt) (o : Nat → Int64) (σ : zSt) (x4 : Int32) : Option Int32 :=
  zbu (fX11_wipe σ ) (fun σ139 =>
  zbu (fX12_wipe μ ) (fun μ140 =>
  zbv (x4 + 8) (fun v141 => kn μ140 o σ139 v141)))
set_option maxRecDepth 20000 in
set_option maxHeartbeats 4000000 in
theorem bLaw_1128 {p : Program} {l : Launch} {e : Env} {s : State} {m : MethodId} {below : List Frame} {meth : Method} {c : Code} {st : Nat → Nat} {D : va_G} {b L : Nat} {xs : Nat → Int32} {ad am : Nat → Nat} {cy cm : Nat → ClassId} {ao : Nat} {co : ClassId} (hC : zC p m c cL_law 8 s #[Value.ref b] wzL_law RL meth ret) (hst : l.stackTraces = false) (hX : va_X b L xs s s.heap) (hbl : b < s.heap.size) (hbA : ¬ (fun q : Nat => s.heap.size ≤ q) b) {n : Nat} {kn : zSt → (Nat → Int64) → zSt → Int32 → Option Int32} (hk : ∀ (H : Heap) (locs : List Loc) (μ : zSt) (o : Nat → Int64) (σ : zSt) (ls : Array Slot) (x4 : Int32) (cells slots : Nat), cells + n ≤ 600128 → slots + 6 * n ≤ 7301064 → zLw st D ad cy am cm ao co μ o σ s H locs → lv_has ls 8 [(4, .int x4), (3, .ref ao), (2, .ref (am 0)), (1, .ref (ad 0)), (0, .ref b)] → kn μ o σ x4 = some 1 → W p l e room_1 s m #[Value.ref b] below meth c H locs cells slots (lw_Z below #[Value.ref b] s) (F0 m 33 ls [])) {H : Heap} {locs : List Loc} {μ : zSt} {o : Nat → Int64} {σ : zSt} {ls : Array Slot} {x4 : Int32} {cells slots : Nat} (hc : cells + (n + 1) ≤ 600128) (hs : slots + 6 * (n + 1) ≤ 7301064) (hI : zLw st D ad cy am cm ao co μ o σ s H locs) (hl : lv_has ls 8 [(4, .int x4), (3, .ref ao), (2, .ref (am 0)), (1, .ref (ad 0)), (0, .ref b)]) (hf : fLaw_1128 xs L kn μ o σ x4 = some 1) : W p l e room_1 s m #[Value.ref b] below meth c H locs cells slots (lw_Z below #[Value.ref b] s) (F0 m 1128 ls []) := by
  have hx := hC.1
  have hb := hC.2.1
  unfold fLaw_1128 at hf
  refine lv_aload_n hx hb dL_law_1128 rfl (lv_at hl 3 rfl) ?_
  obtain ⟨σ139, g139, hf⟩ := zbu_use hf
  refine z_fcallVu (u := wM am cm μ ++ zHo ao co o) (w := wC ad cy) (As := []) (rest := []) hC (zI.al hI) (zKC hI.1) (cX11_wipe_met st l D ad cy σ  _ g139) (zgV zw88_6 zw88_7 zw88_8 zw1_2 zw88_9) rfl ⟨rfl, rfl⟩ 0 hdX11_wipe ⟨Nat.le_of_ble_eq_true rfl, Nat.le_of_ble_eq_true rfl⟩ rfl rfl (wC_e0 ad cy σ) rfl hl rfl (Nat.le_of_ble_eq_true rfl) dL_law_1129 ⟨by show cells ≤ 600128; omega, by show slots ≤ 7301064; omega⟩ (fun H locs hI => ?_)
  have hI : zLw st D ad cy am cm ao co μ o σ139 s H locs := zI.ar hI
  refine lv_aload_n hx hb dL_law_1132 rfl (lv_at hl 2 rfl) ?_
  obtain ⟨μ140, g140, hf⟩ := zbu_use hf
  refine z_fcallVu (u := zHo ao co o ++ wC ad cy σ139) (w := wM am cm) (As := []) (rest := []) hC (zI.swap hI) (zKM hI.1) (cX12_wipe_met st l D am cm μ  _ g140) (zgV zw88_14 zw88_15 zw88_16 zw1_5 zw88_17) rfl ⟨rfl, rfl⟩ 0 hdX12_wipe ⟨Nat.le_of_ble_eq_true rfl, Nat.le_of_ble_eq_true rfl⟩ rfl rfl (wM_e0 am cm μ) rfl hl rfl (Nat.le_of_ble_eq_true rfl) dL_law_1133 ⟨by show cells ≤ 600128; omega, by show slots ≤ 7301064; omega⟩ (fun H locs hI => ?_)
  have hI : zLw st D ad cy am cm ao co μ140 o σ139 s H locs := zI.swap hI
  refine lv_goto (tgt := 1401) hx hb dL_law_1136 (by decide) ?_
  obtain ⟨v141, ev141⟩ : ∃ z : Int32, z = x4 + 8 := ⟨_, rfl⟩
  replace hf := zbv_use ev141 hf
  refine lv_iinc (v := v141) (lv' := [(4, .int v141), (3, .ref ao), (2, .ref (am 0)), (1, .ref (ad 0)), (0, .ref b)]) hx hb dL_law_1401 hl (k := 0) rfl (by rw [ev141]; rfl) (by decide) rfl (fun ls hl => ?_)
  refine lv_goto (tgt := 33) hx hb dL_law_1404 (by decide) ?_
  exact hk _ _ _ _ _ _ _ _ _ (by omega) (by omega) hI (lv_sub hl [0, 1, 2, 3, 4] rfl) hf
def fLaw_1139 (xs : Nat → Int32) (L : Nat) (kn : zSt → (Nat → Int64) → zSt → Int32 → Option Int32) (μ : zSt) (o : Nat → Int64) (σ : zSt) (x4 : Int32) : Option Int32 :=
  zck (zin (x4 + 1) L) (zbl (fX11_video σ (xs (x4 + 1).toNatClampNeg)) (fun σ142 v143 =>
  zck (zin (x4 + 1) L) (zbl (fX12_video μ (xs (x4 + 1).toNatClampNeg)) (fun μ144 v145 =>
  zbv (x4 + 8) (fun v146 => kn μ144 o σ142 v146)))))
set_option maxRecDepth 20000 in
set_option maxHeartbeats 4000000 in
theorem bLaw_1139 {p : Program} {l : Launch} {e : Env} {s : State} {m : MethodId} {below : List Frame} {meth : Method} {c : Code} {st : Nat → Nat} {D : va_G} {b L : Nat} {xs : Nat → Int32} {ad am : Nat → Nat} {cy cm : Nat → ClassId} {ao : Nat} {co : ClassId} (hC : zC p m c cL_law 8 s #[Value.ref b] wzL_law RL meth ret) (hst : l.stackTraces = false) (hX : va_X b L xs s s.heap) (hbl : b < s.heap.size) (hbA : ¬ (fun q : Nat => s.heap.size ≤ q) b) {n : Nat} {kn : zSt → (Nat → Int64) → zSt → Int32 → Option Int32} (hk : ∀ (H : Heap) (locs : List Loc) (μ : zSt) (o : Nat → Int64) (σ : zSt) (ls : Array Slot) (x4 : Int32) (cells slots : Nat), cells + n ≤ 600128 → slots + 6 * n ≤ 7301064 → zLw st D ad cy am cm ao co μ o σ s H locs → lv_has ls 8 [(4, .int x4), (3, .ref ao), (2, .ref (am 0)), (1, .ref (ad 0)), (0, .ref b)] → kn μ o σ x4 = some 1 → W p l e room_1 s m #[Value.ref b] below meth c H locs cells slots (lw_Z below #[Value.ref b] s) (F0 m 33 ls [])) {H : Heap} {locs : List Loc} {μ : zSt} {o : Nat → Int64} {σ : zSt} {ls : Array Slot} {x4 : Int32} {cells slots : Nat} (hc : cells + (n + 1) ≤ 600128) (hs : slots + 6 * (n + 1) ≤ 7301064) (hI : zLw st D ad cy am cm ao co μ o σ s H locs) (hl : lv_has ls 8 [(4, .int x4), (3, .ref ao), (2, .ref (am 0)), (1, .ref (ad 0)), (0, .ref b)]) (hf : fLaw_1139 xs L kn μ o σ x4 = some 1) : W p l e room_1 s m #[Value.ref b] below meth c H locs cells slots (lw_Z below #[Value.ref b] s) (F0 m 1139 ls []) := by
  have hx := hC.1
  have hb := hC.2.1
  unfold fLaw_1139 at hf
  refine lv_aload_n hx hb dL_law_1139 rfl (lv_at hl 3 rfl) ?_
  refine lv_aload_n hx hb dL_law_1140 rfl (lv_at hl 4 rfl) ?_
  refine lv_iload hx hb dL_law_1141 (lv_at hl 0 rfl) ?_
  refine lv_iconst (v := 1) hx hb dL_law_1143 (by decide) ?_
  refine lv_iadd hx hb dL_law_1144 ?_
  obtain ⟨q, hf⟩ := zck_use hf
  refine va_sld hx hb hX hbl hbA hI.2.2.2.1 (zin_in q) dL_law_1145 ?_
  obtain ⟨σ142, v143, g142, hf⟩ := zbl_use hf
  refine z_fcallVl (u := wM am cm μ ++ zHo ao co o) (w := wC ad cy) (As := [.int (xs (x4 + 1).toNatClampNeg)]) (rest := []) hC (zI.al hI) (zKC hI.1) (cX11_video_met st l D ad cy σ (xs (x4 + 1).toNatClampNeg) _ g142) (zgV zw88_18 zw88_19 zw88_20 zw1_2 zw88_21) rfl ⟨rfl, rfl⟩ 1 hdX11_video ⟨Nat.le_of_ble_eq_true rfl, Nat.le_of_ble_eq_true rfl⟩ rfl rfl (wC_e0 ad cy σ) rfl hl rfl (Nat.le_of_ble_eq_true rfl) dL_law_1146 ⟨by show cells ≤ 600128; omega, by show slots ≤ 7301064; omega⟩ (fun H locs hI => ?_)
  have hI : zLw st D ad cy am cm ao co μ o σ142 s H locs := zI.ar hI
  refine lv_pop2_2 hx hb dL_law_1149 rfl ?_
  refine lv_aload_n hx hb dL_law_1150 rfl (lv_at hl 2 rfl) ?_
  refine lv_aload_n hx hb dL_law_1151 rfl (lv_at hl 4 rfl) ?_
  refine lv_iload hx hb dL_law_1152 (lv_at hl 0 rfl) ?_
  refine lv_iconst (v := 1) hx hb dL_law_1154 (by decide) ?_
  refine lv_iadd hx hb dL_law_1155 ?_
  obtain ⟨q, hf⟩ := zck_use hf
  refine va_sld hx hb hX hbl hbA hI.2.2.2.1 (zin_in q) dL_law_1156 ?_
  obtain ⟨μ144, v145, g144, hf⟩ := zbl_use hf
  refine z_fcallVl (u := zHo ao co o ++ wC ad cy σ142) (w := wM am cm) (As := [.int (xs (x4 + 1).toNatClampNeg)]) (rest := []) hC (zI.swap hI) (zKM hI.1) (cX12_video_met st l D am cm μ (xs (x4 + 1).toNatClampNeg) _ g144) (zgV zw89_2 zw89_3 zw89_4 zw1_5 zw89_5) rfl ⟨rfl, rfl⟩ 1 hdX12_video ⟨Nat.le_of_ble_eq_true rfl, Nat.le_of_ble_eq_true rfl⟩ rfl rfl (wM_e0 am cm μ) rfl hl rfl (Nat.le_of_ble_eq_true rfl) dL_law_1157 ⟨by show cells ≤ 600128; omega, by show slots ≤ 7301064; omega⟩ (fun H locs hI => ?_)
  have hI : zLw st D ad cy am cm ao co μ144 o σ142 s H locs := zI.swap hI
  refine lv_pop2_2 hx hb dL_law_1160 rfl ?_
  refine lv_goto (tgt := 1401) hx hb dL_law_1161 (by decide) ?_
  obtain ⟨v146, ev146⟩ : ∃ z : Int32, z = x4 + 8 := ⟨_, rfl⟩
  replace hf := zbv_use ev146 hf
  refine lv_iinc (v := v146) (lv' := [(4, .int v146), (3, .ref ao), (2, .ref (am 0)), (1, .ref (ad 0)), (0, .ref b)]) hx hb dL_law_1401 hl (k := 0) rfl (by rw [ev146]; rfl) (by decide) rfl (fun ls hl => ?_)
  refine lv_goto (tgt := 33) hx hb dL_law_1404 (by decide) ?_
  exact hk _ _ _ _ _ _ _ _ _ (by omega) (by omega) hI (lv_sub hl [0, 1, 2, 3, 4] rfl) hf
def fLaw_1164 (xs : Nat → Int32) (L : Nat) (kn : zSt → (Nat → Int64) → zSt → Int32 → Option Int32) (μ : zSt) (o : Nat → Int64) (σ : zSt) (x4 : Int32) : Option Int32 :=
  zck (zin (x4 + 1) L) (zbh (fL_chip o σ (xs (x4 + 1).toNatClampNeg)) (fun o147 σ147 v148 =>
  zck (zin (x4 + 1) L) (zbi (fX12_chip μ (xs (x4 + 1).toNatClampNeg)) (fun μ149 v150 =>
  zbv (x4 + 8) (fun v151 => kn μ149 o147 σ147 v151)))))
set_option maxRecDepth 20000 in
set_option maxHeartbeats 4000000 in
theorem bLaw_1164 {p : Program} {l : Launch} {e : Env} {s : State} {m : MethodId} {below : List Frame} {meth : Method} {c : Code} {st : Nat → Nat} {D : va_G} {b L : Nat} {xs : Nat → Int32} {ad am : Nat → Nat} {cy cm : Nat → ClassId} {ao : Nat} {co : ClassId} (hC : zC p m c cL_law 8 s #[Value.ref b] wzL_law RL meth ret) (hst : l.stackTraces = false) (hX : va_X b L xs s s.heap) (hbl : b < s.heap.size) (hbA : ¬ (fun q : Nat => s.heap.size ≤ q) b) {n : Nat} {kn : zSt → (Nat → Int64) → zSt → Int32 → Option Int32} (hk : ∀ (H : Heap) (locs : List Loc) (μ : zSt) (o : Nat → Int64) (σ : zSt) (ls : Array Slot) (x4 : Int32) (cells slots : Nat), cells + n ≤ 600128 → slots + 6 * n ≤ 7301064 → zLw st D ad cy am cm ao co μ o σ s H locs → lv_has ls 8 [(4, .int x4), (3, .ref ao), (2, .ref (am 0)), (1, .ref (ad 0)), (0, .ref b)] → kn μ o σ x4 = some 1 → W p l e room_1 s m #[Value.ref b] below meth c H locs cells slots (lw_Z below #[Value.ref b] s) (F0 m 33 ls [])) {H : Heap} {locs : List Loc} {μ : zSt} {o : Nat → Int64} {σ : zSt} {ls : Array Slot} {x4 : Int32} {cells slots : Nat} (hc : cells + (n + 1) ≤ 600128) (hs : slots + 6 * (n + 1) ≤ 7301064) (hI : zLw st D ad cy am cm ao co μ o σ s H locs) (hl : lv_has ls 8 [(4, .int x4), (3, .ref ao), (2, .ref (am 0)), (1, .ref (ad 0)), (0, .ref b)]) (hf : fLaw_1164 xs L kn μ o σ x4 = some 1) : W p l e room_1 s m #[Value.ref b] below meth c H locs cells slots (lw_Z below #[Value.ref b] s) (F0 m 1164 ls []) := by
  have hx := hC.1
  have hb := hC.2.1
  unfold fLaw_1164 at hf
  refine lv_aload_n hx hb dL_law_1164 rfl (lv_at hl 3 rfl) ?_
  refine lv_aload_n hx hb dL_law_1165 rfl (lv_at hl 4 rfl) ?_
  refine lv_iload hx hb dL_law_1166 (lv_at hl 0 rfl) ?_
  refine lv_iconst (v := 1) hx hb dL_law_1168 (by decide) ?_
  refine lv_iadd hx hb dL_law_1169 ?_
  obtain ⟨q, hf⟩ := zck_use hf
  refine va_sld hx hb hX hbl hbA hI.2.2.2.1 (zin_in q) dL_law_1170 ?_
  refine lv_aload_n hx hb dL_law_1171 rfl (lv_at hl 1 rfl) ?_
  obtain ⟨o147, σ147, v148, g147, hf⟩ := zbh_use hf
  refine z_fcallH (u := wM am cm μ) (w := fun x : zHs => zHo ao co x.1 ++ wC ad cy x.2) (x := (o, σ)) (As := [.ref (ad 0), .int (xs (x4 + 1).toNatClampNeg), .ref ao]) (rest := []) hC hI (zKH hI.1) (cL_chip_met st l hst D ad cy ao co o σ (xs (x4 + 1).toNatClampNeg) _ g147) (zgS zw89_6 zw89_7 zw1_10 zw89_8) rfl ⟨rfl, rfl⟩ 3 hdL_chip ⟨Nat.le_of_ble_eq_true rfl, Nat.le_of_ble_eq_true rfl⟩ rfl hl rfl (Nat.le_of_ble_eq_true rfl) dL_law_1172 ⟨by show cells + 1 ≤ 600128; omega, by show slots + 6 ≤ 7301064; omega⟩ (fun H locs hI => ?_)
  have hI : zLw st D ad cy am cm ao co μ o147 σ147 s H locs := hI
  refine lv_istore (lv' := [(5, .int v148), (4, .int x4), (3, .ref ao), (2, .ref (am 0)), (1, .ref (ad 0)), (0, .ref b)]) hx hb dL_law_1175 hl (by decide) rfl (fun ls hl => ?_)
  refine lv_aload_n hx hb dL_law_1177 rfl (lv_at hl 3 rfl) ?_
  refine lv_aload_n hx hb dL_law_1178 rfl (lv_at hl 5 rfl) ?_
  refine lv_iload hx hb dL_law_1179 (lv_at hl 1 rfl) ?_
  refine lv_iconst (v := 1) hx hb dL_law_1181 (by decide) ?_
  refine lv_iadd hx hb dL_law_1182 ?_
  obtain ⟨q, hf⟩ := zck_use hf
  refine va_sld hx hb hX hbl hbA hI.2.2.2.1 (zin_in q) dL_law_1183 ?_
  obtain ⟨μ149, v150, g149, hf⟩ := zbi_use hf
  refine z_fcallVi (u := zHo ao co o147 ++ wC ad cy σ147) (w := wM am cm) (As := [.int (xs (x4 + 1).toNatClampNeg)]) (rest := []) hC (zI.swap hI) (zKM hI.1) (cX12_chip_met st l D am cm μ (xs (x4 + 1).toNatClampNeg) _ g149) (zgV zw90_1 zw90_2 zw90_3 zw1_5 zw90_4) rfl ⟨rfl, rfl⟩ 1 hdX12_chip ⟨Nat.le_of_ble_eq_true rfl, Nat.le_of_ble_eq_true rfl⟩ rfl rfl (wM_e0 am cm μ) rfl hl rfl (Nat.le_of_ble_eq_true rfl) dL_law_1184 ⟨by show cells + 1 ≤ 600128; omega, by show slots + 6 ≤ 7301064; omega⟩ (fun H locs hI => ?_)
  have hI : zLw st D ad cy am cm ao co μ149 o147 σ147 s H locs := zI.swap hI
  refine lv_istore (lv' := [(6, .int v150), (5, .int v148), (4, .int x4), (3, .ref ao), (2, .ref (am 0)), (1, .ref (ad 0)), (0, .ref b)]) hx hb dL_law_1187 hl (by decide) rfl (fun ls hl => ?_)
  refine lv_goto (tgt := 1401) hx hb dL_law_1189 (by decide) ?_
  obtain ⟨v151, ev151⟩ : ∃ z : Int32, z = x4 + 8 := ⟨_, rfl⟩
  replace hf := zbv_use ev151 hf
  refine lv_iinc (v := v151) (lv' := [(4, .int v151), (6, .int v150), (5, .int v148), (3, .ref ao), (2, .ref (am 0)), (1, .ref (ad 0)), (0, .ref b)]) hx hb dL_law_1401 hl (k := 2) rfl (by rw [ev151]; rfl) (by decide) rfl (fun ls hl => ?_)
  refine lv_goto (tgt := 33) hx hb dL_law_1404 (by decide) ?_
  exact hk _ _ _ _ _ _ _ _ _ (by omega) (by omega) hI (lv_sub hl [0, 3, 4, 5, 6] rfl) hf
def fLaw_1192 (xs : Nat → Int32) (L : Nat) (kn : zSt → (Nat → Int64) → zSt → Int32 → Option Int32) (μ : zSt) (o : Nat → Int64) (σ : zSt) (x4 : Int32) : Option Int32 :=
  zck (zin (x4 + 1) L) (zck (zin (x4 + 2) L) (zbh (fL_dot o σ (xs (x4 + 1).toNatClampNeg) (xs (x4 + 2).toNatClampNeg)) (fun o152 σ152 v153 =>
  zck (zin (x4 + 1) L) (zck (zin (x4 + 2) L) (zbi (fX12_dot μ (xs (x4 + 1).toNatClampNeg) (xs (x4 + 2).toNatClampNeg)) (fun μ154 v155 =>
  zbv (x4 + 8) (fun v156 => kn μ154 o152 σ152 v156)))))))
set_option maxRecDepth 20000 in
set_option maxHeartbeats 4000000 in
theorem bLaw_1192 {p : Program} {l : Launch} {e : Env} {s : State} {m : MethodId} {below : List Frame} {meth : Method} {c : Code} {st : Nat → Nat} {D : va_G} {b L : Nat} {xs : Nat → Int32} {ad am : Nat → Nat} {cy cm : Nat → ClassId} {ao : Nat} {co : ClassId} (hC : zC p m c cL_law 8 s #[Value.ref b] wzL_law RL meth ret) (hst : l.stackTraces = false) (hX : va_X b L xs s s.heap) (hbl : b < s.heap.size) (hbA : ¬ (fun q : Nat => s.heap.size ≤ q) b) {n : Nat} {kn : zSt → (Nat → Int64) → zSt → Int32 → Option Int32} (hk : ∀ (H : Heap) (locs : List Loc) (μ : zSt) (o : Nat → Int64) (σ : zSt) (ls : Array Slot) (x4 : Int32) (cells slots : Nat), cells + n ≤ 600128 → slots + 6 * n ≤ 7301064 → zLw st D ad cy am cm ao co μ o σ s H locs → lv_has ls 8 [(4, .int x4), (3, .ref ao), (2, .ref (am 0)), (1, .ref (ad 0)), (0, .ref b)] → kn μ o σ x4 = some 1 → W p l e room_1 s m #[Value.ref b] below meth c H locs cells slots (lw_Z below #[Value.ref b] s) (F0 m 33 ls [])) {H : Heap} {locs : List Loc} {μ : zSt} {o : Nat → Int64} {σ : zSt} {ls : Array Slot} {x4 : Int32} {cells slots : Nat} (hc : cells + (n + 1) ≤ 600128) (hs : slots + 6 * (n + 1) ≤ 7301064) (hI : zLw st D ad cy am cm ao co μ o σ s H locs) (hl : lv_has ls 8 [(4, .int x4), (3, .ref ao), (2, .ref (am 0)), (1, .ref (ad 0)), (0, .ref b)]) (hf : fLaw_1192 xs L kn μ o σ x4 = some 1) : W p l e room_1 s m #[Value.ref b] below meth c H locs cells slots (lw_Z below #[Value.ref b] s) (F0 m 1192 ls []) := by
  have hx := hC.1
  have hb := hC.2.1
  unfold fLaw_1192 at hf
  refine lv_aload_n hx hb dL_law_1192 rfl (lv_at hl 3 rfl) ?_
  refine lv_aload_n hx hb dL_law_1193 rfl (lv_at hl 4 rfl) ?_
  refine lv_iload hx hb dL_law_1194 (lv_at hl 0 rfl) ?_
  refine lv_iconst (v := 1) hx hb dL_law_1196 (by decide) ?_
  refine lv_iadd hx hb dL_law_1197 ?_
  obtain ⟨q, hf⟩ := zck_use hf
  refine va_sld hx hb hX hbl hbA hI.2.2.2.1 (zin_in q) dL_law_1198 ?_
  refine lv_aload_n hx hb dL_law_1199 rfl (lv_at hl 4 rfl) ?_
  refine lv_iload hx hb dL_law_1200 (lv_at hl 0 rfl) ?_
  refine lv_iconst (v := 2) hx hb dL_law_1202 (by decide) ?_
  refine lv_iadd hx hb dL_law_1203 ?_
  obtain ⟨q, hf⟩ := zck_use hf
  refine va_sld hx hb hX hbl hbA hI.2.2.2.1 (zin_in q) dL_law_1204 ?_
  refine lv_aload_n hx hb dL_law_1205 rfl (lv_at hl 1 rfl) ?_
  obtain ⟨o152, σ152, v153, g152, hf⟩ := zbh_use hf
  refine z_fcallH (u := wM am cm μ) (w := fun x : zHs => zHo ao co x.1 ++ wC ad cy x.2) (x := (o, σ)) (As := [.ref (ad 0), .int (xs (x4 + 1).toNatClampNeg), .int (xs (x4 + 2).toNatClampNeg), .ref ao]) (rest := []) hC hI (zKH hI.1) (cL_dot_met st l hst D ad cy ao co o σ (xs (x4 + 1).toNatClampNeg) (xs (x4 + 2).toNatClampNeg) _ g152) (zgS zw90_6 zw90_7 zw1_10 zw90_8) rfl ⟨rfl, rfl⟩ 4 hdL_dot ⟨Nat.le_of_ble_eq_true rfl, Nat.le_of_ble_eq_true rfl⟩ rfl hl rfl (Nat.le_of_ble_eq_true rfl) dL_law_1206 ⟨by show cells + 1 ≤ 600128; omega, by show slots + 6 ≤ 7301064; omega⟩ (fun H locs hI => ?_)
  have hI : zLw st D ad cy am cm ao co μ o152 σ152 s H locs := hI
  refine lv_istore (lv' := [(5, .int v153), (4, .int x4), (3, .ref ao), (2, .ref (am 0)), (1, .ref (ad 0)), (0, .ref b)]) hx hb dL_law_1209 hl (by decide) rfl (fun ls hl => ?_)
  refine lv_aload_n hx hb dL_law_1211 rfl (lv_at hl 3 rfl) ?_
  refine lv_aload_n hx hb dL_law_1212 rfl (lv_at hl 5 rfl) ?_
  refine lv_iload hx hb dL_law_1213 (lv_at hl 1 rfl) ?_
  refine lv_iconst (v := 1) hx hb dL_law_1215 (by decide) ?_
  refine lv_iadd hx hb dL_law_1216 ?_
  obtain ⟨q, hf⟩ := zck_use hf
  refine va_sld hx hb hX hbl hbA hI.2.2.2.1 (zin_in q) dL_law_1217 ?_
  refine lv_aload_n hx hb dL_law_1218 rfl (lv_at hl 5 rfl) ?_
  refine lv_iload hx hb dL_law_1219 (lv_at hl 1 rfl) ?_
  refine lv_iconst (v := 2) hx hb dL_law_1221 (by decide) ?_
  refine lv_iadd hx hb dL_law_1222 ?_
  obtain ⟨q, hf⟩ := zck_use hf
  refine va_sld hx hb hX hbl hbA hI.2.2.2.1 (zin_in q) dL_law_1223 ?_
  obtain ⟨μ154, v155, g154, hf⟩ := zbi_use hf
  refine z_fcallVi (u := zHo ao co o152 ++ wC ad cy σ152) (w := wM am cm) (As := [.int (xs (x4 + 1).toNatClampNeg), .int (xs (x4 + 2).toNatClampNeg)]) (rest := []) hC (zI.swap hI) (zKM hI.1) (cX12_dot_met st l D am cm μ (xs (x4 + 1).toNatClampNeg) (xs (x4 + 2).toNatClampNeg) _ g154) (zgV zw91_5 zw91_6 zw91_7 zw1_5 zw91_8) rfl ⟨rfl, rfl⟩ 2 hdX12_dot ⟨Nat.le_of_ble_eq_true rfl, Nat.le_of_ble_eq_true rfl⟩ rfl rfl (wM_e0 am cm μ) rfl hl rfl (Nat.le_of_ble_eq_true rfl) dL_law_1224 ⟨by show cells + 1 ≤ 600128; omega, by show slots + 6 ≤ 7301064; omega⟩ (fun H locs hI => ?_)
  have hI : zLw st D ad cy am cm ao co μ154 o152 σ152 s H locs := zI.swap hI
  refine lv_istore (lv' := [(6, .int v155), (5, .int v153), (4, .int x4), (3, .ref ao), (2, .ref (am 0)), (1, .ref (ad 0)), (0, .ref b)]) hx hb dL_law_1227 hl (by decide) rfl (fun ls hl => ?_)
  refine lv_goto (tgt := 1401) hx hb dL_law_1229 (by decide) ?_
  obtain ⟨v156, ev156⟩ : ∃ z : Int32, z = x4 + 8 := ⟨_, rfl⟩
  replace hf := zbv_use ev156 hf
  refine lv_iinc (v := v156) (lv' := [(4, .int v156), (6, .int v155), (5, .int v153), (3, .ref ao), (2, .ref (am 0)), (1, .ref (ad 0)), (0, .ref b)]) hx hb dL_law_1401 hl (k := 2) rfl (by rw [ev156]; rfl) (by decide) rfl (fun ls hl => ?_)
  refine lv_goto (tgt := 33) hx hb dL_law_1404 (by decide) ?_
  exact hk _ _ _ _ _ _ _ _ _ (by omega) (by omega) hI (lv_sub hl [0, 3, 4, 5, 6] rfl) hf
def fLaw_1232 (xs : Nat → Int32) (L : Nat) (kn : zSt → (Nat → Int64) → zSt → Int32 → Option Int32) (μ : zSt) (o : Nat → Int64) (σ : zSt) (x4 : Int32) : Option Int32 :=
  zck (zin (x4 + 1) L) (zbh (fL_row o σ (xs (x4 + 1).toNatClampNeg)) (fun o157 σ157 v158 =>
  zck (zin (x4 + 1) L) (zbi (fX12_row μ (xs (x4 + 1).toNatClampNeg)) (fun μ159 v160 =>
  zbv (x4 + 8) (fun v161 => kn μ159 o157 σ157 v161)))))
set_option maxRecDepth 20000 in
set_option maxHeartbeats 4000000 in
theorem bLaw_1232 {p : Program} {l : Launch} {e : Env} {s : State} {m : MethodId} {below : List Frame} {meth : Method} {c : Code} {st : Nat → Nat} {D : va_G} {b L : Nat} {xs : Nat → Int32} {ad am : Nat → Nat} {cy cm : Nat → ClassId} {ao : Nat} {co : ClassId} (hC : zC p m c cL_law 8 s #[Value.ref b] wzL_law RL meth ret) (hst : l.stackTraces = false) (hX : va_X b L xs s s.heap) (hbl : b < s.heap.size) (hbA : ¬ (fun q : Nat => s.heap.size ≤ q) b) {n : Nat} {kn : zSt → (Nat → Int64) → zSt → Int32 → Option Int32} (hk : ∀ (H : Heap) (locs : List Loc) (μ : zSt) (o : Nat → Int64) (σ : zSt) (ls : Array Slot) (x4 : Int32) (cells slots : Nat), cells + n ≤ 600128 → slots + 6 * n ≤ 7301064 → zLw st D ad cy am cm ao co μ o σ s H locs → lv_has ls 8 [(4, .int x4), (3, .ref ao), (2, .ref (am 0)), (1, .ref (ad 0)), (0, .ref b)] → kn μ o σ x4 = some 1 → W p l e room_1 s m #[Value.ref b] below meth c H locs cells slots (lw_Z below #[Value.ref b] s) (F0 m 33 ls [])) {H : Heap} {locs : List Loc} {μ : zSt} {o : Nat → Int64} {σ : zSt} {ls : Array Slot} {x4 : Int32} {cells slots : Nat} (hc : cells + (n + 1) ≤ 600128) (hs : slots + 6 * (n + 1) ≤ 7301064) (hI : zLw st D ad cy am cm ao co μ o σ s H locs) (hl : lv_has ls 8 [(4, .int x4), (3, .ref ao), (2, .ref (am 0)), (1, .ref (ad 0)), (0, .ref b)]) (hf : fLaw_1232 xs L kn μ o σ x4 = some 1) : W p l e room_1 s m #[Value.ref b] below meth c H locs cells slots (lw_Z below #[Value.ref b] s) (F0 m 1232 ls []) := by
  have hx := hC.1
  have hb := hC.2.1
  unfold fLaw_1232 at hf
  refine lv_aload_n hx hb dL_law_1232 rfl (lv_at hl 3 rfl) ?_
  refine lv_aload_n hx hb dL_law_1233 rfl (lv_at hl 4 rfl) ?_
  refine lv_iload hx hb dL_law_1234 (lv_at hl 0 rfl) ?_
  refine lv_iconst (v := 1) hx hb dL_law_1236 (by decide) ?_
  refine lv_iadd hx hb dL_law_1237 ?_
  obtain ⟨q, hf⟩ := zck_use hf
  refine va_sld hx hb hX hbl hbA hI.2.2.2.1 (zin_in q) dL_law_1238 ?_
  refine lv_aload_n hx hb dL_law_1239 rfl (lv_at hl 1 rfl) ?_
  obtain ⟨o157, σ157, v158, g157, hf⟩ := zbh_use hf
  refine z_fcallH (u := wM am cm μ) (w := fun x : zHs => zHo ao co x.1 ++ wC ad cy x.2) (x := (o, σ)) (As := [.ref (ad 0), .int (xs (x4 + 1).toNatClampNeg), .ref ao]) (rest := []) hC hI (zKH hI.1) (cL_row_met st l hst D ad cy ao co o σ (xs (x4 + 1).toNatClampNeg) _ g157) (zgS zw91_9 zw91_10 zw1_10 zw91_11) rfl ⟨rfl, rfl⟩ 3 hdL_row ⟨Nat.le_of_ble_eq_true rfl, Nat.le_of_ble_eq_true rfl⟩ rfl hl rfl (Nat.le_of_ble_eq_true rfl) dL_law_1240 ⟨by show cells + 1 ≤ 600128; omega, by show slots + 6 ≤ 7301064; omega⟩ (fun H locs hI => ?_)
  have hI : zLw st D ad cy am cm ao co μ o157 σ157 s H locs := hI
  refine lv_istore (lv' := [(5, .int v158), (4, .int x4), (3, .ref ao), (2, .ref (am 0)), (1, .ref (ad 0)), (0, .ref b)]) hx hb dL_law_1243 hl (by decide) rfl (fun ls hl => ?_)
  refine lv_aload_n hx hb dL_law_1245 rfl (lv_at hl 3 rfl) ?_
  refine lv_aload_n hx hb dL_law_1246 rfl (lv_at hl 5 rfl) ?_
  refine lv_iload hx hb dL_law_1247 (lv_at hl 1 rfl) ?_
  refine lv_iconst (v := 1) hx hb dL_law_1249 (by decide) ?_
  refine lv_iadd hx hb dL_law_1250 ?_
  obtain ⟨q, hf⟩ := zck_use hf
  refine va_sld hx hb hX hbl hbA hI.2.2.2.1 (zin_in q) dL_law_1251 ?_
  obtain ⟨μ159, v160, g159, hf⟩ := zbi_use hf
  refine z_fcallVi (u := zHo ao co o157 ++ wC ad cy σ157) (w := wM am cm) (As := [.int (xs (x4 + 1).toNatClampNeg)]) (rest := []) hC (zI.swap hI) (zKM hI.1) (cX12_row_met st l D am cm μ (xs (x4 + 1).toNatClampNeg) _ g159) (zgV zw91_23 zw92_0 zw92_1 zw1_5 zw92_2) rfl ⟨rfl, rfl⟩ 1 hdX12_row ⟨Nat.le_of_ble_eq_true rfl, Nat.le_of_ble_eq_true rfl⟩ rfl rfl (wM_e0 am cm μ) rfl hl rfl (Nat.le_of_ble_eq_true rfl) dL_law_1252 ⟨by show cells + 1 ≤ 600128; omega, by show slots + 6 ≤ 7301064; omega⟩ (fun H locs hI => ?_)
  have hI : zLw st D ad cy am cm ao co μ159 o157 σ157 s H locs := zI.swap hI
  refine lv_istore (lv' := [(6, .int v160), (5, .int v158), (4, .int x4), (3, .ref ao), (2, .ref (am 0)), (1, .ref (ad 0)), (0, .ref b)]) hx hb dL_law_1255 hl (by decide) rfl (fun ls hl => ?_)
  refine lv_goto (tgt := 1401) hx hb dL_law_1257 (by decide) ?_
  obtain ⟨v161, ev161⟩ : ∃ z : Int32, z = x4 + 8 := ⟨_, rfl⟩
  replace hf := zbv_use ev161 hf
  refine lv_iinc (v := v161) (lv' := [(4, .int v161), (6, .int v160), (5, .int v158), (3, .ref ao), (2, .ref (am 0)), (1, .ref (ad 0)), (0, .ref b)]) hx hb dL_law_1401 hl (k := 2) rfl (by rw [ev161]; rfl) (by decide) rfl (fun ls hl => ?_)
  refine lv_goto (tgt := 33) hx hb dL_law_1404 (by decide) ?_
  exact hk _ _ _ _ _ _ _ _ _ (by omega) (by omega) hI (lv_sub hl [0, 3, 4, 5, 6] rfl) hf
