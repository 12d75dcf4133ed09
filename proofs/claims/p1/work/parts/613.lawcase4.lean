def fLaw_1668 (xs : Nat → Int32) (L : Nat) (kn : zSt → (Nat → Int64) → zSt → Int32 → Option Int32) (μ : zSt) (o : Nat → Int64) (σ : zSt) (x4 : Int32) : Option Int32 :=
  zbh (fL_hear o σ ) (fun o224 σ224 v225 =>
  zbl (fX12_hear μ ) (fun μ226 v227 =>
  zbi (fX12_thrown μ226 ) (fun μ228 v229 =>
  if v229 = v225 then if v225 = 0 then if (lg_cmp (o224 0) v227) = 0 then zbv (x4 + 8) (fun v231 => kn μ228 o224 σ224 v231) else
  some 0 else
  zbv (x4 + 8) (fun v230 => kn μ228 o224 σ224 v230) else
  some 0)))
set_option maxRecDepth 20000 in
set_option maxHeartbeats 4000000 in
theorem bLaw_1668 {p : Program} {l : Launch} {e : Env} {s : State} {m : MethodId} {below : List Frame} {meth : Method} {c : Code} {st : Nat → Nat} {D : va_G} {b L : Nat} {xs : Nat → Int32} {ad am : Nat → Nat} {cy cm : Nat → ClassId} {ao : Nat} {co : ClassId} (hC : zC p m c cL_law 8 s #[Value.ref b] wzL_law RL meth ret) (hst : l.stackTraces = false) (hX : va_X b L xs s s.heap) (hbl : b < s.heap.size) (hbA : ¬ (fun q : Nat => s.heap.size ≤ q) b) {n : Nat} {kn : zSt → (Nat → Int64) → zSt → Int32 → Option Int32} (hk : ∀ (H : Heap) (locs : List Loc) (μ : zSt) (o : Nat → Int64) (σ : zSt) (ls : Array Slot) (x4 : Int32) (cells slots : Nat), cells + n ≤ 600002 → slots + 6 * n ≤ 7302198 → zLw st D ad cy am cm ao co μ o σ s H locs → lv_has ls 8 [(4, .int x4), (3, .ref ao), (2, .ref (am 0)), (1, .ref (ad 0)), (0, .ref b)] → kn μ o σ x4 = some 1 → W p l e room_1 s m #[Value.ref b] below meth c H locs cells slots (lw_Z below #[Value.ref b] s) (F0 m 33 ls [])) {H : Heap} {locs : List Loc} {μ : zSt} {o : Nat → Int64} {σ : zSt} {ls : Array Slot} {x4 : Int32} {cells slots : Nat} (hc : cells + (n + 1) ≤ 600002) (hs : slots + 6 * (n + 1) ≤ 7302198) (hI : zLw st D ad cy am cm ao co μ o σ s H locs) (hl : lv_has ls 8 [(4, .int x4), (3, .ref ao), (2, .ref (am 0)), (1, .ref (ad 0)), (0, .ref b)]) (hf : fLaw_1668 xs L kn μ o σ x4 = some 1) : W p l e room_1 s m #[Value.ref b] below meth c H locs cells slots (lw_Z below #[Value.ref b] s) (F0 m 1668 ls []) := by
  have hx := hC.1
  have hb := hC.2.1
  unfold fLaw_1668 at hf
  refine lv_aload_n hx hb dL_law_1668 rfl (lv_at hl 3 rfl) ?_
  refine lv_aload_n hx hb dL_law_1669 rfl (lv_at hl 1 rfl) ?_
  obtain ⟨o224, σ224, v225, g224, hf⟩ := zbh_use hf
  refine z_fcallH (u := wM am cm μ) (w := fun x : zHs => zHo ao co x.1 ++ wC ad cy x.2) (x := (o, σ)) (As := [.ref (ad 0), .ref ao]) (rest := []) hC hI (zKH hI.1) (cL_hear_met st l hst D ad cy ao co o σ  _ g224) (zgS zw92_3 zw92_4 zw1_10 zw92_5) rfl ⟨rfl, rfl⟩ 2 hdL_hear ⟨Nat.le_of_ble_eq_true rfl, Nat.le_of_ble_eq_true rfl⟩ rfl hl rfl (Nat.le_of_ble_eq_true rfl) dL_law_1670 ⟨by show cells + 1 ≤ 600002; omega, by show slots + 6 ≤ 7302198; omega⟩ (fun H locs hI => ?_)
  have hI : zLw st D ad cy am cm ao co μ o224 σ224 s H locs := hI
  refine lv_istore (lv' := [(5, .int v225), (4, .int x4), (3, .ref ao), (2, .ref (am 0)), (1, .ref (ad 0)), (0, .ref b)]) hx hb dL_law_1673 hl (by decide) rfl (fun ls hl => ?_)
  refine lv_aload_n hx hb dL_law_1675 rfl (lv_at hl 3 rfl) ?_
  obtain ⟨μ226, v227, g226, hf⟩ := zbl_use hf
  refine z_fcallVl (u := zHo ao co o224 ++ wC ad cy σ224) (w := wM am cm) (As := []) (rest := []) hC (zI.swap hI) (zKM hI.1) (cX12_hear_met st l D am cm μ  _ g226) (zgV zw92_19 zw92_20 zw92_21 zw1_5 zw92_22) rfl ⟨rfl, rfl⟩ 0 hdX12_hear ⟨Nat.le_of_ble_eq_true rfl, Nat.le_of_ble_eq_true rfl⟩ rfl rfl (wM_e0 am cm μ) rfl hl rfl (Nat.le_of_ble_eq_true rfl) dL_law_1676 ⟨by show cells + 1 ≤ 600002; omega, by show slots + 6 ≤ 7302198; omega⟩ (fun H locs hI => ?_)
  have hI : zLw st D ad cy am cm ao co μ226 o224 σ224 s H locs := zI.swap hI
  refine lv_lstore (lv' := [(6, .long v227), (5, .int v225), (4, .int x4), (3, .ref ao), (2, .ref (am 0)), (1, .ref (ad 0)), (0, .ref b)]) hx hb dL_law_1679 hl (by decide) rfl (fun ls hl => ?_)
  refine lv_aload_n hx hb dL_law_1681 rfl (lv_at hl 4 rfl) ?_
  obtain ⟨μ228, v229, g228, hf⟩ := zbi_use hf
  refine z_fcallVi (u := zHo ao co o224 ++ wC ad cy σ224) (w := wM am cm) (As := []) (rest := []) hC (zI.swap hI) (zKM hI.1) (cX12_thrown_met st l D am cm μ226  _ g228) (zgV zw12_2 zw12_3 zw12_4 zw1_5 zw12_5) rfl ⟨rfl, rfl⟩ 0 hdX12_thrown ⟨Nat.le_of_ble_eq_true rfl, Nat.le_of_ble_eq_true rfl⟩ rfl rfl (wM_e0 am cm μ226) rfl hl rfl (Nat.le_of_ble_eq_true rfl) dL_law_1682 ⟨by show cells + 1 ≤ 600002; omega, by show slots + 6 ≤ 7302198; omega⟩ (fun H locs hI => ?_)
  have hI : zLw st D ad cy am cm ao co μ228 o224 σ224 s H locs := zI.swap hI
  refine lv_iload hx hb dL_law_1685 (lv_at hl 1 rfl) ?_
  refine lv_icmp_eq (tgt := 1692) hx hb dL_law_1687 (by decide) (fun q => ?_) (fun q => ?_)
  · replace hf := zif_t q hf
    refine lv_iload hx hb dL_law_1692 (lv_at hl 1 rfl) ?_
    refine lv_if_ne (tgt := 1708) hx hb dL_law_1694 (by decide) (fun q => ?_) (fun q => ?_)
    · replace hf := zif_f q hf
      refine lv_goto (tgt := 1946) hx hb dL_law_1708 (by decide) ?_
      obtain ⟨v230, ev230⟩ : ∃ z : Int32, z = x4 + 8 := ⟨_, rfl⟩
      replace hf := zbv_use ev230 hf
      refine lv_iinc (v := v230) (lv' := [(4, .int v230), (6, .long v227), (5, .int v225), (3, .ref ao), (2, .ref (am 0)), (1, .ref (ad 0)), (0, .ref b)]) hx hb dL_law_1946 hl (k := 2) rfl (by rw [ev230]; rfl) (by decide) rfl (fun ls hl => ?_)
      refine lv_goto (tgt := 33) hx hb dL_law_1949 (by decide) ?_
      exact hk _ _ _ _ _ _ _ _ _ (by omega) (by omega) hI (lv_sub hl [0, 3, 4, 5, 6] rfl) hf
    replace hf := zif_t q hf
    refine lv_aload_n hx hb dL_law_1697 rfl (lv_at hl 3 rfl) ?_
    refine lv_iconst (v := 0) hx hb dL_law_1698 (by decide) ?_
    refine z_lald (i := 0) hC hI 27 63 (zLo_e am cm ao co μ228 o224 _) (zLo_t cy cm co) (by decide) dL_law_1699 ?_
    refine lv_lload hx hb dL_law_1700 (lv_at hl 0 rfl) ?_
    refine W.lcmp hx hb dL_law_1702 ?_
    refine lv_if_eq (tgt := 1708) hx hb dL_law_1703 (by decide) (fun q => ?_) (fun q => ?_)
    · replace hf := zif_t q hf
      refine lv_goto (tgt := 1946) hx hb dL_law_1708 (by decide) ?_
      obtain ⟨v231, ev231⟩ : ∃ z : Int32, z = x4 + 8 := ⟨_, rfl⟩
      replace hf := zbv_use ev231 hf
      refine lv_iinc (v := v231) (lv' := [(4, .int v231), (6, .long v227), (5, .int v225), (3, .ref ao), (2, .ref (am 0)), (1, .ref (ad 0)), (0, .ref b)]) hx hb dL_law_1946 hl (k := 2) rfl (by rw [ev231]; rfl) (by decide) rfl (fun ls hl => ?_)
      refine lv_goto (tgt := 33) hx hb dL_law_1949 (by decide) ?_
      exact hk _ _ _ _ _ _ _ _ _ (by omega) (by omega) hI (lv_sub hl [0, 3, 4, 5, 6] rfl) hf
    replace hf := zif_f q hf
    refine lv_iconst (v := 0) hx hb dL_law_1706 (by decide) ?_
    exact absurd (Option.some.inj hf) (by decide)
  replace hf := zif_f q hf
  refine lv_iconst (v := 0) hx hb dL_law_1690 (by decide) ?_
  exact absurd (Option.some.inj hf) (by decide)
def fLaw_1711 (xs : Nat → Int32) (L : Nat) (kn : zSt → (Nat → Int64) → zSt → Int32 → Option Int32) (μ : zSt) (o : Nat → Int64) (σ : zSt) (x4 : Int32) : Option Int32 :=
  zbh (fL_mix o σ ) (fun o232 σ232 v233 =>
  zbl (fX12_mix μ ) (fun μ234 v235 =>
  zbi (fX12_thrown μ234 ) (fun μ236 v237 =>
  if v237 = v233 then if v233 = 0 then if (lg_cmp (o232 0) v235) = 0 then zbv (x4 + 8) (fun v239 => kn μ236 o232 σ232 v239) else
  some 0 else
  zbv (x4 + 8) (fun v238 => kn μ236 o232 σ232 v238) else
  some 0)))
set_option maxRecDepth 20000 in
set_option maxHeartbeats 4000000 in
theorem bLaw_1711 {p : Program} {l : Launch} {e : Env} {s : State} {m : MethodId} {below : List Frame} {meth : Method} {c : Code} {st : Nat → Nat} {D : va_G} {b L : Nat} {xs : Nat → Int32} {ad am : Nat → Nat} {cy cm : Nat → ClassId} {ao : Nat} {co : ClassId} (hC : zC p m c cL_law 8 s #[Value.ref b] wzL_law RL meth ret) (hst : l.stackTraces = false) (hX : va_X b L xs s s.heap) (hbl : b < s.heap.size) (hbA : ¬ (fun q : Nat => s.heap.size ≤ q) b) {n : Nat} {kn : zSt → (Nat → Int64) → zSt → Int32 → Option Int32} (hk : ∀ (H : Heap) (locs : List Loc) (μ : zSt) (o : Nat → Int64) (σ : zSt) (ls : Array Slot) (x4 : Int32) (cells slots : Nat), cells + n ≤ 600002 → slots + 6 * n ≤ 7302198 → zLw st D ad cy am cm ao co μ o σ s H locs → lv_has ls 8 [(4, .int x4), (3, .ref ao), (2, .ref (am 0)), (1, .ref (ad 0)), (0, .ref b)] → kn μ o σ x4 = some 1 → W p l e room_1 s m #[Value.ref b] below meth c H locs cells slots (lw_Z below #[Value.ref b] s) (F0 m 33 ls [])) {H : Heap} {locs : List Loc} {μ : zSt} {o : Nat → Int64} {σ : zSt} {ls : Array Slot} {x4 : Int32} {cells slots : Nat} (hc : cells + (n + 1) ≤ 600002) (hs : slots + 6 * (n + 1) ≤ 7302198) (hI : zLw st D ad cy am cm ao co μ o σ s H locs) (hl : lv_has ls 8 [(4, .int x4), (3, .ref ao), (2, .ref (am 0)), (1, .ref (ad 0)), (0, .ref b)]) (hf : fLaw_1711 xs L kn μ o σ x4 = some 1) : W p l e room_1 s m #[Value.ref b] below meth c H locs cells slots (lw_Z below #[Value.ref b] s) (F0 m 1711 ls []) := by
  have hx := hC.1
  have hb := hC.2.1
  unfold fLaw_1711 at hf
  refine lv_aload_n hx hb dL_law_1711 rfl (lv_at hl 3 rfl) ?_
  refine lv_aload_n hx hb dL_law_1712 rfl (lv_at hl 1 rfl) ?_
  obtain ⟨o232, σ232, v233, g232, hf⟩ := zbh_use hf
  refine z_fcallH (u := wM am cm μ) (w := fun x : zHs => zHo ao co x.1 ++ wC ad cy x.2) (x := (o, σ)) (As := [.ref (ad 0), .ref ao]) (rest := []) hC hI (zKH hI.1) (cL_mix_met st l hst D ad cy ao co o σ  _ g232) (zgS zw92_23 zw93_0 zw1_10 zw93_1) rfl ⟨rfl, rfl⟩ 2 hdL_mix ⟨Nat.le_of_ble_eq_true rfl, Nat.le_of_ble_eq_true rfl⟩ rfl hl rfl (Nat.le_of_ble_eq_true rfl) dL_law_1713 ⟨by show cells + 1 ≤ 600002; omega, by show slots + 6 ≤ 7302198; omega⟩ (fun H locs hI => ?_)
  have hI : zLw st D ad cy am cm ao co μ o232 σ232 s H locs := hI
  refine lv_istore (lv' := [(5, .int v233), (4, .int x4), (3, .ref ao), (2, .ref (am 0)), (1, .ref (ad 0)), (0, .ref b)]) hx hb dL_law_1716 hl (by decide) rfl (fun ls hl => ?_)
  refine lv_aload_n hx hb dL_law_1718 rfl (lv_at hl 3 rfl) ?_
  obtain ⟨μ234, v235, g234, hf⟩ := zbl_use hf
  refine z_fcallVl (u := zHo ao co o232 ++ wC ad cy σ232) (w := wM am cm) (As := []) (rest := []) hC (zI.swap hI) (zKM hI.1) (cX12_mix_met st l D am cm μ  _ g234) (zgV zw93_7 zw93_8 zw93_9 zw1_5 zw93_10) rfl ⟨rfl, rfl⟩ 0 hdX12_mix ⟨Nat.le_of_ble_eq_true rfl, Nat.le_of_ble_eq_true rfl⟩ rfl rfl (wM_e0 am cm μ) rfl hl rfl (Nat.le_of_ble_eq_true rfl) dL_law_1719 ⟨by show cells + 1 ≤ 600002; omega, by show slots + 6 ≤ 7302198; omega⟩ (fun H locs hI => ?_)
  have hI : zLw st D ad cy am cm ao co μ234 o232 σ232 s H locs := zI.swap hI
  refine lv_lstore (lv' := [(6, .long v235), (5, .int v233), (4, .int x4), (3, .ref ao), (2, .ref (am 0)), (1, .ref (ad 0)), (0, .ref b)]) hx hb dL_law_1722 hl (by decide) rfl (fun ls hl => ?_)
  refine lv_aload_n hx hb dL_law_1724 rfl (lv_at hl 4 rfl) ?_
  obtain ⟨μ236, v237, g236, hf⟩ := zbi_use hf
  refine z_fcallVi (u := zHo ao co o232 ++ wC ad cy σ232) (w := wM am cm) (As := []) (rest := []) hC (zI.swap hI) (zKM hI.1) (cX12_thrown_met st l D am cm μ234  _ g236) (zgV zw12_2 zw12_3 zw12_4 zw1_5 zw12_5) rfl ⟨rfl, rfl⟩ 0 hdX12_thrown ⟨Nat.le_of_ble_eq_true rfl, Nat.le_of_ble_eq_true rfl⟩ rfl rfl (wM_e0 am cm μ234) rfl hl rfl (Nat.le_of_ble_eq_true rfl) dL_law_1725 ⟨by show cells + 1 ≤ 600002; omega, by show slots + 6 ≤ 7302198; omega⟩ (fun H locs hI => ?_)
  have hI : zLw st D ad cy am cm ao co μ236 o232 σ232 s H locs := zI.swap hI
  refine lv_iload hx hb dL_law_1728 (lv_at hl 1 rfl) ?_
  refine lv_icmp_eq (tgt := 1735) hx hb dL_law_1730 (by decide) (fun q => ?_) (fun q => ?_)
  · replace hf := zif_t q hf
    refine lv_iload hx hb dL_law_1735 (lv_at hl 1 rfl) ?_
    refine lv_if_ne (tgt := 1751) hx hb dL_law_1737 (by decide) (fun q => ?_) (fun q => ?_)
    · replace hf := zif_f q hf
      refine lv_goto (tgt := 1946) hx hb dL_law_1751 (by decide) ?_
      obtain ⟨v238, ev238⟩ : ∃ z : Int32, z = x4 + 8 := ⟨_, rfl⟩
      replace hf := zbv_use ev238 hf
      refine lv_iinc (v := v238) (lv' := [(4, .int v238), (6, .long v235), (5, .int v233), (3, .ref ao), (2, .ref (am 0)), (1, .ref (ad 0)), (0, .ref b)]) hx hb dL_law_1946 hl (k := 2) rfl (by rw [ev238]; rfl) (by decide) rfl (fun ls hl => ?_)
      refine lv_goto (tgt := 33) hx hb dL_law_1949 (by decide) ?_
      exact hk _ _ _ _ _ _ _ _ _ (by omega) (by omega) hI (lv_sub hl [0, 3, 4, 5, 6] rfl) hf
    replace hf := zif_t q hf
    refine lv_aload_n hx hb dL_law_1740 rfl (lv_at hl 3 rfl) ?_
    refine lv_iconst (v := 0) hx hb dL_law_1741 (by decide) ?_
    refine z_lald (i := 0) hC hI 27 63 (zLo_e am cm ao co μ236 o232 _) (zLo_t cy cm co) (by decide) dL_law_1742 ?_
    refine lv_lload hx hb dL_law_1743 (lv_at hl 0 rfl) ?_
    refine W.lcmp hx hb dL_law_1745 ?_
    refine lv_if_eq (tgt := 1751) hx hb dL_law_1746 (by decide) (fun q => ?_) (fun q => ?_)
    · replace hf := zif_t q hf
      refine lv_goto (tgt := 1946) hx hb dL_law_1751 (by decide) ?_
      obtain ⟨v239, ev239⟩ : ∃ z : Int32, z = x4 + 8 := ⟨_, rfl⟩
      replace hf := zbv_use ev239 hf
      refine lv_iinc (v := v239) (lv' := [(4, .int v239), (6, .long v235), (5, .int v233), (3, .ref ao), (2, .ref (am 0)), (1, .ref (ad 0)), (0, .ref b)]) hx hb dL_law_1946 hl (k := 2) rfl (by rw [ev239]; rfl) (by decide) rfl (fun ls hl => ?_)
      refine lv_goto (tgt := 33) hx hb dL_law_1949 (by decide) ?_
      exact hk _ _ _ _ _ _ _ _ _ (by omega) (by omega) hI (lv_sub hl [0, 3, 4, 5, 6] rfl) hf
    replace hf := zif_f q hf
    refine lv_iconst (v := 0) hx hb dL_law_1749 (by decide) ?_
    exact absurd (Option.some.inj hf) (by decide)
  replace hf := zif_f q hf
  refine lv_iconst (v := 0) hx hb dL_law_1733 (by decide) ?_
  exact absurd (Option.some.inj hf) (by decide)
def fLaw_1754 (xs : Nat → Int32) (L : Nat) (kn : zSt → (Nat → Int64) → zSt → Int32 → Option Int32) (μ : zSt) (o : Nat → Int64) (σ : zSt) (x4 : Int32) : Option Int32 :=
  zck (zin (x4 + 1) L) (zbh (fL_wave o σ (xs (x4 + 1).toNatClampNeg)) (fun o240 σ240 v241 =>
  zck (zin (x4 + 1) L) (zbi (fX12_wave μ (xs (x4 + 1).toNatClampNeg)) (fun μ242 v243 =>
  zbi (fX12_thrown μ242 ) (fun μ244 v245 =>
  if v245 = v241 then if v241 = 0 then if (lg_cmp (o240 0) (v243.toInt64)) = 0 then zbv (x4 + 8) (fun v247 => kn μ244 o240 σ240 v247) else
  some 0 else
  zbv (x4 + 8) (fun v246 => kn μ244 o240 σ240 v246) else
  some 0)))))
set_option maxRecDepth 20000 in
set_option maxHeartbeats 4000000 in
theorem bLaw_1754 {p : Program} {l : Launch} {e : Env} {s : State} {m : MethodId} {below : List Frame} {meth : Method} {c : Code} {st : Nat → Nat} {D : va_G} {b L : Nat} {xs : Nat → Int32} {ad am : Nat → Nat} {cy cm : Nat → ClassId} {ao : Nat} {co : ClassId} (hC : zC p m c cL_law 8 s #[Value.ref b] wzL_law RL meth ret) (hst : l.stackTraces = false) (hX : va_X b L xs s s.heap) (hbl : b < s.heap.size) (hbA : ¬ (fun q : Nat => s.heap.size ≤ q) b) {n : Nat} {kn : zSt → (Nat → Int64) → zSt → Int32 → Option Int32} (hk : ∀ (H : Heap) (locs : List Loc) (μ : zSt) (o : Nat → Int64) (σ : zSt) (ls : Array Slot) (x4 : Int32) (cells slots : Nat), cells + n ≤ 600002 → slots + 6 * n ≤ 7302198 → zLw st D ad cy am cm ao co μ o σ s H locs → lv_has ls 8 [(4, .int x4), (3, .ref ao), (2, .ref (am 0)), (1, .ref (ad 0)), (0, .ref b)] → kn μ o σ x4 = some 1 → W p l e room_1 s m #[Value.ref b] below meth c H locs cells slots (lw_Z below #[Value.ref b] s) (F0 m 33 ls [])) {H : Heap} {locs : List Loc} {μ : zSt} {o : Nat → Int64} {σ : zSt} {ls : Array Slot} {x4 : Int32} {cells slots : Nat} (hc : cells + (n + 1) ≤ 600002) (hs : slots + 6 * (n + 1) ≤ 7302198) (hI : zLw st D ad cy am cm ao co μ o σ s H locs) (hl : lv_has ls 8 [(4, .int x4), (3, .ref ao), (2, .ref (am 0)), (1, .ref (ad 0)), (0, .ref b)]) (hf : fLaw_1754 xs L kn μ o σ x4 = some 1) : W p l e room_1 s m #[Value.ref b] below meth c H locs cells slots (lw_Z below #[Value.ref b] s) (F0 m 1754 ls []) := by
  have hx := hC.1
  have hb := hC.2.1
  unfold fLaw_1754 at hf
  refine lv_aload_n hx hb dL_law_1754 rfl (lv_at hl 3 rfl) ?_
  refine lv_aload_n hx hb dL_law_1755 rfl (lv_at hl 4 rfl) ?_
  refine lv_iload hx hb dL_law_1756 (lv_at hl 0 rfl) ?_
  refine lv_iconst (v := 1) hx hb dL_law_1758 (by decide) ?_
  refine lv_iadd hx hb dL_law_1759 ?_
  obtain ⟨q, hf⟩ := zck_use hf
  refine va_sld hx hb hX hbl hbA hI.2.2.2.1 (zin_in q) dL_law_1760 ?_
  refine lv_aload_n hx hb dL_law_1761 rfl (lv_at hl 1 rfl) ?_
  obtain ⟨o240, σ240, v241, g240, hf⟩ := zbh_use hf
  refine z_fcallH (u := wM am cm μ) (w := fun x : zHs => zHo ao co x.1 ++ wC ad cy x.2) (x := (o, σ)) (As := [.ref (ad 0), .int (xs (x4 + 1).toNatClampNeg), .ref ao]) (rest := []) hC hI (zKH hI.1) (cL_wave_met st l hst D ad cy ao co o σ (xs (x4 + 1).toNatClampNeg) _ g240) (zgS zw93_11 zw93_12 zw1_10 zw93_13) rfl ⟨rfl, rfl⟩ 3 hdL_wave ⟨Nat.le_of_ble_eq_true rfl, Nat.le_of_ble_eq_true rfl⟩ rfl hl rfl (Nat.le_of_ble_eq_true rfl) dL_law_1762 ⟨by show cells + 1 ≤ 600002; omega, by show slots + 6 ≤ 7302198; omega⟩ (fun H locs hI => ?_)
  have hI : zLw st D ad cy am cm ao co μ o240 σ240 s H locs := hI
  refine lv_istore (lv' := [(5, .int v241), (4, .int x4), (3, .ref ao), (2, .ref (am 0)), (1, .ref (ad 0)), (0, .ref b)]) hx hb dL_law_1765 hl (by decide) rfl (fun ls hl => ?_)
  refine lv_aload_n hx hb dL_law_1767 rfl (lv_at hl 3 rfl) ?_
  refine lv_aload_n hx hb dL_law_1768 rfl (lv_at hl 5 rfl) ?_
  refine lv_iload hx hb dL_law_1769 (lv_at hl 1 rfl) ?_
  refine lv_iconst (v := 1) hx hb dL_law_1771 (by decide) ?_
  refine lv_iadd hx hb dL_law_1772 ?_
  obtain ⟨q, hf⟩ := zck_use hf
  refine va_sld hx hb hX hbl hbA hI.2.2.2.1 (zin_in q) dL_law_1773 ?_
  obtain ⟨μ242, v243, g242, hf⟩ := zbi_use hf
  refine z_fcallVi (u := zHo ao co o240 ++ wC ad cy σ240) (w := wM am cm) (As := [.int (xs (x4 + 1).toNatClampNeg)]) (rest := []) hC (zI.swap hI) (zKM hI.1) (cX12_wave_met st l D am cm μ (xs (x4 + 1).toNatClampNeg) _ g242) (zgV zw93_22 zw93_23 zw94_0 zw1_5 zw94_1) rfl ⟨rfl, rfl⟩ 1 hdX12_wave ⟨Nat.le_of_ble_eq_true rfl, Nat.le_of_ble_eq_true rfl⟩ rfl rfl (wM_e0 am cm μ) rfl hl rfl (Nat.le_of_ble_eq_true rfl) dL_law_1774 ⟨by show cells + 1 ≤ 600002; omega, by show slots + 6 ≤ 7302198; omega⟩ (fun H locs hI => ?_)
  have hI : zLw st D ad cy am cm ao co μ242 o240 σ240 s H locs := zI.swap hI
  refine lv_istore (lv' := [(6, .int v243), (5, .int v241), (4, .int x4), (3, .ref ao), (2, .ref (am 0)), (1, .ref (ad 0)), (0, .ref b)]) hx hb dL_law_1777 hl (by decide) rfl (fun ls hl => ?_)
  refine lv_aload_n hx hb dL_law_1779 rfl (lv_at hl 4 rfl) ?_
  obtain ⟨μ244, v245, g244, hf⟩ := zbi_use hf
  refine z_fcallVi (u := zHo ao co o240 ++ wC ad cy σ240) (w := wM am cm) (As := []) (rest := []) hC (zI.swap hI) (zKM hI.1) (cX12_thrown_met st l D am cm μ242  _ g244) (zgV zw12_2 zw12_3 zw12_4 zw1_5 zw12_5) rfl ⟨rfl, rfl⟩ 0 hdX12_thrown ⟨Nat.le_of_ble_eq_true rfl, Nat.le_of_ble_eq_true rfl⟩ rfl rfl (wM_e0 am cm μ242) rfl hl rfl (Nat.le_of_ble_eq_true rfl) dL_law_1780 ⟨by show cells + 1 ≤ 600002; omega, by show slots + 6 ≤ 7302198; omega⟩ (fun H locs hI => ?_)
  have hI : zLw st D ad cy am cm ao co μ244 o240 σ240 s H locs := zI.swap hI
  refine lv_iload hx hb dL_law_1783 (lv_at hl 1 rfl) ?_
  refine lv_icmp_eq (tgt := 1790) hx hb dL_law_1785 (by decide) (fun q => ?_) (fun q => ?_)
  · replace hf := zif_t q hf
    refine lv_iload hx hb dL_law_1790 (lv_at hl 1 rfl) ?_
    refine lv_if_ne (tgt := 1807) hx hb dL_law_1792 (by decide) (fun q => ?_) (fun q => ?_)
    · replace hf := zif_f q hf
      refine lv_goto (tgt := 1946) hx hb dL_law_1807 (by decide) ?_
      obtain ⟨v246, ev246⟩ : ∃ z : Int32, z = x4 + 8 := ⟨_, rfl⟩
      replace hf := zbv_use ev246 hf
      refine lv_iinc (v := v246) (lv' := [(4, .int v246), (6, .int v243), (5, .int v241), (3, .ref ao), (2, .ref (am 0)), (1, .ref (ad 0)), (0, .ref b)]) hx hb dL_law_1946 hl (k := 2) rfl (by rw [ev246]; rfl) (by decide) rfl (fun ls hl => ?_)
      refine lv_goto (tgt := 33) hx hb dL_law_1949 (by decide) ?_
      exact hk _ _ _ _ _ _ _ _ _ (by omega) (by omega) hI (lv_sub hl [0, 3, 4, 5, 6] rfl) hf
    replace hf := zif_t q hf
    refine lv_aload_n hx hb dL_law_1795 rfl (lv_at hl 3 rfl) ?_
    refine lv_iconst (v := 0) hx hb dL_law_1796 (by decide) ?_
    refine z_lald (i := 0) hC hI 27 63 (zLo_e am cm ao co μ244 o240 _) (zLo_t cy cm co) (by decide) dL_law_1797 ?_
    refine lv_iload hx hb dL_law_1798 (lv_at hl 0 rfl) ?_
    refine lv_i2l (v := v243.toInt64) hx hb dL_law_1800 rfl ?_
    refine W.lcmp hx hb dL_law_1801 ?_
    refine lv_if_eq (tgt := 1807) hx hb dL_law_1802 (by decide) (fun q => ?_) (fun q => ?_)
    · replace hf := zif_t q hf
      refine lv_goto (tgt := 1946) hx hb dL_law_1807 (by decide) ?_
      obtain ⟨v247, ev247⟩ : ∃ z : Int32, z = x4 + 8 := ⟨_, rfl⟩
      replace hf := zbv_use ev247 hf
      refine lv_iinc (v := v247) (lv' := [(4, .int v247), (6, .int v243), (5, .int v241), (3, .ref ao), (2, .ref (am 0)), (1, .ref (ad 0)), (0, .ref b)]) hx hb dL_law_1946 hl (k := 2) rfl (by rw [ev247]; rfl) (by decide) rfl (fun ls hl => ?_)
      refine lv_goto (tgt := 33) hx hb dL_law_1949 (by decide) ?_
      exact hk _ _ _ _ _ _ _ _ _ (by omega) (by omega) hI (lv_sub hl [0, 3, 4, 5, 6] rfl) hf
    replace hf := zif_f q hf
    refine lv_iconst (v := 0) hx hb dL_law_1805 (by decide) ?_
    exact absurd (Option.some.inj hf) (by decide)
  replace hf := zif_f q hf
  refine lv_iconst (v := 0) hx hb dL_law_1788 (by decide) ?_
  exact absurd (Option.some.inj hf) (by decide)
def fLaw_1810 (xs : Nat → Int32) (L : Nat) (kn : zSt → (Nat → Int64) → zSt → Int32 → Option Int32) (μ : zSt) (o : Nat → Int64) (σ : zSt) (x4 : Int32) : Option Int32 :=
  zck (zin (x4 + 1) L) (zbh (fL_sound o σ (xs (x4 + 1).toNatClampNeg)) (fun o248 σ248 v249 =>
  zck (zin (x4 + 1) L) (zbi (fX12_sound μ (xs (x4 + 1).toNatClampNeg)) (fun μ250 v251 =>
  zbi (fX12_thrown μ250 ) (fun μ252 v253 =>
  if v253 = v249 then if v249 = 0 then if (lg_cmp (o248 0) (v251.toInt64)) = 0 then zbv (x4 + 8) (fun v255 => kn μ252 o248 σ248 v255) else
  some 0 else
  zbv (x4 + 8) (fun v254 => kn μ252 o248 σ248 v254) else
  some 0)))))
set_option maxRecDepth 20000 in
set_option maxHeartbeats 4000000 in
theorem bLaw_1810 {p : Program} {l : Launch} {e : Env} {s : State} {m : MethodId} {below : List Frame} {meth : Method} {c : Code} {st : Nat → Nat} {D : va_G} {b L : Nat} {xs : Nat → Int32} {ad am : Nat → Nat} {cy cm : Nat → ClassId} {ao : Nat} {co : ClassId} (hC : zC p m c cL_law 8 s #[Value.ref b] wzL_law RL meth ret) (hst : l.stackTraces = false) (hX : va_X b L xs s s.heap) (hbl : b < s.heap.size) (hbA : ¬ (fun q : Nat => s.heap.size ≤ q) b) {n : Nat} {kn : zSt → (Nat → Int64) → zSt → Int32 → Option Int32} (hk : ∀ (H : Heap) (locs : List Loc) (μ : zSt) (o : Nat → Int64) (σ : zSt) (ls : Array Slot) (x4 : Int32) (cells slots : Nat), cells + n ≤ 600002 → slots + 6 * n ≤ 7302198 → zLw st D ad cy am cm ao co μ o σ s H locs → lv_has ls 8 [(4, .int x4), (3, .ref ao), (2, .ref (am 0)), (1, .ref (ad 0)), (0, .ref b)] → kn μ o σ x4 = some 1 → W p l e room_1 s m #[Value.ref b] below meth c H locs cells slots (lw_Z below #[Value.ref b] s) (F0 m 33 ls [])) {H : Heap} {locs : List Loc} {μ : zSt} {o : Nat → Int64} {σ : zSt} {ls : Array Slot} {x4 : Int32} {cells slots : Nat} (hc : cells + (n + 1) ≤ 600002) (hs : slots + 6 * (n + 1) ≤ 7302198) (hI : zLw st D ad cy am cm ao co μ o σ s H locs) (hl : lv_has ls 8 [(4, .int x4), (3, .ref ao), (2, .ref (am 0)), (1, .ref (ad 0)), (0, .ref b)]) (hf : fLaw_1810 xs L kn μ o σ x4 = some 1) : W p l e room_1 s m #[Value.ref b] below meth c H locs cells slots (lw_Z below #[Value.ref b] s) (F0 m 1810 ls []) := by
  have hx := hC.1
  have hb := hC.2.1
  unfold fLaw_1810 at hf
  refine lv_aload_n hx hb dL_law_1810 rfl (lv_at hl 3 rfl) ?_
  refine lv_aload_n hx hb dL_law_1811 rfl (lv_at hl 4 rfl) ?_
  refine lv_iload hx hb dL_law_1812 (lv_at hl 0 rfl) ?_
  refine lv_iconst (v := 1) hx hb dL_law_1814 (by decide) ?_
  refine lv_iadd hx hb dL_law_1815 ?_
  obtain ⟨q, hf⟩ := zck_use hf
  refine va_sld hx hb hX hbl hbA hI.2.2.2.1 (zin_in q) dL_law_1816 ?_
  refine lv_aload_n hx hb dL_law_1817 rfl (lv_at hl 1 rfl) ?_
  obtain ⟨o248, σ248, v249, g248, hf⟩ := zbh_use hf
  refine z_fcallH (u := wM am cm μ) (w := fun x : zHs => zHo ao co x.1 ++ wC ad cy x.2) (x := (o, σ)) (As := [.ref (ad 0), .int (xs (x4 + 1).toNatClampNeg), .ref ao]) (rest := []) hC hI (zKH hI.1) (cL_sound_met st l hst D ad cy ao co o σ (xs (x4 + 1).toNatClampNeg) _ g248) (zgS zw94_5 zw94_6 zw1_10 zw94_7) rfl ⟨rfl, rfl⟩ 3 hdL_sound ⟨Nat.le_of_ble_eq_true rfl, Nat.le_of_ble_eq_true rfl⟩ rfl hl rfl (Nat.le_of_ble_eq_true rfl) dL_law_1818 ⟨by show cells + 1 ≤ 600002; omega, by show slots + 6 ≤ 7302198; omega⟩ (fun H locs hI => ?_)
  have hI : zLw st D ad cy am cm ao co μ o248 σ248 s H locs := hI
  refine lv_istore (lv' := [(5, .int v249), (4, .int x4), (3, .ref ao), (2, .ref (am 0)), (1, .ref (ad 0)), (0, .ref b)]) hx hb dL_law_1821 hl (by decide) rfl (fun ls hl => ?_)
  refine lv_aload_n hx hb dL_law_1823 rfl (lv_at hl 3 rfl) ?_
  refine lv_aload_n hx hb dL_law_1824 rfl (lv_at hl 5 rfl) ?_
  refine lv_iload hx hb dL_law_1825 (lv_at hl 1 rfl) ?_
  refine lv_iconst (v := 1) hx hb dL_law_1827 (by decide) ?_
  refine lv_iadd hx hb dL_law_1828 ?_
  obtain ⟨q, hf⟩ := zck_use hf
  refine va_sld hx hb hX hbl hbA hI.2.2.2.1 (zin_in q) dL_law_1829 ?_
  obtain ⟨μ250, v251, g250, hf⟩ := zbi_use hf
  refine z_fcallVi (u := zHo ao co o248 ++ wC ad cy σ248) (w := wM am cm) (As := [.int (xs (x4 + 1).toNatClampNeg)]) (rest := []) hC (zI.swap hI) (zKM hI.1) (cX12_sound_met st l D am cm μ (xs (x4 + 1).toNatClampNeg) _ g250) (zgV zw94_16 zw94_17 zw94_18 zw1_5 zw94_19) rfl ⟨rfl, rfl⟩ 1 hdX12_sound ⟨Nat.le_of_ble_eq_true rfl, Nat.le_of_ble_eq_true rfl⟩ rfl rfl (wM_e0 am cm μ) rfl hl rfl (Nat.le_of_ble_eq_true rfl) dL_law_1830 ⟨by show cells + 1 ≤ 600002; omega, by show slots + 6 ≤ 7302198; omega⟩ (fun H locs hI => ?_)
  have hI : zLw st D ad cy am cm ao co μ250 o248 σ248 s H locs := zI.swap hI
  refine lv_istore (lv' := [(6, .int v251), (5, .int v249), (4, .int x4), (3, .ref ao), (2, .ref (am 0)), (1, .ref (ad 0)), (0, .ref b)]) hx hb dL_law_1833 hl (by decide) rfl (fun ls hl => ?_)
  refine lv_aload_n hx hb dL_law_1835 rfl (lv_at hl 4 rfl) ?_
  obtain ⟨μ252, v253, g252, hf⟩ := zbi_use hf
  refine z_fcallVi (u := zHo ao co o248 ++ wC ad cy σ248) (w := wM am cm) (As := []) (rest := []) hC (zI.swap hI) (zKM hI.1) (cX12_thrown_met st l D am cm μ250  _ g252) (zgV zw12_2 zw12_3 zw12_4 zw1_5 zw12_5) rfl ⟨rfl, rfl⟩ 0 hdX12_thrown ⟨Nat.le_of_ble_eq_true rfl, Nat.le_of_ble_eq_true rfl⟩ rfl rfl (wM_e0 am cm μ250) rfl hl rfl (Nat.le_of_ble_eq_true rfl) dL_law_1836 ⟨by show cells + 1 ≤ 600002; omega, by show slots + 6 ≤ 7302198; omega⟩ (fun H locs hI => ?_)
  have hI : zLw st D ad cy am cm ao co μ252 o248 σ248 s H locs := zI.swap hI
  refine lv_iload hx hb dL_law_1839 (lv_at hl 1 rfl) ?_
  refine lv_icmp_eq (tgt := 1846) hx hb dL_law_1841 (by decide) (fun q => ?_) (fun q => ?_)
  · replace hf := zif_t q hf
    refine lv_iload hx hb dL_law_1846 (lv_at hl 1 rfl) ?_
    refine lv_if_ne (tgt := 1863) hx hb dL_law_1848 (by decide) (fun q => ?_) (fun q => ?_)
    · replace hf := zif_f q hf
      refine lv_goto (tgt := 1946) hx hb dL_law_1863 (by decide) ?_
      obtain ⟨v254, ev254⟩ : ∃ z : Int32, z = x4 + 8 := ⟨_, rfl⟩
      replace hf := zbv_use ev254 hf
      refine lv_iinc (v := v254) (lv' := [(4, .int v254), (6, .int v251), (5, .int v249), (3, .ref ao), (2, .ref (am 0)), (1, .ref (ad 0)), (0, .ref b)]) hx hb dL_law_1946 hl (k := 2) rfl (by rw [ev254]; rfl) (by decide) rfl (fun ls hl => ?_)
      refine lv_goto (tgt := 33) hx hb dL_law_1949 (by decide) ?_
      exact hk _ _ _ _ _ _ _ _ _ (by omega) (by omega) hI (lv_sub hl [0, 3, 4, 5, 6] rfl) hf
    replace hf := zif_t q hf
    refine lv_aload_n hx hb dL_law_1851 rfl (lv_at hl 3 rfl) ?_
    refine lv_iconst (v := 0) hx hb dL_law_1852 (by decide) ?_
    refine z_lald (i := 0) hC hI 27 63 (zLo_e am cm ao co μ252 o248 _) (zLo_t cy cm co) (by decide) dL_law_1853 ?_
    refine lv_iload hx hb dL_law_1854 (lv_at hl 0 rfl) ?_
    refine lv_i2l (v := v251.toInt64) hx hb dL_law_1856 rfl ?_
    refine W.lcmp hx hb dL_law_1857 ?_
    refine lv_if_eq (tgt := 1863) hx hb dL_law_1858 (by decide) (fun q => ?_) (fun q => ?_)
    · replace hf := zif_t q hf
      refine lv_goto (tgt := 1946) hx hb dL_law_1863 (by decide) ?_
      obtain ⟨v255, ev255⟩ : ∃ z : Int32, z = x4 + 8 := ⟨_, rfl⟩
      replace hf := zbv_use ev255 hf
      refine lv_iinc (v := v255) (lv' := [(4, .int v255), (6, .int v251), (5, .int v249), (3, .ref ao), (2, .ref (am 0)), (1, .ref (ad 0)), (0, .ref b)]) hx hb dL_law_1946 hl (k := 2) rfl (by rw [ev255]; rfl) (by decide) rfl (fun ls hl => ?_)
      refine lv_goto (tgt := 33) hx hb dL_law_1949 (by decide) ?_
      exact hk _ _ _ _ _ _ _ _ _ (by omega) (by omega) hI (lv_sub hl [0, 3, 4, 5, 6] rfl) hf
    replace hf := zif_f q hf
    refine lv_iconst (v := 0) hx hb dL_law_1861 (by decide) ?_
    exact absurd (Option.some.inj hf) (by decide)
  replace hf := zif_f q hf
  refine lv_iconst (v := 0) hx hb dL_law_1844 (by decide) ?_
  exact absurd (Option.some.inj hf) (by decide)
def fLaw_1866 (xs : Nat → Int32) (L : Nat) (kn : zSt → (Nat → Int64) → zSt → Int32 → Option Int32) (μ : zSt) (o : Nat → Int64) (σ : zSt) (x4 : Int32) : Option Int32 :=
  zck (zin (x4 + 1) L) (zbi (fX11_trace σ (xs (x4 + 1).toNatClampNeg)) (fun σ256 v257 =>
  zck (zin (x4 + 1) L) (zbi (fX12_trace μ (xs (x4 + 1).toNatClampNeg)) (fun μ258 v259 =>
  if v257 = v259 then zbv (x4 + 8) (fun v260 => kn μ258 o σ256 v260) else
  some 0))))
set_option maxRecDepth 20000 in
set_option maxHeartbeats 4000000 in
theorem bLaw_1866 {p : Program} {l : Launch} {e : Env} {s : State} {m : MethodId} {below : List Frame} {meth : Method} {c : Code} {st : Nat → Nat} {D : va_G} {b L : Nat} {xs : Nat → Int32} {ad am : Nat → Nat} {cy cm : Nat → ClassId} {ao : Nat} {co : ClassId} (hC : zC p m c cL_law 8 s #[Value.ref b] wzL_law RL meth ret) (hst : l.stackTraces = false) (hX : va_X b L xs s s.heap) (hbl : b < s.heap.size) (hbA : ¬ (fun q : Nat => s.heap.size ≤ q) b) {n : Nat} {kn : zSt → (Nat → Int64) → zSt → Int32 → Option Int32} (hk : ∀ (H : Heap) (locs : List Loc) (μ : zSt) (o : Nat → Int64) (σ : zSt) (ls : Array Slot) (x4 : Int32) (cells slots : Nat), cells + n ≤ 600002 → slots + 6 * n ≤ 7302198 → zLw st D ad cy am cm ao co μ o σ s H locs → lv_has ls 8 [(4, .int x4), (3, .ref ao), (2, .ref (am 0)), (1, .ref (ad 0)), (0, .ref b)] → kn μ o σ x4 = some 1 → W p l e room_1 s m #[Value.ref b] below meth c H locs cells slots (lw_Z below #[Value.ref b] s) (F0 m 33 ls [])) {H : Heap} {locs : List Loc} {μ : zSt} {o : Nat → Int64} {σ : zSt} {ls : Array Slot} {x4 : Int32} {cells slots : Nat} (hc : cells + (n + 1) ≤ 600002) (hs : slots + 6 * (n + 1) ≤ 7302198) (hI : zLw st D ad cy am cm ao co μ o σ s H locs) (hl : lv_has ls 8 [(4, .int x4), (3, .ref ao), (2, .ref (am 0)), (1, .ref (ad 0)), (0, .ref b)]) (hf : fLaw_1866 xs L kn μ o σ x4 = some 1) : W p l e room_1 s m #[Value.ref b] below meth c H locs cells slots (lw_Z below #[Value.ref b] s) (F0 m 1866 ls []) := by
  have hx := hC.1
  have hb := hC.2.1
  unfold fLaw_1866 at hf
  refine lv_aload_n hx hb dL_law_1866 rfl (lv_at hl 3 rfl) ?_
  refine lv_aload_n hx hb dL_law_1867 rfl (lv_at hl 4 rfl) ?_
  refine lv_iload hx hb dL_law_1868 (lv_at hl 0 rfl) ?_
  refine lv_iconst (v := 1) hx hb dL_law_1870 (by decide) ?_
  refine lv_iadd hx hb dL_law_1871 ?_
  obtain ⟨q, hf⟩ := zck_use hf
  refine va_sld hx hb hX hbl hbA hI.2.2.2.1 (zin_in q) dL_law_1872 ?_
  obtain ⟨σ256, v257, g256, hf⟩ := zbi_use hf
  refine z_fcallVi (u := wM am cm μ ++ zHo ao co o) (w := wC ad cy) (As := [.int (xs (x4 + 1).toNatClampNeg)]) (rest := []) hC (zI.al hI) (zKC hI.1) (cX11_trace_met st l D ad cy σ (xs (x4 + 1).toNatClampNeg) _ g256) (zgV zw94_21 zw94_22 zw94_23 zw1_2 zw95_0) rfl ⟨rfl, rfl⟩ 1 hdX11_trace ⟨Nat.le_of_ble_eq_true rfl, Nat.le_of_ble_eq_true rfl⟩ rfl rfl (wC_e0 ad cy σ) rfl hl rfl (Nat.le_of_ble_eq_true rfl) dL_law_1873 ⟨by show cells ≤ 600002; omega, by show slots ≤ 7302198; omega⟩ (fun H locs hI => ?_)
  have hI : zLw st D ad cy am cm ao co μ o σ256 s H locs := zI.ar hI
  refine lv_aload_n hx hb dL_law_1876 rfl (lv_at hl 2 rfl) ?_
  refine lv_aload_n hx hb dL_law_1877 rfl (lv_at hl 4 rfl) ?_
  refine lv_iload hx hb dL_law_1878 (lv_at hl 0 rfl) ?_
  refine lv_iconst (v := 1) hx hb dL_law_1880 (by decide) ?_
  refine lv_iadd hx hb dL_law_1881 ?_
  obtain ⟨q, hf⟩ := zck_use hf
  refine va_sld hx hb hX hbl hbA hI.2.2.2.1 (zin_in q) dL_law_1882 ?_
  obtain ⟨μ258, v259, g258, hf⟩ := zbi_use hf
  refine z_fcallVi (u := zHo ao co o ++ wC ad cy σ256) (w := wM am cm) (As := [.int (xs (x4 + 1).toNatClampNeg)]) (rest := [.int v257]) hC (zI.swap hI) (zKM hI.1) (cX12_trace_met st l D am cm μ (xs (x4 + 1).toNatClampNeg) _ g258) (zgV zw95_5 zw95_6 zw95_7 zw1_5 zw95_8) rfl ⟨rfl, rfl⟩ 1 hdX12_trace ⟨Nat.le_of_ble_eq_true rfl, Nat.le_of_ble_eq_true rfl⟩ rfl rfl (wM_e0 am cm μ) rfl hl rfl (Nat.le_of_ble_eq_true rfl) dL_law_1883 ⟨by show cells ≤ 600002; omega, by show slots ≤ 7302198; omega⟩ (fun H locs hI => ?_)
  have hI : zLw st D ad cy am cm ao co μ258 o σ256 s H locs := zI.swap hI
  refine lv_icmp_eq (tgt := 1946) hx hb dL_law_1886 (by decide) (fun q => ?_) (fun q => ?_)
  · replace hf := zif_t q hf
    obtain ⟨v260, ev260⟩ : ∃ z : Int32, z = x4 + 8 := ⟨_, rfl⟩
    replace hf := zbv_use ev260 hf
    refine lv_iinc (v := v260) (lv' := [(4, .int v260), (3, .ref ao), (2, .ref (am 0)), (1, .ref (ad 0)), (0, .ref b)]) hx hb dL_law_1946 hl (k := 0) rfl (by rw [ev260]; rfl) (by decide) rfl (fun ls hl => ?_)
    refine lv_goto (tgt := 33) hx hb dL_law_1949 (by decide) ?_
    exact hk _ _ _ _ _ _ _ _ _ (by omega) (by omega) hI (lv_sub hl [0, 1, 2, 3, 4] rfl) hf
  replace hf := zif_f q hf
  refine lv_iconst (v := 0) hx hb dL_law_1889 (by decide) ?_
  exact absurd (Option.some.inj hf) (by decide)
def fLaw_1891 (xs : Nat → Int32) (L : Nat) (kn : zSt → (Nat → Int64) → zSt → Int32 → Option Int32) (μ : zSt) (o : Nat → Int64) (σ : zSt) (x4 : Int32) : Option Int32 :=
  zck (zin (x4 + 1) L) (zbh (fL_look o σ (xs (x4 + 1).toNatClampNeg)) (fun o261 σ261 v262 =>
  zck (zin (x4 + 1) L) (zbl (fX12_look μ (xs (x4 + 1).toNatClampNeg)) (fun μ263 v264 =>
  zbi (fX12_thrown μ263 ) (fun μ265 v266 =>
  if v266 = v262 then if v262 = 0 then if (lg_cmp (o261 0) v264) = 0 then zbv (x4 + 8) (fun v268 => kn μ265 o261 σ261 v268) else
  some 0 else
  zbv (x4 + 8) (fun v267 => kn μ265 o261 σ261 v267) else
  some 0)))))
set_option maxRecDepth 20000 in
set_option maxHeartbeats 4000000 in
theorem bLaw_1891 {p : Program} {l : Launch} {e : Env} {s : State} {m : MethodId} {below : List Frame} {meth : Method} {c : Code} {st : Nat → Nat} {D : va_G} {b L : Nat} {xs : Nat → Int32} {ad am : Nat → Nat} {cy cm : Nat → ClassId} {ao : Nat} {co : ClassId} (hC : zC p m c cL_law 8 s #[Value.ref b] wzL_law RL meth ret) (hst : l.stackTraces = false) (hX : va_X b L xs s s.heap) (hbl : b < s.heap.size) (hbA : ¬ (fun q : Nat => s.heap.size ≤ q) b) {n : Nat} {kn : zSt → (Nat → Int64) → zSt → Int32 → Option Int32} (hk : ∀ (H : Heap) (locs : List Loc) (μ : zSt) (o : Nat → Int64) (σ : zSt) (ls : Array Slot) (x4 : Int32) (cells slots : Nat), cells + n ≤ 600002 → slots + 6 * n ≤ 7302198 → zLw st D ad cy am cm ao co μ o σ s H locs → lv_has ls 8 [(4, .int x4), (3, .ref ao), (2, .ref (am 0)), (1, .ref (ad 0)), (0, .ref b)] → kn μ o σ x4 = some 1 → W p l e room_1 s m #[Value.ref b] below meth c H locs cells slots (lw_Z below #[Value.ref b] s) (F0 m 33 ls [])) {H : Heap} {locs : List Loc} {μ : zSt} {o : Nat → Int64} {σ : zSt} {ls : Array Slot} {x4 : Int32} {cells slots : Nat} (hc : cells + (n + 1) ≤ 600002) (hs : slots + 6 * (n + 1) ≤ 7302198) (hI : zLw st D ad cy am cm ao co μ o σ s H locs) (hl : lv_has ls 8 [(4, .int x4), (3, .ref ao), (2, .ref (am 0)), (1, .ref (ad 0)), (0, .ref b)]) (hf : fLaw_1891 xs L kn μ o σ x4 = some 1) : W p l e room_1 s m #[Value.ref b] below meth c H locs cells slots (lw_Z below #[Value.ref b] s) (F0 m 1891 ls []) := by
  have hx := hC.1
  have hb := hC.2.1
  unfold fLaw_1891 at hf
  refine lv_aload_n hx hb dL_law_1891 rfl (lv_at hl 3 rfl) ?_
  refine lv_aload_n hx hb dL_law_1892 rfl (lv_at hl 4 rfl) ?_
  refine lv_iload hx hb dL_law_1893 (lv_at hl 0 rfl) ?_
  refine lv_iconst (v := 1) hx hb dL_law_1895 (by decide) ?_
  refine lv_iadd hx hb dL_law_1896 ?_
  obtain ⟨q, hf⟩ := zck_use hf
  refine va_sld hx hb hX hbl hbA hI.2.2.2.1 (zin_in q) dL_law_1897 ?_
  refine lv_aload_n hx hb dL_law_1898 rfl (lv_at hl 1 rfl) ?_
  obtain ⟨o261, σ261, v262, g261, hf⟩ := zbh_use hf
  refine z_fcallH (u := wM am cm μ) (w := fun x : zHs => zHo ao co x.1 ++ wC ad cy x.2) (x := (o, σ)) (As := [.ref (ad 0), .int (xs (x4 + 1).toNatClampNeg), .ref ao]) (rest := []) hC hI (zKH hI.1) (cL_look_met st l hst D ad cy ao co o σ (xs (x4 + 1).toNatClampNeg) _ g261) (zgS zw95_10 zw95_11 zw1_10 zw95_12) rfl ⟨rfl, rfl⟩ 3 hdL_look ⟨Nat.le_of_ble_eq_true rfl, Nat.le_of_ble_eq_true rfl⟩ rfl hl rfl (Nat.le_of_ble_eq_true rfl) dL_law_1899 ⟨by show cells + 1 ≤ 600002; omega, by show slots + 6 ≤ 7302198; omega⟩ (fun H locs hI => ?_)
  have hI : zLw st D ad cy am cm ao co μ o261 σ261 s H locs := hI
  refine lv_istore (lv' := [(5, .int v262), (4, .int x4), (3, .ref ao), (2, .ref (am 0)), (1, .ref (ad 0)), (0, .ref b)]) hx hb dL_law_1902 hl (by decide) rfl (fun ls hl => ?_)
  refine lv_aload_n hx hb dL_law_1904 rfl (lv_at hl 3 rfl) ?_
  refine lv_aload_n hx hb dL_law_1905 rfl (lv_at hl 5 rfl) ?_
  refine lv_iload hx hb dL_law_1906 (lv_at hl 1 rfl) ?_
  refine lv_iconst (v := 1) hx hb dL_law_1908 (by decide) ?_
  refine lv_iadd hx hb dL_law_1909 ?_
  obtain ⟨q, hf⟩ := zck_use hf
  refine va_sld hx hb hX hbl hbA hI.2.2.2.1 (zin_in q) dL_law_1910 ?_
  obtain ⟨μ263, v264, g263, hf⟩ := zbl_use hf
  refine z_fcallVl (u := zHo ao co o261 ++ wC ad cy σ261) (w := wM am cm) (As := [.int (xs (x4 + 1).toNatClampNeg)]) (rest := []) hC (zI.swap hI) (zKM hI.1) (cX12_look_met st l D am cm μ (xs (x4 + 1).toNatClampNeg) _ g263) (zgV zw96_9 zw96_10 zw96_11 zw1_5 zw96_12) rfl ⟨rfl, rfl⟩ 1 hdX12_look ⟨Nat.le_of_ble_eq_true rfl, Nat.le_of_ble_eq_true rfl⟩ rfl rfl (wM_e0 am cm μ) rfl hl rfl (Nat.le_of_ble_eq_true rfl) dL_law_1911 ⟨by show cells + 1 ≤ 600002; omega, by show slots + 6 ≤ 7302198; omega⟩ (fun H locs hI => ?_)
  have hI : zLw st D ad cy am cm ao co μ263 o261 σ261 s H locs := zI.swap hI
  refine lv_lstore (lv' := [(6, .long v264), (5, .int v262), (4, .int x4), (3, .ref ao), (2, .ref (am 0)), (1, .ref (ad 0)), (0, .ref b)]) hx hb dL_law_1914 hl (by decide) rfl (fun ls hl => ?_)
  refine lv_aload_n hx hb dL_law_1916 rfl (lv_at hl 4 rfl) ?_
  obtain ⟨μ265, v266, g265, hf⟩ := zbi_use hf
  refine z_fcallVi (u := zHo ao co o261 ++ wC ad cy σ261) (w := wM am cm) (As := []) (rest := []) hC (zI.swap hI) (zKM hI.1) (cX12_thrown_met st l D am cm μ263  _ g265) (zgV zw12_2 zw12_3 zw12_4 zw1_5 zw12_5) rfl ⟨rfl, rfl⟩ 0 hdX12_thrown ⟨Nat.le_of_ble_eq_true rfl, Nat.le_of_ble_eq_true rfl⟩ rfl rfl (wM_e0 am cm μ263) rfl hl rfl (Nat.le_of_ble_eq_true rfl) dL_law_1917 ⟨by show cells + 1 ≤ 600002; omega, by show slots + 6 ≤ 7302198; omega⟩ (fun H locs hI => ?_)
  have hI : zLw st D ad cy am cm ao co μ265 o261 σ261 s H locs := zI.swap hI
  refine lv_iload hx hb dL_law_1920 (lv_at hl 1 rfl) ?_
  refine lv_icmp_eq (tgt := 1927) hx hb dL_law_1922 (by decide) (fun q => ?_) (fun q => ?_)
  · replace hf := zif_t q hf
    refine lv_iload hx hb dL_law_1927 (lv_at hl 1 rfl) ?_
    refine lv_if_ne (tgt := 1943) hx hb dL_law_1929 (by decide) (fun q => ?_) (fun q => ?_)
    · replace hf := zif_f q hf
      refine lv_goto (tgt := 1946) hx hb dL_law_1943 (by decide) ?_
      obtain ⟨v267, ev267⟩ : ∃ z : Int32, z = x4 + 8 := ⟨_, rfl⟩
      replace hf := zbv_use ev267 hf
      refine lv_iinc (v := v267) (lv' := [(4, .int v267), (6, .long v264), (5, .int v262), (3, .ref ao), (2, .ref (am 0)), (1, .ref (ad 0)), (0, .ref b)]) hx hb dL_law_1946 hl (k := 2) rfl (by rw [ev267]; rfl) (by decide) rfl (fun ls hl => ?_)
      refine lv_goto (tgt := 33) hx hb dL_law_1949 (by decide) ?_
      exact hk _ _ _ _ _ _ _ _ _ (by omega) (by omega) hI (lv_sub hl [0, 3, 4, 5, 6] rfl) hf
    replace hf := zif_t q hf
    refine lv_aload_n hx hb dL_law_1932 rfl (lv_at hl 3 rfl) ?_
    refine lv_iconst (v := 0) hx hb dL_law_1933 (by decide) ?_
    refine z_lald (i := 0) hC hI 27 63 (zLo_e am cm ao co μ265 o261 _) (zLo_t cy cm co) (by decide) dL_law_1934 ?_
    refine lv_lload hx hb dL_law_1935 (lv_at hl 0 rfl) ?_
    refine W.lcmp hx hb dL_law_1937 ?_
    refine lv_if_eq (tgt := 1943) hx hb dL_law_1938 (by decide) (fun q => ?_) (fun q => ?_)
    · replace hf := zif_t q hf
      refine lv_goto (tgt := 1946) hx hb dL_law_1943 (by decide) ?_
      obtain ⟨v268, ev268⟩ : ∃ z : Int32, z = x4 + 8 := ⟨_, rfl⟩
      replace hf := zbv_use ev268 hf
      refine lv_iinc (v := v268) (lv' := [(4, .int v268), (6, .long v264), (5, .int v262), (3, .ref ao), (2, .ref (am 0)), (1, .ref (ad 0)), (0, .ref b)]) hx hb dL_law_1946 hl (k := 2) rfl (by rw [ev268]; rfl) (by decide) rfl (fun ls hl => ?_)
      refine lv_goto (tgt := 33) hx hb dL_law_1949 (by decide) ?_
      exact hk _ _ _ _ _ _ _ _ _ (by omega) (by omega) hI (lv_sub hl [0, 3, 4, 5, 6] rfl) hf
    replace hf := zif_f q hf
    refine lv_iconst (v := 0) hx hb dL_law_1941 (by decide) ?_
    exact absurd (Option.some.inj hf) (by decide)
  replace hf := zif_f q hf
  refine lv_iconst (v := 0) hx hb dL_law_1925 (by decide) ?_
  exact absurd (Option.some.inj hf) (by decide)
def fLaw_1946 (xs : Nat → Int32) (L : Nat) (kn : zSt → (Nat → Int64) → zSt → Int32 → Option Int32) (μ : zSt) (o : Nat → Int64) (σ : zSt) (x4 : Int32) : Option Int32 :=
  zbv (x4 + 8) (fun v269 => kn μ o σ v269)
set_option maxRecDepth 20000 in
set_option maxHeartbeats 4000000 in
theorem bLaw_1946 {p : Program} {l : Launch} {e : Env} {s : State} {m : MethodId} {below : List Frame} {meth : Method} {c : Code} {st : Nat → Nat} {D : va_G} {b L : Nat} {xs : Nat → Int32} {ad am : Nat → Nat} {cy cm : Nat → ClassId} {ao : Nat} {co : ClassId} (hC : zC p m c cL_law 8 s #[Value.ref b] wzL_law RL meth ret) (hst : l.stackTraces = false) (hX : va_X b L xs s s.heap) (hbl : b < s.heap.size) (hbA : ¬ (fun q : Nat => s.heap.size ≤ q) b) {n : Nat} {kn : zSt → (Nat → Int64) → zSt → Int32 → Option Int32} (hk : ∀ (H : Heap) (locs : List Loc) (μ : zSt) (o : Nat → Int64) (σ : zSt) (ls : Array Slot) (x4 : Int32) (cells slots : Nat), cells + n ≤ 600002 → slots + 6 * n ≤ 7302198 → zLw st D ad cy am cm ao co μ o σ s H locs → lv_has ls 8 [(4, .int x4), (3, .ref ao), (2, .ref (am 0)), (1, .ref (ad 0)), (0, .ref b)] → kn μ o σ x4 = some 1 → W p l e room_1 s m #[Value.ref b] below meth c H locs cells slots (lw_Z below #[Value.ref b] s) (F0 m 33 ls [])) {H : Heap} {locs : List Loc} {μ : zSt} {o : Nat → Int64} {σ : zSt} {ls : Array Slot} {x4 : Int32} {cells slots : Nat} (hc : cells + (n + 1) ≤ 600002) (hs : slots + 6 * (n + 1) ≤ 7302198) (hI : zLw st D ad cy am cm ao co μ o σ s H locs) (hl : lv_has ls 8 [(4, .int x4), (3, .ref ao), (2, .ref (am 0)), (1, .ref (ad 0)), (0, .ref b)]) (hf : fLaw_1946 xs L kn μ o σ x4 = some 1) : W p l e room_1 s m #[Value.ref b] below meth c H locs cells slots (lw_Z below #[Value.ref b] s) (F0 m 1946 ls []) := by
  have hx := hC.1
  have hb := hC.2.1
  unfold fLaw_1946 at hf
  obtain ⟨v269, ev269⟩ : ∃ z : Int32, z = x4 + 8 := ⟨_, rfl⟩
  replace hf := zbv_use ev269 hf
  refine lv_iinc (v := v269) (lv' := [(4, .int v269), (3, .ref ao), (2, .ref (am 0)), (1, .ref (ad 0)), (0, .ref b)]) hx hb dL_law_1946 hl (k := 0) rfl (by rw [ev269]; rfl) (by decide) rfl (fun ls hl => ?_)
  refine lv_goto (tgt := 33) hx hb dL_law_1949 (by decide) ?_
  exact hk _ _ _ _ _ _ _ _ _ (by omega) (by omega) hI (lv_sub hl [0, 1, 2, 3, 4] rfl) hf
