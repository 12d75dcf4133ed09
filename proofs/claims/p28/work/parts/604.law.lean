/-! The law's helpers: a world ahead of the class's; what they catch -/
section ZH
variable {p : Program} {l : Launch} {e : Env} {R : Room} {s : State} {m : MethodId} {args : Array Value} {below : List Frame} {meth : Method} {c : Code} {H H1 : Heap} {locs locs1 : List Loc} {cells slots : Nat} {Q : State → Prop}
variable {st : Nat → Nat} {D : va_G} {tys tys0 : List (ClassId × FieldType)} {A : Nat → Prop} {cc : ByteArray} {nL : Nat} {Ts : List Cond} {own : String} {pc : Nat} {ls : Array Slot} {rest st0 : List Value} {ret : Option FieldType} {u v v1 w0 : va_W}
theorem z_swapP (hP : va_P D vwCl (u ++ v) H) : va_P D vwCl (v ++ u) H := fun k q hk => by
  by_cases h : k < v.length
  · rw [List.getElem?_append_left h] at hk
    exact hP (u.length + k) q (by rw [List.getElem?_append_right (by omega)]; simpa using hk)
  · rw [List.getElem?_append_right (by omega)] at hk
    exact hP (k - v.length) q (by rw [List.getElem?_append_left (List.getElem?_eq_some_iff.mp hk).1]; exact hk)
theorem z_swapD (hD : va_D A (u ++ v)) : va_D A (v ++ u) := by
  have at' : ∀ (k : Nat) (q : Nat × va_E), (v ++ u)[k]? = some q → (u ++ v)[if k < v.length then u.length + k else k - v.length]? = some q := by
    intro k q hk
    by_cases h : k < v.length
    · rw [if_pos h]
      rw [List.getElem?_append_left h] at hk
      rw [List.getElem?_append_right (by omega)]
      simpa using hk
    · rw [if_neg h]
      rw [List.getElem?_append_right (by omega)] at hk
      rw [List.getElem?_append_left (List.getElem?_eq_some_iff.mp hk).1]
      exact hk
  refine ⟨fun i j p q hi hj h => ?_, fun k q hk => hD.2 _ q (at' k q hk)⟩
  have e := hD.1 _ _ p q (at' i p hi) (at' j q hj) h
  have li := (List.getElem?_eq_some_iff.mp hi).1
  have lj := (List.getElem?_eq_some_iff.mp hj).1
  rw [List.length_append] at li lj
  split at e <;> split at e <;> omega
theorem z_subR (hP : va_P D vwCl (u ++ v) H) : va_P D vwCl v H := fun k q hk => hP (u.length + k) q (by rw [List.getElem?_append_right (by omega)]; simpa using hk)
theorem z_subRD (hD : va_D A (u ++ v)) : va_D A v := by
  have at' : ∀ (k : Nat) (q : Nat × va_E), v[k]? = some q → (u ++ v)[u.length + k]? = some q := fun k q hk => by rw [List.getElem?_append_right (by omega)]; simpa using hk
  refine ⟨fun i j p q hi hj h => ?_, fun k q hk => hD.2 _ q (at' k q hk)⟩
  have e := hD.1 _ _ p q (at' i p hi) (at' j q hj) h
  omega
theorem zI.swap (hI : zI st D tys (u ++ v) A s H locs) : zI st D tys (v ++ u) A s H locs := ⟨hI.1, z_swapP hI.2.1, z_swapD hI.2.2.1, hI.2.2.2⟩
theorem z_range_mapR (u v : va_W) : (List.range u.length).map (fun i => (u ++ v)[i]?) = u.map some := by
  apply List.ext_getElem?
  intro i
  by_cases h : i < u.length
  · simp only [List.getElem?_map, List.getElem?_range h, Option.map_some, List.getElem?_append_left h]
    rw [List.getElem?_eq_getElem h]
    rfl
  · simp [List.getElem?_map, List.getElem?_eq_none (Nat.le_of_not_lt h), List.getElem?_eq_none (show (List.range u.length).length ≤ i by simpa using Nat.le_of_not_lt h)]
theorem z_range_mapS (u v : va_W) : ((List.range v.length).map (fun i => u.length + i)).map (fun i => (u ++ v)[i]?) = v.map some := by
  apply List.ext_getElem?
  intro i
  by_cases h : i < v.length
  · simp only [List.map_map, List.getElem?_map, List.getElem?_range h, Option.map_some, Function.comp]
    rw [List.getElem?_append_right (by omega), show u.length + i - u.length = i by omega, List.getElem?_eq_getElem h]
    rfl
  · simp [List.getElem?_map, List.getElem?_eq_none (Nat.le_of_not_lt h), List.getElem?_eq_none (show (List.range v.length).length ≤ i by simpa using Nat.le_of_not_lt h)]
theorem z_seg (hP : va_P D vwCl (u ++ v) H) (hD : va_D A (u ++ v)) (hk : ∀ q : Nat, q < H.size → ¬ va_A v H.size q → H1[q]? = H[q]?) (hF : ∀ q, va_A v H.size q → A q) (hP1 : va_P D vwCl v1 H1) (hD1 : va_D (va_A v H.size) v1) : va_P D vwCl (u ++ v1) H1 ∧ va_D A (u ++ v1) :=
  va_join hP hD ((List.range v.length).map (fun i => u.length + i)) (List.range u.length) (z_range_mapS u v) (z_range_mapR u v) (va_nd_nodup _ List.nodup_range) (fun i hi h => by
    obtain ⟨j, -, rfl⟩ := List.mem_map.mp h
    have := List.mem_range.mp hi
    omega) hk hF hP1 hD1
theorem z_freeR (hI : zI st D tys (u ++ v) A s H locs) : ∀ q, va_A v H.size q → A q := by
  intro q h
  rcases h with ⟨k2, e2, h⟩ | h
  · exact (z_subRD hI.2.2.1).2 k2 (q, e2) h
  · exact hI.2.2.2.2.1 _ (Nat.le_trans hI.2.2.2.1.1 h)
theorem zP.atR {av : List Value} (hI : zI st D tys0 (u ++ v) A s H locs) (hK : va_K D vwCl tys s) : ∀ U : State, U.heap = H → s.WarmedH U.vm → va_Pc av (zP st D tys v H.size) av.toArray U := fun U hU hW =>
  ⟨rfl, by rw [hU], by rw [hU]; exact z_subR hI.2.1, va_K.moved hW.alike hK, (z_subRD hI.2.2.1).weaken (fun _ _ _ _ => trivial), by rw [hU]; exact zT.warm hW ((hI.2.2.2.2.2.kept hI.2.2.2.1.2.1).narrow (z_freeR hI))⟩
theorem z_backR {w : zSt → va_W} {σ σ1 : zSt} {t : State} (hI : zI st D tys0 (u ++ w σ) A s H locs) (ht : t.heap = H1) (hB : zB D tys w (va_A (w σ) H.size) σ1 t) (hk : ∀ q : Nat, q < H.size → ¬ va_A (w σ) H.size q → H1[q]? = H[q]?) (hS : va_S A s.heap H1 locs1) : zI st D tys0 (u ++ w σ1) A s H1 locs1 := by
  obtain ⟨hP1, hK1, hD1⟩ := hB
  rw [ht] at hP1
  obtain ⟨hP, hD⟩ := z_seg hI.2.1 hI.2.2.1 hk (z_freeR hI) hP1 hD1
  exact ⟨hI.1, hP, hD, hS, hI.2.2.2.2⟩
variable {y : MethodName} {ws ws' : List Cond} {rm : Room} {bytes : ByteArray} {maxL index : Nat} {rt : Option FieldType} {As : List Value} {lv : List (Nat × Value)} {C : String} {b : Nat}
/-- a method of the class that returns an int or throws, called beside other cells -/
theorem z_hcalli (hC : zC p m c cc nL s args Ts own meth ret) {w : zSt → va_W} {σ : zSt} (hI : zI st D tys0 (u ++ w σ) A s H locs) (hK : va_K D vwCl tys s) {res : zRi} (hM : ∀ sz, zXi st l y ws rm (.ref b :: As) D tys w sz σ res) (hT : GoodIn Ts (wsV own index C y ws)) (hw : ws = Cond.code y bytes maxL rt :: ws') (hrm : rm.cells = 1 ∧ rm.slots = 6) (n : Nat)
    (hd : y.cls = C ∧ y.cls ≠ "java/lang/invoke/MethodHandle" ∧ y.cls ≠ "java/lang/invoke/VarHandle" ∧ (parseMethodDescriptor y.desc).map (fun d => d.parameters.length) = some n) (hR : rm.frames + 1 ≤ R.frames ∧ 8 + (maxL + 11) + rm.locals ≤ R.locals)
    {q0 ci : Nat} {q : vw_C} {fs : List Value} (hc : vwCl[ci]? = some q) (hq : q.1 = C) (he : (w σ)[q0]? = some (b, .inr (ci, fs))) (hn : As.length = n) (hl : lv_has ls nL lv) (hst : st0 = As.reverse ++ .ref b :: rest) (hW : (rest.map fun v => v.category).sum ≤ 8) (hdg : decode cc pc = .ok (.invokevirtual index, 3)) (hcl : cells + 1 ≤ R.cells ∧ slots + 6 ≤ R.slots)
    (kx : ∀ (k : Nat) (σ1 : zSt), res = Sum.inr (σ1, k) → ∀ (ce : Cell) (q9 : Addr) (H1 : Heap) (locs1 : List Loc), zI st D tys0 (u ++ w σ1) A s H1 locs1 → H1[q9]? = some ce → ce.vm = .none → s.vm.findClass (zEx k) = some ce.cls → vx_W p l e R s m args below meth c H1 locs1 (cells + 1) (slots + 6) Q (F0 m pc ls rest) q9)
    (kk : ∀ (r : Int32) (σ1 : zSt), res = Sum.inl (σ1, r) → ∀ (H1 : Heap) (locs1 : List Loc), zI st D tys0 (u ++ w σ1) A s H1 locs1 → W p l e R s m args below meth c H1 locs1 (cells + 1) (slots + 6) Q (F0 m (pc + 3) ls (.int r :: rest))) : W p l e R s m args below meth c H locs cells slots Q (F0 m pc ls st0) := by
  subst hq
  refine vx_calli (vx_runV (As := As) (rest := rest) ⟨hC.1, hC.2.1, hC.2.2.1, hC.2.2.2.1, hC.2.2.2.2.1⟩ (hM H.size) (cwV n hC.2.2.2.2.1 hT hw hrm.1 hrm.2 hd hR) ⟨zP.blind, va_recv hK (z_subR hI.2.1) hc he, zP.atR hI hK⟩ rfl hn hl.1 hst (lv_room hW) hdg hcl) hI.2.2.2.1 (fun q _ h => z_freeR hI q h) (z_freeR hI) (fun q _ h => z_freeR hI q h) (fun E ce q9 u9 t H1 locs1 ht hvm _ hB _ hk1 hS h1 h2 h3 => ?_) (fun r u9 t H1 locs1 ht hvm hw' hB _ hk1 hS => ?_)
  · obtain ⟨⟨k, hk, rfl⟩, hB⟩ := hB
    exact kx k u9 hk.symm ce q9 H1 locs1 (z_backR hI ht hB hk1 hS) h1 h2 h3
  · exact kk r u9 hw'.symm H1 locs1 (z_backR hI ht hB hk1 hS)
theorem z_hcalll (hC : zC p m c cc nL s args Ts own meth ret) {w : zSt → va_W} {σ : zSt} (hI : zI st D tys0 (u ++ w σ) A s H locs) (hK : va_K D vwCl tys s) {res : zRl} (hM : ∀ sz, zXl st l y ws rm (.ref b :: As) D tys w sz σ res) (hT : GoodIn Ts (wsV own index C y ws)) (hw : ws = Cond.code y bytes maxL rt :: ws') (hrm : rm.cells = 1 ∧ rm.slots = 6) (n : Nat)
    (hd : y.cls = C ∧ y.cls ≠ "java/lang/invoke/MethodHandle" ∧ y.cls ≠ "java/lang/invoke/VarHandle" ∧ (parseMethodDescriptor y.desc).map (fun d => d.parameters.length) = some n) (hR : rm.frames + 1 ≤ R.frames ∧ 8 + (maxL + 11) + rm.locals ≤ R.locals)
    {q0 ci : Nat} {q : vw_C} {fs : List Value} (hc : vwCl[ci]? = some q) (hq : q.1 = C) (he : (w σ)[q0]? = some (b, .inr (ci, fs))) (hn : As.length = n) (hl : lv_has ls nL lv) (hst : st0 = As.reverse ++ .ref b :: rest) (hW : (rest.map fun v => v.category).sum ≤ 8) (hdg : decode cc pc = .ok (.invokevirtual index, 3)) (hcl : cells + 1 ≤ R.cells ∧ slots + 6 ≤ R.slots)
    (kx : ∀ (k : Nat) (σ1 : zSt), res = Sum.inr (σ1, k) → ∀ (ce : Cell) (q9 : Addr) (H1 : Heap) (locs1 : List Loc), zI st D tys0 (u ++ w σ1) A s H1 locs1 → H1[q9]? = some ce → ce.vm = .none → s.vm.findClass (zEx k) = some ce.cls → vx_W p l e R s m args below meth c H1 locs1 (cells + 1) (slots + 6) Q (F0 m pc ls rest) q9)
    (kk : ∀ (r : Int64) (σ1 : zSt), res = Sum.inl (σ1, r) → ∀ (H1 : Heap) (locs1 : List Loc), zI st D tys0 (u ++ w σ1) A s H1 locs1 → W p l e R s m args below meth c H1 locs1 (cells + 1) (slots + 6) Q (F0 m (pc + 3) ls (.long r :: rest))) : W p l e R s m args below meth c H locs cells slots Q (F0 m pc ls st0) := by
  subst hq
  refine vx_calll (vx_runV (As := As) (rest := rest) ⟨hC.1, hC.2.1, hC.2.2.1, hC.2.2.2.1, hC.2.2.2.2.1⟩ (hM H.size) (cwV n hC.2.2.2.2.1 hT hw hrm.1 hrm.2 hd hR) ⟨zP.blind, va_recv hK (z_subR hI.2.1) hc he, zP.atR hI hK⟩ rfl hn hl.1 hst (lv_room hW) hdg hcl) hI.2.2.2.1 (fun q _ h => z_freeR hI q h) (z_freeR hI) (fun q _ h => z_freeR hI q h) (fun E ce q9 u9 t H1 locs1 ht hvm _ hB _ hk1 hS h1 h2 h3 => ?_) (fun r u9 t H1 locs1 ht hvm hw' hB _ hk1 hS => ?_)
  · obtain ⟨⟨k, hk, rfl⟩, hB⟩ := hB
    exact kx k u9 hk.symm ce q9 H1 locs1 (z_backR hI ht hB hk1 hS) h1 h2 h3
  · exact kk r u9 hw'.symm H1 locs1 (z_backR hI ht hB hk1 hS)
theorem z_hcallu (hC : zC p m c cc nL s args Ts own meth ret) {w : zSt → va_W} {σ : zSt} (hI : zI st D tys0 (u ++ w σ) A s H locs) (hK : va_K D vwCl tys s) {res : zRu} (hM : ∀ sz, zXu st l y ws rm (.ref b :: As) D tys w sz σ res) (hT : GoodIn Ts (wsV own index C y ws)) (hw : ws = Cond.code y bytes maxL rt :: ws') (hrm : rm.cells = 1 ∧ rm.slots = 6) (n : Nat)
    (hd : y.cls = C ∧ y.cls ≠ "java/lang/invoke/MethodHandle" ∧ y.cls ≠ "java/lang/invoke/VarHandle" ∧ (parseMethodDescriptor y.desc).map (fun d => d.parameters.length) = some n) (hR : rm.frames + 1 ≤ R.frames ∧ 8 + (maxL + 11) + rm.locals ≤ R.locals)
    {q0 ci : Nat} {q : vw_C} {fs : List Value} (hc : vwCl[ci]? = some q) (hq : q.1 = C) (he : (w σ)[q0]? = some (b, .inr (ci, fs))) (hn : As.length = n) (hl : lv_has ls nL lv) (hst : st0 = As.reverse ++ .ref b :: rest) (hW : (rest.map fun v => v.category).sum ≤ 8) (hdg : decode cc pc = .ok (.invokevirtual index, 3)) (hcl : cells + 1 ≤ R.cells ∧ slots + 6 ≤ R.slots)
    (kx : ∀ (k : Nat) (σ1 : zSt), res = Sum.inr (σ1, k) → ∀ (ce : Cell) (q9 : Addr) (H1 : Heap) (locs1 : List Loc), zI st D tys0 (u ++ w σ1) A s H1 locs1 → H1[q9]? = some ce → ce.vm = .none → s.vm.findClass (zEx k) = some ce.cls → vx_W p l e R s m args below meth c H1 locs1 (cells + 1) (slots + 6) Q (F0 m pc ls rest) q9)
    (kk : ∀ σ1 : zSt, res = Sum.inl σ1 → ∀ (H1 : Heap) (locs1 : List Loc), zI st D tys0 (u ++ w σ1) A s H1 locs1 → W p l e R s m args below meth c H1 locs1 (cells + 1) (slots + 6) Q (F0 m (pc + 3) ls rest)) : W p l e R s m args below meth c H locs cells slots Q (F0 m pc ls st0) := by
  subst hq
  refine vx_callv (vx_runV (As := As) (rest := rest) ⟨hC.1, hC.2.1, hC.2.2.1, hC.2.2.2.1, hC.2.2.2.2.1⟩ (hM H.size) (cwV n hC.2.2.2.2.1 hT hw hrm.1 hrm.2 hd hR) ⟨zP.blind, va_recv hK (z_subR hI.2.1) hc he, zP.atR hI hK⟩ rfl hn hl.1 hst (lv_room hW) hdg hcl) hI.2.2.2.1 (fun q _ h => z_freeR hI q h) (z_freeR hI) (fun q _ h => z_freeR hI q h) (fun E ce q9 u9 t H1 locs1 ht hvm _ hB _ hk1 hS h1 h2 h3 => ?_) (fun u9 t H1 locs1 ht hvm hw' hB _ hk1 hS => ?_)
  · obtain ⟨⟨k, hk, rfl⟩, hB⟩ := hB
    exact kx k u9 hk.symm ce q9 H1 locs1 (z_backR hI ht hB hk1 hS) h1 h2 h3
  · exact kk u9 hw'.symm H1 locs1 (z_backR hI ht hB hk1 hS)
/-- the first row of the table takes it -/
theorem z_catch1 (hC : zC p m c cc nL s args Ts own meth ret) (hI : zI st D tys w0 A s H locs) {hh : List (Nat × Nat × Nat × Nat)} (hE : c.exceptionTable.toList = tableOf hh) (k : Nat) {x : ExceptionTableEntry} {suf : List ExceptionTableEntry} (hs : tableOf hh = x :: suf) (hx : covers x pc = true) (h0 : x.catchType ≠ 0) (hlink : Cond.classLink own x.catchType (zEx k) ∈ Ts)
    {ce : Cell} {q : Addr} (hcell : H[q]? = some ce) (hv : ce.vm = .none) (hcl : s.vm.findClass (zEx k) = some ce.cls) {hp : Nat} (hpc : x.handlerPc = hp) (kk : W p l e R s m args below meth c H locs cells slots Q (F0 m hp ls [.ref q])) : vx_W p l e R s m args below meth c H locs cells slots Q (F0 m pc ls rest) q := by
  subst hpc
  exact vx_catch hC.2.2.2.1 [] x suf (hE.trans hs) (fun z h => nomatch h) hx h0 (hC.2.2.2.2.1 _ hlink) (va_Nw.use rfl (hI.2.2.2.2.2.2.2.2.2.2.2.2.1 k)) hcell hv hcl kk
/-- the second one, IllegalStateException behind IllegalArgumentException -/
theorem z_catch2 (hC : zC p m c cc nL s args Ts own meth ret) (hI : zI st D tys w0 A s H locs) {hh : List (Nat × Nat × Nat × Nat)} (hE : c.exceptionTable.toList = tableOf hh) {x1 x : ExceptionTableEntry} {suf : List ExceptionTableEntry} (hs : tableOf hh = x1 :: x :: suf) (h1 : x1.catchType ≠ 0) (hlink1 : Cond.classLink own x1.catchType (zEx 1) ∈ Ts) (hx : covers x pc = true) (h0 : x.catchType ≠ 0) (hlink : Cond.classLink own x.catchType (zEx 2) ∈ Ts)
    {ce : Cell} {q : Addr} (hcell : H[q]? = some ce) (hv : ce.vm = .none) (hcl : s.vm.findClass (zEx 2) = some ce.cls) {hp : Nat} (hpc : x.handlerPc = hp) (kk : W p l e R s m args below meth c H locs cells slots Q (F0 m hp ls [.ref q])) : vx_W p l e R s m args below meth c H locs cells slots Q (F0 m pc ls rest) q := by
  subst hpc
  exact vx_catch hC.2.2.2.1 [x1] x suf (hE.trans hs) (fun z h => by
      cases List.mem_singleton.mp h
      exact Or.inr ⟨h1, _, hC.2.2.2.2.1 _ hlink1, hI.2.2.2.2.2.2.2.2.2.2.2.2.2.1⟩) hx h0 (hC.2.2.2.2.1 _ hlink) (va_Nw.use rfl (hI.2.2.2.2.2.2.2.2.2.2.2.2.1 2)) hcell hv hcl kk
/-- a helper's contract: the cells of u (the law's out) and the class's world -/
noncomputable def zH {S : Type} (st : Nat → Nat) (l : Launch) (y : MethodName) (ws : List Cond) (rm : Room) (av : List Value) (D : va_G) (tys : List (ClassId × FieldType)) (w : S → va_W) (sz : Nat) (x : S) (res : S × Int32) : Prop :=
  vx_Met l y ws rm (va_Pc av (zP st D tys (w x) sz)) (va_Qi (fun (r : Int32) (u : S) => (u, r) = res) (fun u t => va_P D vwCl (w u) t.heap ∧ va_K D vwCl tys t ∧ va_D (va_A (w x) sz) (w u)) (va_A (w x) sz)) (vx_X (fun _ : Unit => False) (fun _ _ _ => True) (va_A (w x) sz)) 1 6 (va_A (w x) sz)
noncomputable def zHQ {S : Type} (below : List Frame) (args : Array Value) (s : State) (D : va_G) (tys : List (ClassId × FieldType)) (w : S → va_W) (A : Nat → Prop) (res : S × Int32) : State → Prop :=
  vx_MQ below (va_Qi (fun (r : Int32) (u : S) => (u, r) = res) (fun u t => va_P D vwCl (w u) t.heap ∧ va_K D vwCl tys t ∧ va_D A (w u)) A) (vx_X (fun _ : Unit => False) (fun _ _ _ => True) A) args s 1 6 A
theorem zH.of {S : Type} {av : List Value} {w : S → va_W} {sz : Nat} {x : S} {res : S × Int32} {hh : List (Nat × Nat × Nat × Nat)} (hy : plainName y.cls = true) (hw : ws = Cond.codeWith y cc maxL ret hh :: ws') (hle : (lg_sl av).length ≤ maxL)
    (k : ∀ (p : Program) (e : Env) (s : State) (m : MethodId) (args : Array Value) (below : List Frame) (meth : Method) (c : Code), zC p m c cc maxL s args ws y.cls meth ret → c.exceptionTable.toList = tableOf hh → ∀ A : Nat → Prop, zI st D tys (w x) A s s.heap [] → ∀ ls : Array Slot, lv_has ls maxL (lv_args 0 av) → W p l e (headSpec ws rm).room s m args below meth c s.heap [] 0 0 (zHQ below args s D tys w A res) (F0 m 0 ls [])) : zH st l y ws rm av D tys w sz x res := by
  refine vx_ofWH (cc := cc) (maxL := maxL) (ret := ret) (hh := hh) hy hw ?_
  intro p e s m args below meth c s₁ B hml hv
  obtain ⟨rfl, hv⟩ := hv
  have hl := lv_entry av (n := maxL) hle
  rw [lg_entry_eq]
  have hT := vx_table (x := y) B (atoms_spec (ws := ws) B.pre _ (by rw [hw]; exact List.mem_cons_self))
  exact k p e s m av.toArray below meth c ⟨B.exec, B.bytes, hml, findClass_of_methodNamed B.named, atoms_spec (ws := ws) B.pre, B.returns, B.notSynchronized⟩ hT _ (zI.start (w := fun _ => w x) (σ := zS0) hv) _ hl
theorem z_hret (hC : zC p m c cc nL s args Ts own meth (some .int)) {S : Type} {w : S → va_W} {x : S} (hI : zI st D tys (w x) A s H locs) {v : Int32} {res : S × Int32} (hf : (x, v) = res) (hc : cells ≤ 1) (hs : slots ≤ 6) (hdg : decode cc pc = .ok (.ireturn, 1)) : W p l e R s m args below meth c H locs cells slots (zHQ below args s D tys w A res) (F0 m pc ls [.int v]) := by
  obtain ⟨hx, hb, hml, hown, hts, hr, hlk⟩ := hC
  obtain ⟨hK, hP, hD, hS, hA, hT⟩ := hI
  refine W.widen (k := 1) (n := 6) hc hs (vx_ret ?_)
  exact W.iret (v := v) hx hb hr (fun t ht hW => ⟨⟨v, x, rfl, hf, by rw [ht]; exact hP, va_K.moved hW.alike hK, hD⟩, hS.F ht⟩) hS.2.2 hdg hlk
/-- the law's out -/
noncomputable def zHo (ao : Nat) (co : ClassId) (o : Nat → Int64) : va_W := [(ao, .inl (co, 1, .inr (.inl o)))]
noncomputable abbrev zHs : Type := (Nat → Int64) × zSt
noncomputable def zbr {α β : Type} (q : Option α) (f : α → Option β) : Option β := match q with | none => none | some r => f r
theorem zbr_use {α β : Type} {q : Option α} {f : α → Option β} {r : β} (h : zbr q f = some r) : ∃ v, q = some v ∧ f v = some r := by
  cases q with
  | none => cases h
  | some v => exact ⟨v, rfl, h⟩
/-- what a helper makes of a throw: two rows, one row -/
noncomputable def zh2 {S : Type} (x : S) (k : Nat) : Option (S × Int32) := if k = 1 then some (x, 1) else if k = 2 then some (x, 2) else none
noncomputable def zh1 {S : Type} (n : Nat) (x : S) (k : Nat) : Option (S × Int32) := if k = n then some (x, 1) else none
noncomputable def zhi (o : Nat → Int64) (t : zHs → Nat → Option (zHs × Int32)) (r : zRi) : Option (zHs × Int32) := match r with | .inl q => some ((vp_updL o 0 q.2.toInt64, q.1), 0) | .inr q => t (o, q.1) q.2
noncomputable def zhl (o : Nat → Int64) (t : zHs → Nat → Option (zHs × Int32)) (r : zRl) : Option (zHs × Int32) := match r with | .inl q => some ((vp_updL o 0 q.2, q.1), 0) | .inr q => t (o, q.1) q.2
noncomputable def zhu (t : zSt → Nat → Option (zSt × Int32)) (r : zRu) : Option (zSt × Int32) := match r with | .inl q => some (q, 0) | .inr q => t q.1 q.2
theorem zh2_1 {S : Type} {x : S} {k : Nat} {r : S × Int32} (h : zh2 x k = some r) (c : k = 1) : (x, 1) = r := by subst c; exact Option.some.inj h
theorem zh2_2 {S : Type} {x : S} {k : Nat} {r : S × Int32} (h : zh2 x k = some r) (c : ¬ k = 1) : k = 2 ∧ (x, 2) = r := by
  unfold zh2 at h
  rw [if_neg c] at h
  by_cases c2 : k = 2
  · rw [if_pos c2] at h; exact ⟨c2, Option.some.inj h⟩
  · rw [if_neg c2] at h; cases h
theorem zh1_1 {S : Type} {n : Nat} {x : S} {k : Nat} {r : S × Int32} (h : zh1 n x k = some r) : k = n ∧ (x, 1) = r := by
  unfold zh1 at h
  by_cases c : k = n
  · rw [if_pos c] at h; exact ⟨c, Option.some.inj h⟩
  · rw [if_neg c] at h; cases h
end ZH
