section ZJN0
/-! The law's helpers: a world ahead of the class's; what they catch -/
section ZH
variable {p : Program} {l : Launch} {e : Env} {R : Room} {s : State} {m : MethodId} {args : Array Value} {below : List Frame} {meth : Method} {c : Code} {H H1 : Heap} {locs locs1 : List Loc} {cells slots : Nat} {Q : State → Prop}
variable {st : Nat → Nat} {D : va_G} {tys tys0 : List (ClassId × FieldType)} {A : Nat → Prop} {cc : ByteArray} {nL : Nat} {Ts : List Cond} {own : String} {pc : Nat} {ls : Array Slot} {rest st0 : List Value} {ret : Option FieldType} {u v v1 w0 : va_W}
theorem z_swapP (hP : va_P D vwCl (u ++ v) H) : va_P D vwCl (v ++ u) H := fun k q hk => by
  by_cases h : k < v.length
  · rw [List.getElem?_append_left h] at hk
    exact hP (u.length + k) q (by rw [List.getElem?_append_right (by omega)]; simpa using hk)
  · rw [List.getElem?_append_right (by omega)] at hk
    exact hP (k - v.length) q (by rw [List.getElem?_append_left (List.getElem?_eq_some_iff.mp hk).1]; exact hk)
theorem z_swapD (hD : va_D A (u ++ v)) : va_D A (v ++ u) := by
  have at' : ∀ (k : Nat) (q : Nat × va_E), (v ++ u)[k]? = some q → (u ++ v)[if k < v.length then u.length + k else k - v.length]? = some q := by
    intro k q hk
    by_cases h : k < v.length
    · rw [if_pos h]
      rw [List.getElem?_append_left h] at hk
      rw [List.getElem?_append_right (by omega)]
      simpa using hk
    · rw [if_neg h]
      rw [List.getElem?_append_right (by omega)] at hk
      rw [List.getElem?_append_left (List.getElem?_eq_some_iff.mp hk).1]
      exact hk
  refine ⟨fun i j p q hi hj h => ?_, fun k q hk => hD.2 _ q (at' k q hk)⟩
  have e := hD.1 _ _ p q (at' i p hi) (at' j q hj) h
  have li := (List.getElem?_eq_some_iff.mp hi).1
  have lj := (List.getElem?_eq_some_iff.mp hj).1
  rw [List.length_append] at li lj
  split at e <;> split at e <;> omega
theorem z_subR (hP : va_P D vwCl (u ++ v) H) : va_P D vwCl v H := fun k q hk => hP (u.length + k) q (by rw [List.getElem?_append_right (by omega)]; simpa using hk)
theorem z_subRD (hD : va_D A (u ++ v)) : va_D A v := by
  have at' : ∀ (k : Nat) (q : Nat × va_E), v[k]? = some q → (u ++ v)[u.length + k]? = some q := fun k q hk => by rw [List.getElem?_append_right (by omega)]; simpa using hk
  refine ⟨fun i j p q hi hj h => ?_, fun k q hk => hD.2 _ q (at' k q hk)⟩
  have e := hD.1 _ _ p q (at' i p hi) (at' j q hj) h
  omega
theorem zI.swap (hI : zI st D tys (u ++ v) A s H locs) : zI st D tys (v ++ u) A s H locs := ⟨hI.1, z_swapP hI.2.1, z_swapD hI.2.2.1, hI.2.2.2⟩
theorem z_range_mapR (u v : va_W) : (List.range u.length).map (fun i => (u ++ v)[i]?) = u.map some := by
  apply List.ext_getElem?
  intro i
  by_cases h : i < u.length
  · simp only [List.getElem?_map, List.getElem?_range h, Option.map_some, List.getElem?_append_left h]
    rw [List.getElem?_eq_getElem h]
    rfl
  · simp [List.getElem?_map, List.getElem?_eq_none (Nat.le_of_not_lt h), List.getElem?_eq_none (show (List.range u.length).length ≤ i by simpa using Nat.le_of_not_lt h)]
theorem z_range_mapS (u v : va_W) : ((List.range v.length).map (fun i => u.length + i)).map (fun i => (u ++ v)[i]?) = v.map some := by
  apply List.ext_getElem?
  intro i
  by_cases h : i < v.length
  · simp only [List.map_map, List.getElem?_map, List.getElem?_range h, Option.map_some, Function.comp]
    rw [List.getElem?_append_right (by omega), show u.length + i - u.length = i by omega, List.getElem?_eq_getElem h]
    rfl
  · simp [List.getElem?_map, List.getElem?_eq_none (Nat.le_of_not_lt h), List.getElem?_eq_none (show (List.range v.length).length ≤ i by simpa using Nat.le_of_not_lt h)]
theorem z_seg (hP : va_P D vwCl (u ++ v) H) (hD : va_D A (u ++ v)) (hk : ∀ q : Nat, q < H.size → ¬ va_A v H.size q → H1[q]? = H[q]?) (hF : ∀ q, va_A v H.size q → A q) (hP1 : va_P D vwCl v1 H1) (hD1 : va_D (va_A v H.size) v1) : va_P D vwCl (u ++ v1) H1 ∧ va_D A (u ++ v1) :=
  va_join hP hD ((List.range v.length).map (fun i => u.length + i)) (List.range u.length) (z_range_mapS u v) (z_range_mapR u v) (va_nd_nodup _ List.nodup_range) (fun i hi h => by
    obtain ⟨j, -, rfl⟩ := List.mem_map.mp h
    have := List.mem_range.mp hi
    omega) hk hF hP1 hD1
theorem z_freeR (hI : zI st D tys (u ++ v) A s H locs) : ∀ q, va_A v H.size q → A q := by
  intro q h
  rcases h with ⟨k2, e2, h⟩ | h
  · exact (z_subRD hI.2.2.1).2 k2 (q, e2) h
  · exact hI.2.2.2.2.1 _ (Nat.le_trans hI.2.2.2.1.1 h)
theorem zP.atR {av : List Value} (hI : zI st D tys0 (u ++ v) A s H locs) (hK : va_K D vwCl tys s) : ∀ U : State, U.heap = H → s.WarmedH U.vm → va_Pc av (zP st D tys v H.size) av.toArray U := fun U hU hW =>
  ⟨rfl, by rw [hU], by rw [hU]; exact z_subR hI.2.1, va_K.moved hW.alike hK, (z_subRD hI.2.2.1).weaken (fun _ _ _ _ => trivial), by rw [hU]; exact zT.warm hW ((hI.2.2.2.2.2.kept hI.2.2.2.1.2.1).narrow (z_freeR hI))⟩
theorem z_backR {w : zSt → va_W} {σ σ1 : zSt} {t : State} (hI : zI st D tys0 (u ++ w σ) A s H locs) (ht : t.heap = H1) (hB : zB D tys w (va_A (w σ) H.size) σ1 t) (hk : ∀ q : Nat, q < H.size → ¬ va_A (w σ) H.size q → H1[q]? = H[q]?) (hS : va_S A s.heap H1 locs1) : zI st D tys0 (u ++ w σ1) A s H1 locs1 := by
  obtain ⟨hP1, hK1, hD1⟩ := hB
  rw [ht] at hP1
  obtain ⟨hP, hD⟩ := z_seg hI.2.1 hI.2.2.1 hk (z_freeR hI) hP1 hD1
  exact ⟨hI.1, hP, hD, hS, hI.2.2.2.2⟩
variable {y : MethodName} {ws ws' : List Cond} {rm : Room} {bytes : ByteArray} {maxL index : Nat} {rt : Option FieldType} {As : List Value} {lv : List (Nat × Value)} {C : String} {b : Nat}
/-- a method of the class that returns an int or throws, called beside other cells -/
theorem z_hcalli (hC : zC p m c cc nL s args Ts own meth ret) {w : zSt → va_W} {σ : zSt} (hI : zI st D tys0 (u ++ w σ) A s H locs) (hK : va_K D vwCl tys s) {res : zRi} (hM : ∀ sz, zXi st l y ws rm (.ref b :: As) D tys w sz σ res) (hT : GoodIn Ts (wsV own index C y ws)) (hw : ws = Cond.code y bytes maxL rt :: ws') (hrm : rm.cells = 1 ∧ rm.slots = 6) (n : Nat)
    (hd : y.cls = C ∧ y.cls ≠ "java/lang/invoke/MethodHandle" ∧ y.cls ≠ "java/lang/invoke/VarHandle" ∧ (parseMethodDescriptor y.desc).map (fun d => d.parameters.length) = some n) (hR : rm.frames + 1 ≤ R.frames ∧ 8 + (maxL + 11) + rm.locals ≤ R.locals)
    {q0 ci : Nat} {q : vw_C} {fs : List Value} (hc : vwCl[ci]? = some q) (hq : q.1 = C) (he : (w σ)[q0]? = some (b, .inr (ci, fs))) (hn : As.length = n) (hl : lv_has ls nL lv) (hst : st0 = As.reverse ++ .ref b :: rest) (hW : (rest.map fun v => v.category).sum ≤ 8) (hdg : decode cc pc = .ok (.invokevirtual index, 3)) (hcl : cells + 1 ≤ R.cells ∧ slots + 6 ≤ R.slots)
    (kx : ∀ (k : Nat) (σ1 : zSt), res = Sum.inr (σ1, k) → ∀ (ce : Cell) (q9 : Addr) (H1 : Heap) (locs1 : List Loc), zI st D tys0 (u ++ w σ1) A s H1 locs1 → H1[q9]? = some ce → ce.vm = .none → s.vm.findClass (zEx k) = some ce.cls → vx_W p l e R s m args below meth c H1 locs1 (cells + 1) (slots + 6) Q (F0 m pc ls rest) q9)
    (kk : ∀ (r : Int32) (σ1 : zSt), res = Sum.inl (σ1, r) → ∀ (H1 : Heap) (locs1 : List Loc), zI st D tys0 (u ++ w σ1) A s H1 locs1 → W p l e R s m args below meth c H1 locs1 (cells + 1) (slots + 6) Q (F0 m (pc + 3) ls (.int r :: rest))) : W p l e R s m args below meth c H locs cells slots Q (F0 m pc ls st0) := by
  subst hq
  refine vx_calli (vx_runV (As := As) (rest := rest) ⟨hC.1, hC.2.1, hC.2.2.1, hC.2.2.2.1, hC.2.2.2.2.1⟩ (hM H.size) (cwV n hC.2.2.2.2.1 hT hw hrm.1 hrm.2 hd hR) ⟨zP.blind, va_recv hK (z_subR hI.2.1) hc he, zP.atR hI hK⟩ rfl hn hl.1 hst (lv_room hW) hdg hcl) hI.2.2.2.1 (fun q _ h => z_freeR hI q h) (z_freeR hI) (fun q _ h => z_freeR hI q h) (fun E ce q9 u9 t H1 locs1 ht hvm _ hB _ hk1 hS h1 h2 h3 => ?_) (fun r u9 t H1 locs1 ht hvm hw' hB _ hk1 hS => ?_)
  · obtain ⟨⟨k, hk, rfl⟩, hB⟩ := hB
    exact kx k u9 hk.symm ce q9 H1 locs1 (z_backR hI ht hB hk1 hS) h1 h2 h3
  · exact kk r u9 hw'.symm H1 locs1 (z_backR hI ht hB hk1 hS)
theorem z_hcalll (hC : zC p m c cc nL s args Ts own meth ret) {w : zSt → va_W} {σ : zSt} (hI : zI st D tys0 (u ++ w σ) A s H locs) (hK : va_K D vwCl tys s) {res : zRl} (hM : ∀ sz, zXl st l y ws rm (.ref b :: As) D tys w sz σ res) (hT : GoodIn Ts (wsV own index C y ws)) (hw : ws = Cond.code y bytes maxL rt :: ws') (hrm : rm.cells = 1 ∧ rm.slots = 6) (n : Nat)
    (hd : y.cls = C ∧ y.cls ≠ "java/lang/invoke/MethodHandle" ∧ y.cls ≠ "java/lang/invoke/VarHandle" ∧ (parseMethodDescriptor y.desc).map (fun d => d.parameters.length) = some n) (hR : rm.frames + 1 ≤ R.frames ∧ 8 + (maxL + 11) + rm.locals ≤ R.locals)
    {q0 ci : Nat} {q : vw_C} {fs : List Value} (hc : vwCl[ci]? = some q) (hq : q.1 = C) (he : (w σ)[q0]? = some (b, .inr (ci, fs))) (hn : As.length = n) (hl : lv_has ls nL lv) (hst : st0 = As.reverse ++ .ref b :: rest) (hW : (rest.map fun v => v.category).sum ≤ 8) (hdg : decode cc pc = .ok (.invokevirtual index, 3)) (hcl : cells + 1 ≤ R.cells ∧ slots + 6 ≤ R.slots)
    (kx : ∀ (k : Nat) (σ1 : zSt), res = Sum.inr (σ1, k) → ∀ (ce : Cell) (q9 : Addr) (H1 : Heap) (locs1 : List Loc), zI st D tys0 (u ++ w σ1) A s H1 locs1 → H1[q9]? = some ce → ce.vm = .none → s.vm.findClass (zEx k) = some ce.cls → vx_W p l e R s m args below meth c H1 locs1 (cells + 1) (slots + 6) Q (F0 m pc ls rest) q9)
    (kk : ∀ (r : Int64) (σ1 : zSt), res = Sum.inl (σ1, r) → ∀ (H1 : Heap) (locs1 : List Loc), zI st D tys0 (u ++ w σ1) A s H1 locs1 → W p l e R s m args below meth c H1 locs1 (cells + 1) (slots + 6) Q (F0 m (pc + 3) ls (.long r :: rest))) : W p l e R s m args below meth c H locs cells slots Q (F0 m pc ls st0) := by
  subst hq
  refine vx_calll (vx_runV (As := As) (rest := rest) ⟨hC.1, hC.2.1, hC.2.2.1, hC.2.2.2.1, hC.2.2.2.2.1⟩ (hM H.size) (cwV n hC.2.2.2.2.1 hT hw hrm.1 hrm.2 hd hR) ⟨zP.blind, va_recv hK (z_subR hI.2.1) hc he, zP.atR hI hK⟩ rfl hn hl.1 hst (lv_room hW) hdg hcl) hI.2.2.2.1 (fun q _ h => z_freeR hI q h) (z_freeR hI) (fun q _ h => z_freeR hI q h) (fun E ce q9 u9 t H1 locs1 ht hvm _ hB _ hk1 hS h1 h2 h3 => ?_) (fun r u9 t H1 locs1 ht hvm hw' hB _ hk1 hS => ?_)
  · obtain ⟨⟨k, hk, rfl⟩, hB⟩ := hB
    exact kx k u9 hk.symm ce q9 H1 locs1 (z_backR hI ht hB hk1 hS) h1 h2 h3
  · exact kk r u9 hw'.symm H1 locs1 (z_backR hI ht hB hk1 hS)
theorem z_hcallu (hC : zC p m c cc nL s args Ts own meth ret) {w : zSt → va_W} {σ : zSt} (hI : zI st D tys0 (u ++ w σ) A s H locs) (hK : va_K D vwCl tys s) {res : zRu} (hM : ∀ sz, zXu st l y ws rm (.ref b :: As) D tys w sz σ res) (hT : GoodIn Ts (wsV own index C y ws)) (hw : ws = Cond.code y bytes maxL rt :: ws') (hrm : rm.cells = 1 ∧ rm.slots = 6) (n : Nat)
    (hd : y.cls = C ∧ y.cls ≠ "java/lang/invoke/MethodHandle" ∧ y.cls ≠ "java/lang/invoke/VarHandle" ∧ (parseMethodDescriptor y.desc).map (fun d => d.parameters.length) = some n) (hR : rm.frames + 1 ≤ R.frames ∧ 8 + (maxL + 11) + rm.locals ≤ R.locals)
    {q0 ci : Nat} {q : vw_C} {fs : List Value} (hc : vwCl[ci]? = some q) (hq : q.1 = C) (he : (w σ)[q0]? = some (b, .inr (ci, fs))) (hn : As.length = n) (hl : lv_has ls nL lv) (hst : st0 = As.reverse ++ .ref b :: rest) (hW : (rest.map fun v => v.category).sum ≤ 8) (hdg : decode cc pc = .ok (.invokevirtual index, 3)) (hcl : cells + 1 ≤ R.cells ∧ slots + 6 ≤ R.slots)
    (kx : ∀ (k : Nat) (σ1 : zSt), res = Sum.inr (σ1, k) → ∀ (ce : Cell) (q9 : Addr) (H1 : Heap) (locs1 : List Loc), zI st D tys0 (u ++ w σ1) A s H1 locs1 → H1[q9]? = some ce → ce.vm = .none → s.vm.findClass (zEx k) = some ce.cls → vx_W p l e R s m args below meth c H1 locs1 (cells + 1) (slots + 6) Q (F0 m pc ls rest) q9)
    (kk : ∀ σ1 : zSt, res = Sum.inl σ1 → ∀ (H1 : Heap) (locs1 : List Loc), zI st D tys0 (u ++ w σ1) A s H1 locs1 → W p l e R s m args below meth c H1 locs1 (cells + 1) (slots + 6) Q (F0 m (pc + 3) ls rest)) : W p l e R s m args below meth c H locs cells slots Q (F0 m pc ls st0) := by
  subst hq
  refine vx_callv (vx_runV (As := As) (rest := rest) ⟨hC.1, hC.2.1, hC.2.2.1, hC.2.2.2.1, hC.2.2.2.2.1⟩ (hM H.size) (cwV n hC.2.2.2.2.1 hT hw hrm.1 hrm.2 hd hR) ⟨zP.blind, va_recv hK (z_subR hI.2.1) hc he, zP.atR hI hK⟩ rfl hn hl.1 hst (lv_room hW) hdg hcl) hI.2.2.2.1 (fun q _ h => z_freeR hI q h) (z_freeR hI) (fun q _ h => z_freeR hI q h) (fun E ce q9 u9 t H1 locs1 ht hvm _ hB _ hk1 hS h1 h2 h3 => ?_) (fun u9 t H1 locs1 ht hvm hw' hB _ hk1 hS => ?_)
  · obtain ⟨⟨k, hk, rfl⟩, hB⟩ := hB
    exact kx k u9 hk.symm ce q9 H1 locs1 (z_backR hI ht hB hk1 hS) h1 h2 h3
  · exact kk u9 hw'.symm H1 locs1 (z_backR hI ht hB hk1 hS)
/-- the first row of the table takes it -/
theorem z_catch1 (hC : zC p m c cc nL s args Ts own meth ret) (hI : zI st D tys w0 A s H locs) {hh : List (Nat × Nat × Nat × Nat)} (hE : c.exceptionTable.toList = tableOf hh) (k : Nat) {x : ExceptionTableEntry} {suf : List ExceptionTableEntry} (hs : tableOf hh = x :: suf) (hx : covers x pc = true) (h0 : x.catchType ≠ 0) (hlink : Cond.classLink own x.catchType (zEx k) ∈ Ts)
    {ce : Cell} {q : Addr} (hcell : H[q]? = some ce) (hv : ce.vm = .none) (hcl : s.vm.findClass (zEx k) = some ce.cls) {hp : Nat} (hpc : x.handlerPc = hp) (kk : W p l e R s m args below meth c H locs cells slots Q (F0 m hp ls [.ref q])) : vx_W p l e R s m args below meth c H locs cells slots Q (F0 m pc ls rest) q := by
  subst hpc
  exact vx_catch hC.2.2.2.1 [] x suf (hE.trans hs) (fun z h => nomatch h) hx h0 (hC.2.2.2.2.1 _ hlink) (va_Nw.use rfl (hI.2.2.2.2.2.2.2.2.2.2.2.2.1 k)) hcell hv hcl kk
/-- the second one, IllegalStateException behind IllegalArgumentException -/
theorem z_catch2 (hC : zC p m c cc nL s args Ts own meth ret) (hI : zI st D tys w0 A s H locs) {hh : List (Nat × Nat × Nat × Nat)} (hE : c.exceptionTable.toList = tableOf hh) {x1 x : ExceptionTableEntry} {suf : List ExceptionTableEntry} (hs : tableOf hh = x1 :: x :: suf) (h1 : x1.catchType ≠ 0) (hlink1 : Cond.classLink own x1.catchType (zEx 1) ∈ Ts) (hx : covers x pc = true) (h0 : x.catchType ≠ 0) (hlink : Cond.classLink own x.catchType (zEx 2) ∈ Ts)
    {ce : Cell} {q : Addr} (hcell : H[q]? = some ce) (hv : ce.vm = .none) (hcl : s.vm.findClass (zEx 2) = some ce.cls) {hp : Nat} (hpc : x.handlerPc = hp) (kk : W p l e R s m args below meth c H locs cells slots Q (F0 m hp ls [.ref q])) : vx_W p l e R s m args below meth c H locs cells slots Q (F0 m pc ls rest) q := by
  subst hpc
  exact vx_catch hC.2.2.2.1 [x1] x suf (hE.trans hs) (fun z h => by
      cases List.mem_singleton.mp h
      exact Or.inr ⟨h1, _, hC.2.2.2.2.1 _ hlink1, hI.2.2.2.2.2.2.2.2.2.2.2.2.2.1⟩) hx h0 (hC.2.2.2.2.1 _ hlink) (va_Nw.use rfl (hI.2.2.2.2.2.2.2.2.2.2.2.2.1 2)) hcell hv hcl kk
/-- a helper's contract: the cells of u (the law's out) and the class's world -/
noncomputable def zH {S : Type} (st : Nat → Nat) (l : Launch) (y : MethodName) (ws : List Cond) (rm : Room) (av : List Value) (D : va_G) (tys : List (ClassId × FieldType)) (w : S → va_W) (sz : Nat) (x : S) (res : S × Int32) : Prop :=
  vx_Met l y ws rm (va_Pc av (zP st D tys (w x) sz)) (va_Qi (fun (r : Int32) (u : S) => (u, r) = res) (fun u t => va_P D vwCl (w u) t.heap ∧ va_K D vwCl tys t ∧ va_D (va_A (w x) sz) (w u)) (va_A (w x) sz)) (vx_X (fun _ : Unit => False) (fun _ _ _ => True) (va_A (w x) sz)) 1 6 (va_A (w x) sz)
noncomputable def zHQ {S : Type} (below : List Frame) (args : Array Value) (s : State) (D : va_G) (tys : List (ClassId × FieldType)) (w : S → va_W) (A : Nat → Prop) (res : S × Int32) : State → Prop :=
  vx_MQ below (va_Qi (fun (r : Int32) (u : S) => (u, r) = res) (fun u t => va_P D vwCl (w u) t.heap ∧ va_K D vwCl tys t ∧ va_D A (w u)) A) (vx_X (fun _ : Unit => False) (fun _ _ _ => True) A) args s 1 6 A
theorem zH.of {S : Type} {av : List Value} {w : S → va_W} {sz : Nat} {x : S} {res : S × Int32} {hh : List (Nat × Nat × Nat × Nat)} (hy : plainName y.cls = true) (hw : ws = Cond.codeWith y cc maxL ret hh :: ws') (hle : (lg_sl av).length ≤ maxL)
    (k : ∀ (p : Program) (e : Env) (s : State) (m : MethodId) (args : Array Value) (below : List Frame) (meth : Method) (c : Code), zC p m c cc maxL s args ws y.cls meth ret → c.exceptionTable.toList = tableOf hh → ∀ A : Nat → Prop, zI st D tys (w x) A s s.heap [] → ∀ ls : Array Slot, lv_has ls maxL (lv_args 0 av) → W p l e (headSpec ws rm).room s m args below meth c s.heap [] 0 0 (zHQ below args s D tys w A res) (F0 m 0 ls [])) : zH st l y ws rm av D tys w sz x res := by
  refine vx_ofWH (cc := cc) (maxL := maxL) (ret := ret) (hh := hh) hy hw ?_
  intro p e s m args below meth c s₁ B hml hv
  obtain ⟨rfl, hv⟩ := hv
  have hl := lv_entry av (n := maxL) hle
  rw [lg_entry_eq]
  have hT := vx_table (x := y) B (atoms_spec (ws := ws) B.pre _ (by rw [hw]; exact List.mem_cons_self))
  exact k p e s m av.toArray below meth c ⟨B.exec, B.bytes, hml, findClass_of_methodNamed B.named, atoms_spec (ws := ws) B.pre, B.returns, B.notSynchronized⟩ hT _ (zI.start (w := fun _ => w x) (σ := zS0) hv) _ hl
theorem z_hret (hC : zC p m c cc nL s args Ts own meth (some .int)) {S : Type} {w : S → va_W} {x : S} (hI : zI st D tys (w x) A s H locs) {v : Int32} {res : S × Int32} (hf : (x, v) = res) (hc : cells ≤ 1) (hs : slots ≤ 6) (hdg : decode cc pc = .ok (.ireturn, 1)) : W p l e R s m args below meth c H locs cells slots (zHQ below args s D tys w A res) (F0 m pc ls [.int v]) := by
  obtain ⟨hx, hb, hml, hown, hts, hr, hlk⟩ := hC
  obtain ⟨hK, hP, hD, hS, hA, hT⟩ := hI
  refine W.widen (k := 1) (n := 6) hc hs (vx_ret ?_)
  exact W.iret (v := v) hx hb hr (fun t ht hW => ⟨⟨v, x, rfl, hf, by rw [ht]; exact hP, va_K.moved hW.alike hK, hD⟩, hS.F ht⟩) hS.2.2 hdg hlk
/-- the law's out -/
noncomputable def zHo (ao : Nat) (co : ClassId) (o : Nat → Int64) : va_W := [(ao, .inl (co, 1, .inr (.inl o)))]
noncomputable abbrev zHs : Type := (Nat → Int64) × zSt
noncomputable def zbr {α β : Type} (q : Option α) (f : α → Option β) : Option β := match q with | none => none | some r => f r
theorem zbr_use {α β : Type} {q : Option α} {f : α → Option β} {r : β} (h : zbr q f = some r) : ∃ v, q = some v ∧ f v = some r := by
  cases q with
  | none => cases h
  | some v => exact ⟨v, rfl, h⟩
/-- what a helper makes of a throw: two rows, one row -/
noncomputable def zh2 {S : Type} (x : S) (k : Nat) : Option (S × Int32) := if k = 1 then some (x, 1) else if k = 2 then some (x, 2) else none
noncomputable def zh1 {S : Type} (n : Nat) (x : S) (k : Nat) : Option (S × Int32) := if k = n then some (x, 1) else none
noncomputable def zhi (o : Nat → Int64) (t : zHs → Nat → Option (zHs × Int32)) (r : zRi) : Option (zHs × Int32) := match r with | .inl q => some ((vp_updL o 0 q.2.toInt64, q.1), 0) | .inr q => t (o, q.1) q.2
noncomputable def zhl (o : Nat → Int64) (t : zHs → Nat → Option (zHs × Int32)) (r : zRl) : Option (zHs × Int32) := match r with | .inl q => some ((vp_updL o 0 q.2, q.1), 0) | .inr q => t (o, q.1) q.2
noncomputable def zhu (t : zSt → Nat → Option (zSt × Int32)) (r : zRu) : Option (zSt × Int32) := match r with | .inl q => some (q, 0) | .inr q => t q.1 q.2
theorem zh2_1 {S : Type} {x : S} {k : Nat} {r : S × Int32} (h : zh2 x k = some r) (c : k = 1) : (x, 1) = r := by subst c; exact Option.some.inj h
theorem zh2_2 {S : Type} {x : S} {k : Nat} {r : S × Int32} (h : zh2 x k = some r) (c : ¬ k = 1) : k = 2 ∧ (x, 2) = r := by
  unfold zh2 at h
  rw [if_neg c] at h
  by_cases c2 : k = 2
  · rw [if_pos c2] at h; exact ⟨c2, Option.some.inj h⟩
  · rw [if_neg c2] at h; cases h
theorem zh1_1 {S : Type} {n : Nat} {x : S} {k : Nat} {r : S × Int32} (h : zh1 n x k = some r) : k = n ∧ (x, 1) = r := by
  unfold zh1 at h
  by_cases c : k = n
  · rw [if_pos c] at h; exact ⟨c, Option.some.inj h⟩
  · rw [if_neg c] at h; cases h
end ZH
end ZJN0
section ZJN1
theorem zw10_20 : Cond.classLink RL 13 "java/lang/IllegalArgumentException" ∈ wsL_law := zr10 _ (List.mem_of_getElem? (i := 20) rfl)
theorem zw10_21 : Cond.methodLink RL 7 yX11_feed ∈ wsL_law := zr10 _ (List.mem_of_getElem? (i := 21) rfl)
theorem zw10_22 : Cond.instanceMethod yX11_feed ∈ wsL_law := zr10 _ (List.mem_of_getElem? (i := 22) rfl)
theorem zw10_23 : Cond.selects RX11 yX11_feed yX11_feed ∈ wsL_law := zr10 _ (List.mem_of_getElem? (i := 23) rfl)
theorem zw11_0 : Cond.code yX11_feed cX11_feed 11 (some .int) ∈ wsL_law := zr11 _ (List.mem_of_getElem? (i := 0) rfl)
theorem zw12_5 : Cond.methodLink RL 17 yX11_grow ∈ wsL_law := zr12 _ (List.mem_of_getElem? (i := 5) rfl)
theorem zw12_6 : Cond.instanceMethod yX11_grow ∈ wsL_law := zr12 _ (List.mem_of_getElem? (i := 6) rfl)
theorem zw12_7 : Cond.selects RX11 yX11_grow yX11_grow ∈ wsL_law := zr12 _ (List.mem_of_getElem? (i := 7) rfl)
theorem zw12_8 : Cond.code yX11_grow cX11_grow 3 (some .int) ∈ wsL_law := zr12 _ (List.mem_of_getElem? (i := 8) rfl)
theorem zw13_3 : Cond.methodLink RL 21 yX11_patch ∈ wsL_law := zr13 _ (List.mem_of_getElem? (i := 3) rfl)
theorem zw13_4 : Cond.instanceMethod yX11_patch ∈ wsL_law := zr13 _ (List.mem_of_getElem? (i := 4) rfl)
theorem zw13_5 : Cond.selects RX11 yX11_patch yX11_patch ∈ wsL_law := zr13 _ (List.mem_of_getElem? (i := 5) rfl)
theorem zw13_6 : Cond.code yX11_patch cX11_patch 4 none ∈ wsL_law := zr13 _ (List.mem_of_getElem? (i := 6) rfl)
theorem zw17_0 : Cond.methodLink RL 25 yX11_card ∈ wsL_law := zr17 _ (List.mem_of_getElem? (i := 0) rfl)
theorem zw17_1 : Cond.instanceMethod yX11_card ∈ wsL_law := zr17 _ (List.mem_of_getElem? (i := 1) rfl)
theorem zw17_2 : Cond.selects RX11 yX11_card yX11_card ∈ wsL_law := zr17 _ (List.mem_of_getElem? (i := 2) rfl)
theorem zw17_3 : Cond.code yX11_card cX11_card 2 (some .int) ∈ wsL_law := zr17 _ (List.mem_of_getElem? (i := 3) rfl)
theorem zw18_5 : Cond.methodLink RL 28 yX11_step ∈ wsL_law := zr18 _ (List.mem_of_getElem? (i := 5) rfl)
theorem zw18_6 : Cond.instanceMethod yX11_step ∈ wsL_law := zr18 _ (List.mem_of_getElem? (i := 6) rfl)
theorem zw18_7 : Cond.selects RX11 yX11_step yX11_step ∈ wsL_law := zr18 _ (List.mem_of_getElem? (i := 7) rfl)
theorem zw18_8 : Cond.code yX11_step cX11_step 2 (some .int) ∈ wsL_law := zr18 _ (List.mem_of_getElem? (i := 8) rfl)
theorem zw65_21 : Cond.methodLink RL 31 yX11_picture ∈ wsL_law := zr65 _ (List.mem_of_getElem? (i := 21) rfl)
theorem zw65_22 : Cond.instanceMethod yX11_picture ∈ wsL_law := zr65 _ (List.mem_of_getElem? (i := 22) rfl)
theorem zw65_23 : Cond.selects RX11 yX11_picture yX11_picture ∈ wsL_law := zr65 _ (List.mem_of_getElem? (i := 23) rfl)
theorem zw66_0 : Cond.code yX11_picture cX11_picture 2 (some .int) ∈ wsL_law := zr66 _ (List.mem_of_getElem? (i := 0) rfl)
theorem zw67_6 : Cond.methodLink RL 34 yX11_press ∈ wsL_law := zr67 _ (List.mem_of_getElem? (i := 6) rfl)
theorem zw67_7 : Cond.instanceMethod yX11_press ∈ wsL_law := zr67 _ (List.mem_of_getElem? (i := 7) rfl)
theorem zw67_8 : Cond.selects RX11 yX11_press yX11_press ∈ wsL_law := zr67 _ (List.mem_of_getElem? (i := 8) rfl)
theorem zw67_9 : Cond.code yX11_press cX11_press 3 none ∈ wsL_law := zr67 _ (List.mem_of_getElem? (i := 9) rfl)
theorem zw68_10 : Cond.methodLink RL 38 yX11_line ∈ wsL_law := zr68 _ (List.mem_of_getElem? (i := 10) rfl)
theorem zw68_11 : Cond.instanceMethod yX11_line ∈ wsL_law := zr68 _ (List.mem_of_getElem? (i := 11) rfl)
theorem zw68_12 : Cond.selects RX11 yX11_line yX11_line ∈ wsL_law := zr68 _ (List.mem_of_getElem? (i := 12) rfl)
theorem zw68_13 : Cond.code yX11_line cX11_line 3 none ∈ wsL_law := zr68 _ (List.mem_of_getElem? (i := 13) rfl)
theorem zw69_1 : Cond.methodLink RL 42 yX11_plan ∈ wsL_law := zr69 _ (List.mem_of_getElem? (i := 1) rfl)
theorem zw69_2 : Cond.instanceMethod yX11_plan ∈ wsL_law := zr69 _ (List.mem_of_getElem? (i := 2) rfl)
theorem zw69_3 : Cond.selects RX11 yX11_plan yX11_plan ∈ wsL_law := zr69 _ (List.mem_of_getElem? (i := 3) rfl)
theorem zw69_4 : Cond.code yX11_plan cX11_plan 4 (some .int) ∈ wsL_law := zr69 _ (List.mem_of_getElem? (i := 4) rfl)
theorem zw78_7 : Cond.classLink RL 50 "java/util/NoSuchElementException" ∈ wsL_law := zr78 _ (List.mem_of_getElem? (i := 7) rfl)
theorem zw78_8 : Cond.methodLink RL 46 yX11_text ∈ wsL_law := zr78 _ (List.mem_of_getElem? (i := 8) rfl)
theorem zw78_9 : Cond.instanceMethod yX11_text ∈ wsL_law := zr78 _ (List.mem_of_getElem? (i := 9) rfl)
theorem zw78_10 : Cond.selects RX11 yX11_text yX11_text ∈ wsL_law := zr78 _ (List.mem_of_getElem? (i := 10) rfl)
theorem zw78_11 : Cond.code yX11_text cX11_text 2 (some .long) ∈ wsL_law := zr78 _ (List.mem_of_getElem? (i := 11) rfl)
theorem zw79_2 : Cond.methodLink RL 52 yX11_stop ∈ wsL_law := zr79 _ (List.mem_of_getElem? (i := 2) rfl)
theorem zw79_3 : Cond.instanceMethod yX11_stop ∈ wsL_law := zr79 _ (List.mem_of_getElem? (i := 3) rfl)
theorem zw79_4 : Cond.selects RX11 yX11_stop yX11_stop ∈ wsL_law := zr79 _ (List.mem_of_getElem? (i := 4) rfl)
theorem zw79_5 : Cond.code yX11_stop cX11_stop 3 (some .int) ∈ wsL_law := zr79 _ (List.mem_of_getElem? (i := 5) rfl)
theorem zw82_15 : Cond.classLink RL 15 "java/lang/IllegalStateException" ∈ wsL_law := zr82 _ (List.mem_of_getElem? (i := 15) rfl)
theorem zw82_16 : Cond.methodLink RL 56 yX11_restore ∈ wsL_law := zr82 _ (List.mem_of_getElem? (i := 16) rfl)
theorem zw82_17 : Cond.instanceMethod yX11_restore ∈ wsL_law := zr82 _ (List.mem_of_getElem? (i := 17) rfl)
theorem zw82_18 : Cond.selects RX11 yX11_restore yX11_restore ∈ wsL_law := zr82 _ (List.mem_of_getElem? (i := 18) rfl)
theorem zw82_19 : Cond.code yX11_restore cX11_restore 1 none ∈ wsL_law := zr82 _ (List.mem_of_getElem? (i := 19) rfl)
theorem zw84_19 : Cond.methodLink RL 59 yX11_register ∈ wsL_law := zr84 _ (List.mem_of_getElem? (i := 19) rfl)
theorem zw84_20 : Cond.instanceMethod yX11_register ∈ wsL_law := zr84 _ (List.mem_of_getElem? (i := 20) rfl)
theorem zw84_21 : Cond.selects RX11 yX11_register yX11_register ∈ wsL_law := zr84 _ (List.mem_of_getElem? (i := 21) rfl)
theorem zw84_22 : Cond.code yX11_register cX11_register 2 (some .int) ∈ wsL_law := zr84 _ (List.mem_of_getElem? (i := 22) rfl)
theorem zw85_7 : Cond.methodLink RL 62 yX11_set ∈ wsL_law := zr85 _ (List.mem_of_getElem? (i := 7) rfl)
theorem zw85_8 : Cond.instanceMethod yX11_set ∈ wsL_law := zr85 _ (List.mem_of_getElem? (i := 8) rfl)
theorem zw85_9 : Cond.selects RX11 yX11_set yX11_set ∈ wsL_law := zr85 _ (List.mem_of_getElem? (i := 9) rfl)
theorem zw85_10 : Cond.code yX11_set cX11_set 3 none ∈ wsL_law := zr85 _ (List.mem_of_getElem? (i := 10) rfl)
theorem zw87_12 : Cond.methodLink RL 65 yX11_battery ∈ wsL_law := zr87 _ (List.mem_of_getElem? (i := 12) rfl)
theorem zw87_13 : Cond.instanceMethod yX11_battery ∈ wsL_law := zr87 _ (List.mem_of_getElem? (i := 13) rfl)
theorem zw87_14 : Cond.selects RX11 yX11_battery yX11_battery ∈ wsL_law := zr87 _ (List.mem_of_getElem? (i := 14) rfl)
theorem zw87_15 : Cond.code yX11_battery cX11_battery 2 (some .int) ∈ wsL_law := zr87 _ (List.mem_of_getElem? (i := 15) rfl)
theorem zw89_5 : Cond.methodLink RL 68 yX11_chip ∈ wsL_law := zr89 _ (List.mem_of_getElem? (i := 5) rfl)
theorem zw89_6 : Cond.instanceMethod yX11_chip ∈ wsL_law := zr89 _ (List.mem_of_getElem? (i := 6) rfl)
theorem zw89_7 : Cond.selects RX11 yX11_chip yX11_chip ∈ wsL_law := zr89 _ (List.mem_of_getElem? (i := 7) rfl)
theorem zw89_8 : Cond.code yX11_chip cX11_chip 2 (some .int) ∈ wsL_law := zr89 _ (List.mem_of_getElem? (i := 8) rfl)
theorem zw90_9 : Cond.methodLink RL 71 yX11_dot ∈ wsL_law := zr90 _ (List.mem_of_getElem? (i := 9) rfl)
theorem zw90_10 : Cond.instanceMethod yX11_dot ∈ wsL_law := zr90 _ (List.mem_of_getElem? (i := 10) rfl)
theorem zw90_11 : Cond.selects RX11 yX11_dot yX11_dot ∈ wsL_law := zr90 _ (List.mem_of_getElem? (i := 11) rfl)
theorem zw90_12 : Cond.code yX11_dot cX11_dot 3 (some .int) ∈ wsL_law := zr90 _ (List.mem_of_getElem? (i := 12) rfl)
theorem zw91_12 : Cond.methodLink RL 75 yX11_row ∈ wsL_law := zr91 _ (List.mem_of_getElem? (i := 12) rfl)
theorem zw91_13 : Cond.instanceMethod yX11_row ∈ wsL_law := zr91 _ (List.mem_of_getElem? (i := 13) rfl)
theorem zw91_14 : Cond.selects RX11 yX11_row yX11_row ∈ wsL_law := zr91 _ (List.mem_of_getElem? (i := 14) rfl)
theorem zw91_15 : Cond.code yX11_row cX11_row 2 (some .int) ∈ wsL_law := zr91 _ (List.mem_of_getElem? (i := 15) rfl)
theorem zw92_6 : Cond.methodLink RL 78 yX11_hear ∈ wsL_law := zr92 _ (List.mem_of_getElem? (i := 6) rfl)
theorem zw92_7 : Cond.instanceMethod yX11_hear ∈ wsL_law := zr92 _ (List.mem_of_getElem? (i := 7) rfl)
theorem zw92_8 : Cond.selects RX11 yX11_hear yX11_hear ∈ wsL_law := zr92 _ (List.mem_of_getElem? (i := 8) rfl)
theorem zw92_9 : Cond.code yX11_hear cX11_hear 1 (some .long) ∈ wsL_law := zr92 _ (List.mem_of_getElem? (i := 9) rfl)
theorem zw93_2 : Cond.methodLink RL 82 yX11_mix ∈ wsL_law := zr93 _ (List.mem_of_getElem? (i := 2) rfl)
theorem zw93_3 : Cond.instanceMethod yX11_mix ∈ wsL_law := zr93 _ (List.mem_of_getElem? (i := 3) rfl)
theorem zw93_4 : Cond.selects RX11 yX11_mix yX11_mix ∈ wsL_law := zr93 _ (List.mem_of_getElem? (i := 4) rfl)
theorem zw93_5 : Cond.code yX11_mix cX11_mix 1 (some .long) ∈ wsL_law := zr93 _ (List.mem_of_getElem? (i := 5) rfl)
theorem zw93_14 : Cond.methodLink RL 85 yX11_wave ∈ wsL_law := zr93 _ (List.mem_of_getElem? (i := 14) rfl)
theorem zw93_15 : Cond.instanceMethod yX11_wave ∈ wsL_law := zr93 _ (List.mem_of_getElem? (i := 15) rfl)
theorem zw93_16 : Cond.selects RX11 yX11_wave yX11_wave ∈ wsL_law := zr93 _ (List.mem_of_getElem? (i := 16) rfl)
theorem zw93_17 : Cond.code yX11_wave cX11_wave 2 (some .int) ∈ wsL_law := zr93 _ (List.mem_of_getElem? (i := 17) rfl)
theorem zw94_8 : Cond.methodLink RL 88 yX11_sound ∈ wsL_law := zr94 _ (List.mem_of_getElem? (i := 8) rfl)
theorem zw94_9 : Cond.instanceMethod yX11_sound ∈ wsL_law := zr94 _ (List.mem_of_getElem? (i := 9) rfl)
theorem zw94_10 : Cond.selects RX11 yX11_sound yX11_sound ∈ wsL_law := zr94 _ (List.mem_of_getElem? (i := 10) rfl)
theorem zw94_11 : Cond.code yX11_sound cX11_sound 2 (some .int) ∈ wsL_law := zr94 _ (List.mem_of_getElem? (i := 11) rfl)
theorem zw95_13 : Cond.methodLink RL 91 yX11_look ∈ wsL_law := zr95 _ (List.mem_of_getElem? (i := 13) rfl)
theorem zw95_14 : Cond.instanceMethod yX11_look ∈ wsL_law := zr95 _ (List.mem_of_getElem? (i := 14) rfl)
theorem zw95_15 : Cond.selects RX11 yX11_look yX11_look ∈ wsL_law := zr95 _ (List.mem_of_getElem? (i := 15) rfl)
theorem zw95_16 : Cond.code yX11_look cX11_look 2 (some .long) ∈ wsL_law := zr95 _ (List.mem_of_getElem? (i := 16) rfl)
noncomputable def rmL_feed : Room := { frames := 7, cells := 1, slots := 6, locals := 130 }
noncomputable def wzL_feed : List Cond := .codeWith yL_feed cL_feed 10 (some .int) [(0, 15, 18, 13), (0, 15, 22, 15)] :: wsL_law
noncomputable def kn_cL_feed : Nat := 0xac03ac05093aac04093a0b00a750850700b606160416201b2a030819
theorem zk_cL_feed : zkd cL_feed.data.toList kn_cL_feed = true := by decide +kernel
theorem zn_cL_feed : cL_feed.data.toList.length = 28 := by decide +kernel
theorem dL_feed_0 : decode cL_feed 0 = .ok (.aload 8, 2) := zo_25 (b1 := 8) (zkb2 zk_cL_feed zn_cL_feed rfl)
theorem dL_feed_2 : decode cL_feed 2 = .ok (.iconst 0, 1) := zo_3 (zkb zk_cL_feed zn_cL_feed rfl)
theorem dL_feed_3 : decode cL_feed 3 = .ok (.aload_n 0, 1) := zo_42 (zkb zk_cL_feed zn_cL_feed rfl)
theorem dL_feed_4 : decode cL_feed 4 = .ok (.iload_n 1, 1) := zo_27 (zkb zk_cL_feed zn_cL_feed rfl)
theorem dL_feed_5 : decode cL_feed 5 = .ok (.lload_n 2, 1) := zo_32 (zkb zk_cL_feed zn_cL_feed rfl)
theorem dL_feed_6 : decode cL_feed 6 = .ok (.lload 4, 2) := zo_22 (b1 := 4) (zkb2 zk_cL_feed zn_cL_feed rfl)
theorem dL_feed_8 : decode cL_feed 8 = .ok (.lload 6, 2) := zo_22 (b1 := 6) (zkb2 zk_cL_feed zn_cL_feed rfl)
theorem dL_feed_10 : decode cL_feed 10 = .ok (.invokevirtual 7, 3) := zo_182 (b1 := 0) (b2 := 7) (zkb3 zk_cL_feed zn_cL_feed rfl) rfl
theorem dL_feed_13 : decode cL_feed 13 = .ok (.i2l, 1) := zo_133 (zkb zk_cL_feed zn_cL_feed rfl)
theorem dL_feed_14 : decode cL_feed 14 = .ok (.lastore, 1) := zo_80 (zkb zk_cL_feed zn_cL_feed rfl)
theorem dL_feed_15 : decode cL_feed 15 = .ok (.goto 11, 3) := zo_167 (b1 := 0) (b2 := 11) (zkb3 zk_cL_feed zn_cL_feed rfl) rfl
theorem dL_feed_18 : decode cL_feed 18 = .ok (.astore 9, 2) := zo_58 (b1 := 9) (zkb2 zk_cL_feed zn_cL_feed rfl)
theorem dL_feed_20 : decode cL_feed 20 = .ok (.iconst 1, 1) := zo_4 (zkb zk_cL_feed zn_cL_feed rfl)
theorem dL_feed_21 : decode cL_feed 21 = .ok (.ireturn, 1) := zo_172 (zkb zk_cL_feed zn_cL_feed rfl)
theorem dL_feed_22 : decode cL_feed 22 = .ok (.astore 9, 2) := zo_58 (b1 := 9) (zkb2 zk_cL_feed zn_cL_feed rfl)
theorem dL_feed_24 : decode cL_feed 24 = .ok (.iconst 2, 1) := zo_5 (zkb zk_cL_feed zn_cL_feed rfl)
theorem dL_feed_25 : decode cL_feed 25 = .ok (.ireturn, 1) := zo_172 (zkb zk_cL_feed zn_cL_feed rfl)
theorem dL_feed_26 : decode cL_feed 26 = .ok (.iconst 0, 1) := zo_3 (zkb zk_cL_feed zn_cL_feed rfl)
theorem dL_feed_27 : decode cL_feed 27 = .ok (.ireturn, 1) := zo_172 (zkb zk_cL_feed zn_cL_feed rfl)
noncomputable def fL_feed (o : Nat → Int64) (σ : zSt) (x1 : Int32) (x2 : Int64) (x4 : Int64) (x6 : Int64) : Option (zHs × Int32) := zbr (fX11_feed σ x1 x2 x4 x6) (zhi o zh2)
set_option maxRecDepth 20000 in
theorem cL_feed_met (st : Nat → Nat) (l : Launch) (hst : l.stackTraces = false) (D : va_G) (ad : Nat → Nat) (cy : Nat → ClassId) (ao : Nat) (co : ClassId) (o : Nat → Int64) (σ : zSt) (x1 : Int32) (x2 : Int64) (x4 : Int64) (x6 : Int64) (res : zHs × Int32) (hf : fL_feed o σ x1 x2 x4 x6 = some res) (sz : Nat) : zH st l yL_feed wzL_feed rmL_feed [.ref (ad 0), .int x1, .long x2, .long x4, .long x6, .ref ao] D ((co, .long) :: tC cy) (fun x : zHs => zHo ao co x.1 ++ wC ad cy x.2) sz (o, σ) res := by
  obtain ⟨r, hr, hf⟩ := zbr_use hf
  refine zH.of (cc := cL_feed) (maxL := 10) (by decide) rfl (Nat.le_of_ble_eq_true rfl) (fun p e s m args below meth c hC hE A hI ls hl => ?_)
  have hx := hC.1
  have hb := hC.2.1
  have hK : va_K D vwCl (tC cy) s := hI.1.sub [1, 2, 3, 4, 5, 6, 7, 8, 9, 10, 11, 12, 13, 14, 15, 16, 17, 18, 19, 20, 21, 22, 23, 24, 25, 26, 27, 28, 29, 30, 31, 32, 33, 34, 35, 36, 37] rfl
  refine lv_aload hx hb dL_feed_0 (lv_at hl 5 rfl) ?_
  refine lv_iconst (v := 0) hx hb dL_feed_2 (by decide) ?_
  refine lv_aload_n hx hb dL_feed_3 rfl (lv_at hl 0 rfl) ?_
  refine lv_iload_n hx hb dL_feed_4 rfl (lv_at hl 1 rfl) ?_
  refine lv_lload_n hx hb dL_feed_5 rfl (lv_at hl 2 rfl) ?_
  refine lv_lload hx hb dL_feed_6 (lv_at hl 3 rfl) ?_
  refine lv_lload hx hb dL_feed_8 (lv_at hl 4 rfl) ?_
  refine z_hcalli (u := zHo ao co o) (w := wC ad cy) (As := [.int x1, .long x2, .long x4, .long x6]) (rest := [.int 0, .ref ao]) hC hI hK (cX11_feed_met st l hst D ad cy σ x1 x2 x4 x6 r hr) (zgV zw10_21 zw10_22 zw10_23 zw1_2 zw11_0) rfl ⟨rfl, rfl⟩ 4 hdX11_feed ⟨Nat.le_of_ble_eq_true rfl, Nat.le_of_ble_eq_true rfl⟩ rfl rfl (wC_e0 ad cy σ) rfl hl rfl (Nat.le_of_ble_eq_true rfl) dL_feed_10 ⟨Nat.le_of_ble_eq_true rfl, Nat.le_of_ble_eq_true rfl⟩ (fun k σ1 hq ce q9 H locs hI h1 h2 h3 => ?_) (fun v σ1 hq H locs hI => ?_)
  · subst hq
    by_cases c1 : k = 1
    · have hg := zh2_1 hf c1
      subst c1
      refine z_catch1 (x := ⟨0, 15, 18, 13⟩) (hp := 18) hC hI hE 1 rfl rfl (by decide) (List.mem_cons_of_mem _ zw10_20) h1 h2 h3 rfl ?_
      refine lv_astore hx hb dL_feed_18 hl (by decide) rfl (fun ls hl => ?_)
      refine lv_iconst (v := 1) hx hb dL_feed_20 (by decide) ?_
      exact z_hret (w := fun x : zHs => zHo ao co x.1 ++ wC ad cy x.2) (x := (o, σ1)) hC hI hg (Nat.le_of_ble_eq_true rfl) (Nat.le_of_ble_eq_true rfl) dL_feed_21
    · obtain ⟨c2, hg⟩ := zh2_2 hf c1
      subst c2
      refine z_catch2 (x := ⟨0, 15, 22, 15⟩) (x1 := ⟨0, 15, 18, 13⟩) (hp := 22) hC hI hE rfl (by decide) (List.mem_cons_of_mem _ zw10_20) rfl (by decide) (List.mem_cons_of_mem _ zw82_15) h1 h2 h3 rfl ?_
      refine lv_astore hx hb dL_feed_22 hl (by decide) rfl (fun ls hl => ?_)
      refine lv_iconst (v := 2) hx hb dL_feed_24 (by decide) ?_
      exact z_hret (w := fun x : zHs => zHo ao co x.1 ++ wC ad cy x.2) (x := (o, σ1)) hC hI hg (Nat.le_of_ble_eq_true rfl) (Nat.le_of_ble_eq_true rfl) dL_feed_25
  · subst hq
    refine lv_i2l hx hb dL_feed_13 rfl ?_
    refine z_last (w1 := zHo ao co (vp_updL o 0 v.toInt64) ++ wC ad cy σ1) hC hI 0 0 rfl rfl (by decide) rfl dL_feed_14 (fun H locs hI => ?_)
    refine lv_goto (tgt := 26) hx hb dL_feed_15 (by decide) ?_
    refine lv_iconst (v := 0) hx hb dL_feed_26 (by decide) ?_
    exact z_hret (w := fun x : zHs => zHo ao co x.1 ++ wC ad cy x.2) (x := (vp_updL o 0 v.toInt64, σ1)) hC hI (Option.some.inj hf) (Nat.le_of_ble_eq_true rfl) (Nat.le_of_ble_eq_true rfl) dL_feed_27
theorem hdL_feed : yL_feed.cls ≠ "java/lang/invoke/MethodHandle" ∧ yL_feed.cls ≠ "java/lang/invoke/VarHandle" ∧ (parseMethodDescriptor yL_feed.desc).map (fun d => d.parameters.length) = some 6 := by decide +kernel
noncomputable def rmL_grow : Room := { frames := 7, cells := 1, slots := 6, locals := 122 }
noncomputable def wzL_grow : List Cond := .codeWith yL_grow cL_grow 4 (some .int) [(0, 9, 12, 13), (0, 9, 15, 15)] :: wsL_law
noncomputable def kn_cL_grow : Nat := 0xac03ac054eac044e0900a750851100b61b2a032c
theorem zk_cL_grow : zkd cL_grow.data.toList kn_cL_grow = true := by decide +kernel
theorem zn_cL_grow : cL_grow.data.toList.length = 20 := by decide +kernel
theorem dL_grow_0 : decode cL_grow 0 = .ok (.aload_n 2, 1) := zo_44 (zkb zk_cL_grow zn_cL_grow rfl)
theorem dL_grow_1 : decode cL_grow 1 = .ok (.iconst 0, 1) := zo_3 (zkb zk_cL_grow zn_cL_grow rfl)
theorem dL_grow_2 : decode cL_grow 2 = .ok (.aload_n 0, 1) := zo_42 (zkb zk_cL_grow zn_cL_grow rfl)
theorem dL_grow_3 : decode cL_grow 3 = .ok (.iload_n 1, 1) := zo_27 (zkb zk_cL_grow zn_cL_grow rfl)
theorem dL_grow_4 : decode cL_grow 4 = .ok (.invokevirtual 17, 3) := zo_182 (b1 := 0) (b2 := 17) (zkb3 zk_cL_grow zn_cL_grow rfl) rfl
theorem dL_grow_7 : decode cL_grow 7 = .ok (.i2l, 1) := zo_133 (zkb zk_cL_grow zn_cL_grow rfl)
theorem dL_grow_8 : decode cL_grow 8 = .ok (.lastore, 1) := zo_80 (zkb zk_cL_grow zn_cL_grow rfl)
theorem dL_grow_9 : decode cL_grow 9 = .ok (.goto 9, 3) := zo_167 (b1 := 0) (b2 := 9) (zkb3 zk_cL_grow zn_cL_grow rfl) rfl
theorem dL_grow_12 : decode cL_grow 12 = .ok (.astore_n 3, 1) := zo_78 (zkb zk_cL_grow zn_cL_grow rfl)
theorem dL_grow_13 : decode cL_grow 13 = .ok (.iconst 1, 1) := zo_4 (zkb zk_cL_grow zn_cL_grow rfl)
theorem dL_grow_14 : decode cL_grow 14 = .ok (.ireturn, 1) := zo_172 (zkb zk_cL_grow zn_cL_grow rfl)
theorem dL_grow_15 : decode cL_grow 15 = .ok (.astore_n 3, 1) := zo_78 (zkb zk_cL_grow zn_cL_grow rfl)
theorem dL_grow_16 : decode cL_grow 16 = .ok (.iconst 2, 1) := zo_5 (zkb zk_cL_grow zn_cL_grow rfl)
theorem dL_grow_17 : decode cL_grow 17 = .ok (.ireturn, 1) := zo_172 (zkb zk_cL_grow zn_cL_grow rfl)
theorem dL_grow_18 : decode cL_grow 18 = .ok (.iconst 0, 1) := zo_3 (zkb zk_cL_grow zn_cL_grow rfl)
theorem dL_grow_19 : decode cL_grow 19 = .ok (.ireturn, 1) := zo_172 (zkb zk_cL_grow zn_cL_grow rfl)
noncomputable def fL_grow (o : Nat → Int64) (σ : zSt) (x1 : Int32) : Option (zHs × Int32) := zbr (fX11_grow σ x1) (zhi o zh2)
set_option maxRecDepth 20000 in
theorem cL_grow_met (st : Nat → Nat) (l : Launch) (hst : l.stackTraces = false) (D : va_G) (ad : Nat → Nat) (cy : Nat → ClassId) (ao : Nat) (co : ClassId) (o : Nat → Int64) (σ : zSt) (x1 : Int32) (res : zHs × Int32) (hf : fL_grow o σ x1 = some res) (sz : Nat) : zH st l yL_grow wzL_grow rmL_grow [.ref (ad 0), .int x1, .ref ao] D ((co, .long) :: tC cy) (fun x : zHs => zHo ao co x.1 ++ wC ad cy x.2) sz (o, σ) res := by
  obtain ⟨r, hr, hf⟩ := zbr_use hf
  refine zH.of (cc := cL_grow) (maxL := 4) (by decide) rfl (Nat.le_of_ble_eq_true rfl) (fun p e s m args below meth c hC hE A hI ls hl => ?_)
  have hx := hC.1
  have hb := hC.2.1
  have hK : va_K D vwCl (tC cy) s := hI.1.sub [1, 2, 3, 4, 5, 6, 7, 8, 9, 10, 11, 12, 13, 14, 15, 16, 17, 18, 19, 20, 21, 22, 23, 24, 25, 26, 27, 28, 29, 30, 31, 32, 33, 34, 35, 36, 37] rfl
  refine lv_aload_n hx hb dL_grow_0 rfl (lv_at hl 2 rfl) ?_
  refine lv_iconst (v := 0) hx hb dL_grow_1 (by decide) ?_
  refine lv_aload_n hx hb dL_grow_2 rfl (lv_at hl 0 rfl) ?_
  refine lv_iload_n hx hb dL_grow_3 rfl (lv_at hl 1 rfl) ?_
  refine z_hcalli (u := zHo ao co o) (w := wC ad cy) (As := [.int x1]) (rest := [.int 0, .ref ao]) hC hI hK (cX11_grow_met st l hst D ad cy σ x1 r hr) (zgV zw12_5 zw12_6 zw12_7 zw1_2 zw12_8) rfl ⟨rfl, rfl⟩ 1 hdX11_grow ⟨Nat.le_of_ble_eq_true rfl, Nat.le_of_ble_eq_true rfl⟩ rfl rfl (wC_e0 ad cy σ) rfl hl rfl (Nat.le_of_ble_eq_true rfl) dL_grow_4 ⟨Nat.le_of_ble_eq_true rfl, Nat.le_of_ble_eq_true rfl⟩ (fun k σ1 hq ce q9 H locs hI h1 h2 h3 => ?_) (fun v σ1 hq H locs hI => ?_)
  · subst hq
    by_cases c1 : k = 1
    · have hg := zh2_1 hf c1
      subst c1
      refine z_catch1 (x := ⟨0, 9, 12, 13⟩) (hp := 12) hC hI hE 1 rfl rfl (by decide) (List.mem_cons_of_mem _ zw10_20) h1 h2 h3 rfl ?_
      refine lv_astore_n hx hb dL_grow_12 rfl hl (by decide) rfl (fun ls hl => ?_)
      refine lv_iconst (v := 1) hx hb dL_grow_13 (by decide) ?_
      exact z_hret (w := fun x : zHs => zHo ao co x.1 ++ wC ad cy x.2) (x := (o, σ1)) hC hI hg (Nat.le_of_ble_eq_true rfl) (Nat.le_of_ble_eq_true rfl) dL_grow_14
    · obtain ⟨c2, hg⟩ := zh2_2 hf c1
      subst c2
      refine z_catch2 (x := ⟨0, 9, 15, 15⟩) (x1 := ⟨0, 9, 12, 13⟩) (hp := 15) hC hI hE rfl (by decide) (List.mem_cons_of_mem _ zw10_20) rfl (by decide) (List.mem_cons_of_mem _ zw82_15) h1 h2 h3 rfl ?_
      refine lv_astore_n hx hb dL_grow_15 rfl hl (by decide) rfl (fun ls hl => ?_)
      refine lv_iconst (v := 2) hx hb dL_grow_16 (by decide) ?_
      exact z_hret (w := fun x : zHs => zHo ao co x.1 ++ wC ad cy x.2) (x := (o, σ1)) hC hI hg (Nat.le_of_ble_eq_true rfl) (Nat.le_of_ble_eq_true rfl) dL_grow_17
  · subst hq
    refine lv_i2l hx hb dL_grow_7 rfl ?_
    refine z_last (w1 := zHo ao co (vp_updL o 0 v.toInt64) ++ wC ad cy σ1) hC hI 0 0 rfl rfl (by decide) rfl dL_grow_8 (fun H locs hI => ?_)
    refine lv_goto (tgt := 18) hx hb dL_grow_9 (by decide) ?_
    refine lv_iconst (v := 0) hx hb dL_grow_18 (by decide) ?_
    exact z_hret (w := fun x : zHs => zHo ao co x.1 ++ wC ad cy x.2) (x := (vp_updL o 0 v.toInt64, σ1)) hC hI (Option.some.inj hf) (Nat.le_of_ble_eq_true rfl) (Nat.le_of_ble_eq_true rfl) dL_grow_19
theorem hdL_grow : yL_grow.cls ≠ "java/lang/invoke/MethodHandle" ∧ yL_grow.cls ≠ "java/lang/invoke/VarHandle" ∧ (parseMethodDescriptor yL_grow.desc).map (fun d => d.parameters.length) = some 3 := by decide +kernel
noncomputable def rmL_patch : Room := { frames := 7, cells := 1, slots := 6, locals := 123 }
noncomputable def wzL_patch : List Cond := .codeWith yL_patch cL_patch 5 (some .int) [(0, 6, 9, 13)] :: wsL_law
noncomputable def kn_cL_patch : Nat := 0xac03ac04043a0700a71500b6201b2a
theorem zk_cL_patch : zkd cL_patch.data.toList kn_cL_patch = true := by decide +kernel
theorem zn_cL_patch : cL_patch.data.toList.length = 15 := by decide +kernel
theorem dL_patch_0 : decode cL_patch 0 = .ok (.aload_n 0, 1) := zo_42 (zkb zk_cL_patch zn_cL_patch rfl)
theorem dL_patch_1 : decode cL_patch 1 = .ok (.iload_n 1, 1) := zo_27 (zkb zk_cL_patch zn_cL_patch rfl)
theorem dL_patch_2 : decode cL_patch 2 = .ok (.lload_n 2, 1) := zo_32 (zkb zk_cL_patch zn_cL_patch rfl)
theorem dL_patch_3 : decode cL_patch 3 = .ok (.invokevirtual 21, 3) := zo_182 (b1 := 0) (b2 := 21) (zkb3 zk_cL_patch zn_cL_patch rfl) rfl
theorem dL_patch_6 : decode cL_patch 6 = .ok (.goto 7, 3) := zo_167 (b1 := 0) (b2 := 7) (zkb3 zk_cL_patch zn_cL_patch rfl) rfl
theorem dL_patch_9 : decode cL_patch 9 = .ok (.astore 4, 2) := zo_58 (b1 := 4) (zkb2 zk_cL_patch zn_cL_patch rfl)
theorem dL_patch_11 : decode cL_patch 11 = .ok (.iconst 1, 1) := zo_4 (zkb zk_cL_patch zn_cL_patch rfl)
theorem dL_patch_12 : decode cL_patch 12 = .ok (.ireturn, 1) := zo_172 (zkb zk_cL_patch zn_cL_patch rfl)
theorem dL_patch_13 : decode cL_patch 13 = .ok (.iconst 0, 1) := zo_3 (zkb zk_cL_patch zn_cL_patch rfl)
theorem dL_patch_14 : decode cL_patch 14 = .ok (.ireturn, 1) := zo_172 (zkb zk_cL_patch zn_cL_patch rfl)
noncomputable def fL_patch (σ : zSt) (x1 : Int32) (x2 : Int64) : Option (zSt × Int32) := zbr (fX11_patch σ x1 x2) (zhu (zh1 1))
set_option maxRecDepth 20000 in
theorem cL_patch_met (st : Nat → Nat) (l : Launch) (hst : l.stackTraces = false) (D : va_G) (ad : Nat → Nat) (cy : Nat → ClassId) (σ : zSt) (x1 : Int32) (x2 : Int64) (res : zSt × Int32) (hf : fL_patch σ x1 x2 = some res) (sz : Nat) : zH st l yL_patch wzL_patch rmL_patch [.ref (ad 0), .int x1, .long x2] D (tC cy) (wC ad cy) sz σ res := by
  obtain ⟨r, hr, hf⟩ := zbr_use hf
  refine zH.of (cc := cL_patch) (maxL := 5) (by decide) rfl (Nat.le_of_ble_eq_true rfl) (fun p e s m args below meth c hC hE A hI ls hl => ?_)
  have hx := hC.1
  have hb := hC.2.1
  have hK : va_K D vwCl (tC cy) s := hI.1
  refine lv_aload_n hx hb dL_patch_0 rfl (lv_at hl 0 rfl) ?_
  refine lv_iload_n hx hb dL_patch_1 rfl (lv_at hl 1 rfl) ?_
  refine lv_lload_n hx hb dL_patch_2 rfl (lv_at hl 2 rfl) ?_
  refine z_hcallu (u := ([] : va_W)) (w := wC ad cy) (As := [.int x1, .long x2]) (rest := []) hC hI hK (cX11_patch_met st l hst D ad cy σ x1 x2 r hr) (zgV zw13_3 zw13_4 zw13_5 zw1_2 zw13_6) rfl ⟨rfl, rfl⟩ 2 hdX11_patch ⟨Nat.le_of_ble_eq_true rfl, Nat.le_of_ble_eq_true rfl⟩ rfl rfl (wC_e0 ad cy σ) rfl hl rfl (Nat.le_of_ble_eq_true rfl) dL_patch_3 ⟨Nat.le_of_ble_eq_true rfl, Nat.le_of_ble_eq_true rfl⟩ (fun k σ1 hq ce q9 H locs hI h1 h2 h3 => ?_) (fun σ1 hq H locs hI => ?_)
  · subst hq
    obtain ⟨c1, hg⟩ := zh1_1 hf
    subst c1
    refine z_catch1 (x := ⟨0, 6, 9, 13⟩) (hp := 9) hC hI hE 1 rfl rfl (by decide) (List.mem_cons_of_mem _ zw10_20) h1 h2 h3 rfl ?_
    refine lv_astore hx hb dL_patch_9 hl (by decide) rfl (fun ls hl => ?_)
    refine lv_iconst (v := 1) hx hb dL_patch_11 (by decide) ?_
    exact z_hret (w := wC ad cy) (x := σ1) hC hI hg (Nat.le_of_ble_eq_true rfl) (Nat.le_of_ble_eq_true rfl) dL_patch_12
  · subst hq
    refine lv_goto (tgt := 13) hx hb dL_patch_6 (by decide) ?_
    refine lv_iconst (v := 0) hx hb dL_patch_13 (by decide) ?_
    exact z_hret (w := wC ad cy) (x := σ1) hC hI (Option.some.inj hf) (Nat.le_of_ble_eq_true rfl) (Nat.le_of_ble_eq_true rfl) dL_patch_14
theorem hdL_patch : yL_patch.cls ≠ "java/lang/invoke/MethodHandle" ∧ yL_patch.cls ≠ "java/lang/invoke/VarHandle" ∧ (parseMethodDescriptor yL_patch.desc).map (fun d => d.parameters.length) = some 3 := by decide +kernel
noncomputable def rmL_card : Room := { frames := 7, cells := 1, slots := 6, locals := 121 }
noncomputable def wzL_card : List Cond := .codeWith yL_card cL_card 4 (some .int) [(0, 9, 12, 13)] :: wsL_law
noncomputable def kn_cL_card : Nat := 0xac03ac044e0600a750851900b61b2a032c
theorem zk_cL_card : zkd cL_card.data.toList kn_cL_card = true := by decide +kernel
theorem zn_cL_card : cL_card.data.toList.length = 17 := by decide +kernel
theorem dL_card_0 : decode cL_card 0 = .ok (.aload_n 2, 1) := zo_44 (zkb zk_cL_card zn_cL_card rfl)
theorem dL_card_1 : decode cL_card 1 = .ok (.iconst 0, 1) := zo_3 (zkb zk_cL_card zn_cL_card rfl)
theorem dL_card_2 : decode cL_card 2 = .ok (.aload_n 0, 1) := zo_42 (zkb zk_cL_card zn_cL_card rfl)
theorem dL_card_3 : decode cL_card 3 = .ok (.iload_n 1, 1) := zo_27 (zkb zk_cL_card zn_cL_card rfl)
theorem dL_card_4 : decode cL_card 4 = .ok (.invokevirtual 25, 3) := zo_182 (b1 := 0) (b2 := 25) (zkb3 zk_cL_card zn_cL_card rfl) rfl
theorem dL_card_7 : decode cL_card 7 = .ok (.i2l, 1) := zo_133 (zkb zk_cL_card zn_cL_card rfl)
theorem dL_card_8 : decode cL_card 8 = .ok (.lastore, 1) := zo_80 (zkb zk_cL_card zn_cL_card rfl)
theorem dL_card_9 : decode cL_card 9 = .ok (.goto 6, 3) := zo_167 (b1 := 0) (b2 := 6) (zkb3 zk_cL_card zn_cL_card rfl) rfl
theorem dL_card_12 : decode cL_card 12 = .ok (.astore_n 3, 1) := zo_78 (zkb zk_cL_card zn_cL_card rfl)
theorem dL_card_13 : decode cL_card 13 = .ok (.iconst 1, 1) := zo_4 (zkb zk_cL_card zn_cL_card rfl)
theorem dL_card_14 : decode cL_card 14 = .ok (.ireturn, 1) := zo_172 (zkb zk_cL_card zn_cL_card rfl)
theorem dL_card_15 : decode cL_card 15 = .ok (.iconst 0, 1) := zo_3 (zkb zk_cL_card zn_cL_card rfl)
theorem dL_card_16 : decode cL_card 16 = .ok (.ireturn, 1) := zo_172 (zkb zk_cL_card zn_cL_card rfl)
noncomputable def fL_card (o : Nat → Int64) (σ : zSt) (x1 : Int32) : Option (zHs × Int32) := zbr (fX11_card σ x1) (zhi o (zh1 1))
set_option maxRecDepth 20000 in
theorem cL_card_met (st : Nat → Nat) (l : Launch) (hst : l.stackTraces = false) (D : va_G) (ad : Nat → Nat) (cy : Nat → ClassId) (ao : Nat) (co : ClassId) (o : Nat → Int64) (σ : zSt) (x1 : Int32) (res : zHs × Int32) (hf : fL_card o σ x1 = some res) (sz : Nat) : zH st l yL_card wzL_card rmL_card [.ref (ad 0), .int x1, .ref ao] D ((co, .long) :: tC cy) (fun x : zHs => zHo ao co x.1 ++ wC ad cy x.2) sz (o, σ) res := by
  obtain ⟨r, hr, hf⟩ := zbr_use hf
  refine zH.of (cc := cL_card) (maxL := 4) (by decide) rfl (Nat.le_of_ble_eq_true rfl) (fun p e s m args below meth c hC hE A hI ls hl => ?_)
  have hx := hC.1
  have hb := hC.2.1
  have hK : va_K D vwCl (tC cy) s := hI.1.sub [1, 2, 3, 4, 5, 6, 7, 8, 9, 10, 11, 12, 13, 14, 15, 16, 17, 18, 19, 20, 21, 22, 23, 24, 25, 26, 27, 28, 29, 30, 31, 32, 33, 34, 35, 36, 37] rfl
  refine lv_aload_n hx hb dL_card_0 rfl (lv_at hl 2 rfl) ?_
  refine lv_iconst (v := 0) hx hb dL_card_1 (by decide) ?_
  refine lv_aload_n hx hb dL_card_2 rfl (lv_at hl 0 rfl) ?_
  refine lv_iload_n hx hb dL_card_3 rfl (lv_at hl 1 rfl) ?_
  refine z_hcalli (u := zHo ao co o) (w := wC ad cy) (As := [.int x1]) (rest := [.int 0, .ref ao]) hC hI hK (cX11_card_met st l hst D ad cy σ x1 r hr) (zgV zw17_0 zw17_1 zw17_2 zw1_2 zw17_3) rfl ⟨rfl, rfl⟩ 1 hdX11_card ⟨Nat.le_of_ble_eq_true rfl, Nat.le_of_ble_eq_true rfl⟩ rfl rfl (wC_e0 ad cy σ) rfl hl rfl (Nat.le_of_ble_eq_true rfl) dL_card_4 ⟨Nat.le_of_ble_eq_true rfl, Nat.le_of_ble_eq_true rfl⟩ (fun k σ1 hq ce q9 H locs hI h1 h2 h3 => ?_) (fun v σ1 hq H locs hI => ?_)
  · subst hq
    obtain ⟨c1, hg⟩ := zh1_1 hf
    subst c1
    refine z_catch1 (x := ⟨0, 9, 12, 13⟩) (hp := 12) hC hI hE 1 rfl rfl (by decide) (List.mem_cons_of_mem _ zw10_20) h1 h2 h3 rfl ?_
    refine lv_astore_n hx hb dL_card_12 rfl hl (by decide) rfl (fun ls hl => ?_)
    refine lv_iconst (v := 1) hx hb dL_card_13 (by decide) ?_
    exact z_hret (w := fun x : zHs => zHo ao co x.1 ++ wC ad cy x.2) (x := (o, σ1)) hC hI hg (Nat.le_of_ble_eq_true rfl) (Nat.le_of_ble_eq_true rfl) dL_card_14
  · subst hq
    refine lv_i2l hx hb dL_card_7 rfl ?_
    refine z_last (w1 := zHo ao co (vp_updL o 0 v.toInt64) ++ wC ad cy σ1) hC hI 0 0 rfl rfl (by decide) rfl dL_card_8 (fun H locs hI => ?_)
    refine lv_goto (tgt := 15) hx hb dL_card_9 (by decide) ?_
    refine lv_iconst (v := 0) hx hb dL_card_15 (by decide) ?_
    exact z_hret (w := fun x : zHs => zHo ao co x.1 ++ wC ad cy x.2) (x := (vp_updL o 0 v.toInt64, σ1)) hC hI (Option.some.inj hf) (Nat.le_of_ble_eq_true rfl) (Nat.le_of_ble_eq_true rfl) dL_card_16
theorem hdL_card : yL_card.cls ≠ "java/lang/invoke/MethodHandle" ∧ yL_card.cls ≠ "java/lang/invoke/VarHandle" ∧ (parseMethodDescriptor yL_card.desc).map (fun d => d.parameters.length) = some 3 := by decide +kernel
noncomputable def rmL_step : Room := { frames := 8, cells := 1, slots := 6, locals := 195 }
noncomputable def wzL_step : List Cond := .codeWith yL_step cL_step 4 (some .int) [(0, 9, 12, 13)] :: wsL_law
noncomputable def kn_cL_step : Nat := 0xac03ac044e0600a750851c00b61b2a032c
theorem zk_cL_step : zkd cL_step.data.toList kn_cL_step = true := by decide +kernel
theorem zn_cL_step : cL_step.data.toList.length = 17 := by decide +kernel
theorem dL_step_0 : decode cL_step 0 = .ok (.aload_n 2, 1) := zo_44 (zkb zk_cL_step zn_cL_step rfl)
theorem dL_step_1 : decode cL_step 1 = .ok (.iconst 0, 1) := zo_3 (zkb zk_cL_step zn_cL_step rfl)
theorem dL_step_2 : decode cL_step 2 = .ok (.aload_n 0, 1) := zo_42 (zkb zk_cL_step zn_cL_step rfl)
theorem dL_step_3 : decode cL_step 3 = .ok (.iload_n 1, 1) := zo_27 (zkb zk_cL_step zn_cL_step rfl)
theorem dL_step_4 : decode cL_step 4 = .ok (.invokevirtual 28, 3) := zo_182 (b1 := 0) (b2 := 28) (zkb3 zk_cL_step zn_cL_step rfl) rfl
theorem dL_step_7 : decode cL_step 7 = .ok (.i2l, 1) := zo_133 (zkb zk_cL_step zn_cL_step rfl)
theorem dL_step_8 : decode cL_step 8 = .ok (.lastore, 1) := zo_80 (zkb zk_cL_step zn_cL_step rfl)
theorem dL_step_9 : decode cL_step 9 = .ok (.goto 6, 3) := zo_167 (b1 := 0) (b2 := 6) (zkb3 zk_cL_step zn_cL_step rfl) rfl
theorem dL_step_12 : decode cL_step 12 = .ok (.astore_n 3, 1) := zo_78 (zkb zk_cL_step zn_cL_step rfl)
theorem dL_step_13 : decode cL_step 13 = .ok (.iconst 1, 1) := zo_4 (zkb zk_cL_step zn_cL_step rfl)
theorem dL_step_14 : decode cL_step 14 = .ok (.ireturn, 1) := zo_172 (zkb zk_cL_step zn_cL_step rfl)
theorem dL_step_15 : decode cL_step 15 = .ok (.iconst 0, 1) := zo_3 (zkb zk_cL_step zn_cL_step rfl)
theorem dL_step_16 : decode cL_step 16 = .ok (.ireturn, 1) := zo_172 (zkb zk_cL_step zn_cL_step rfl)
noncomputable def fL_step (o : Nat → Int64) (σ : zSt) (x1 : Int32) : Option (zHs × Int32) := zbr (fX11_step σ x1) (zhi o (zh1 1))
set_option maxRecDepth 20000 in
theorem cL_step_met (st : Nat → Nat) (l : Launch) (hst : l.stackTraces = false) (D : va_G) (ad : Nat → Nat) (cy : Nat → ClassId) (ao : Nat) (co : ClassId) (o : Nat → Int64) (σ : zSt) (x1 : Int32) (res : zHs × Int32) (hf : fL_step o σ x1 = some res) (sz : Nat) : zH st l yL_step wzL_step rmL_step [.ref (ad 0), .int x1, .ref ao] D ((co, .long) :: tC cy) (fun x : zHs => zHo ao co x.1 ++ wC ad cy x.2) sz (o, σ) res := by
  obtain ⟨r, hr, hf⟩ := zbr_use hf
  refine zH.of (cc := cL_step) (maxL := 4) (by decide) rfl (Nat.le_of_ble_eq_true rfl) (fun p e s m args below meth c hC hE A hI ls hl => ?_)
  have hx := hC.1
  have hb := hC.2.1
  have hK : va_K D vwCl (tC cy) s := hI.1.sub [1, 2, 3, 4, 5, 6, 7, 8, 9, 10, 11, 12, 13, 14, 15, 16, 17, 18, 19, 20, 21, 22, 23, 24, 25, 26, 27, 28, 29, 30, 31, 32, 33, 34, 35, 36, 37] rfl
  refine lv_aload_n hx hb dL_step_0 rfl (lv_at hl 2 rfl) ?_
  refine lv_iconst (v := 0) hx hb dL_step_1 (by decide) ?_
  refine lv_aload_n hx hb dL_step_2 rfl (lv_at hl 0 rfl) ?_
  refine lv_iload_n hx hb dL_step_3 rfl (lv_at hl 1 rfl) ?_
  refine z_hcalli (u := zHo ao co o) (w := wC ad cy) (As := [.int x1]) (rest := [.int 0, .ref ao]) hC hI hK (cX11_step_met st l hst D ad cy σ x1 r hr) (zgV zw18_5 zw18_6 zw18_7 zw1_2 zw18_8) rfl ⟨rfl, rfl⟩ 1 hdX11_step ⟨Nat.le_of_ble_eq_true rfl, Nat.le_of_ble_eq_true rfl⟩ rfl rfl (wC_e0 ad cy σ) rfl hl rfl (Nat.le_of_ble_eq_true rfl) dL_step_4 ⟨Nat.le_of_ble_eq_true rfl, Nat.le_of_ble_eq_true rfl⟩ (fun k σ1 hq ce q9 H locs hI h1 h2 h3 => ?_) (fun v σ1 hq H locs hI => ?_)
  · subst hq
    obtain ⟨c1, hg⟩ := zh1_1 hf
    subst c1
    refine z_catch1 (x := ⟨0, 9, 12, 13⟩) (hp := 12) hC hI hE 1 rfl rfl (by decide) (List.mem_cons_of_mem _ zw10_20) h1 h2 h3 rfl ?_
    refine lv_astore_n hx hb dL_step_12 rfl hl (by decide) rfl (fun ls hl => ?_)
    refine lv_iconst (v := 1) hx hb dL_step_13 (by decide) ?_
    exact z_hret (w := fun x : zHs => zHo ao co x.1 ++ wC ad cy x.2) (x := (o, σ1)) hC hI hg (Nat.le_of_ble_eq_true rfl) (Nat.le_of_ble_eq_true rfl) dL_step_14
  · subst hq
    refine lv_i2l hx hb dL_step_7 rfl ?_
    refine z_last (w1 := zHo ao co (vp_updL o 0 v.toInt64) ++ wC ad cy σ1) hC hI 0 0 rfl rfl (by decide) rfl dL_step_8 (fun H locs hI => ?_)
    refine lv_goto (tgt := 15) hx hb dL_step_9 (by decide) ?_
    refine lv_iconst (v := 0) hx hb dL_step_15 (by decide) ?_
    exact z_hret (w := fun x : zHs => zHo ao co x.1 ++ wC ad cy x.2) (x := (vp_updL o 0 v.toInt64, σ1)) hC hI (Option.some.inj hf) (Nat.le_of_ble_eq_true rfl) (Nat.le_of_ble_eq_true rfl) dL_step_16
theorem hdL_step : yL_step.cls ≠ "java/lang/invoke/MethodHandle" ∧ yL_step.cls ≠ "java/lang/invoke/VarHandle" ∧ (parseMethodDescriptor yL_step.desc).map (fun d => d.parameters.length) = some 3 := by decide +kernel
noncomputable def rmL_picture : Room := { frames := 8, cells := 1, slots := 6, locals := 195 }
noncomputable def wzL_picture : List Cond := .codeWith yL_picture cL_picture 4 (some .int) [(0, 9, 12, 13)] :: wsL_law
noncomputable def kn_cL_picture : Nat := 0xac03ac044e0600a750851f00b61b2a032c
theorem zk_cL_picture : zkd cL_picture.data.toList kn_cL_picture = true := by decide +kernel
theorem zn_cL_picture : cL_picture.data.toList.length = 17 := by decide +kernel
theorem dL_picture_0 : decode cL_picture 0 = .ok (.aload_n 2, 1) := zo_44 (zkb zk_cL_picture zn_cL_picture rfl)
theorem dL_picture_1 : decode cL_picture 1 = .ok (.iconst 0, 1) := zo_3 (zkb zk_cL_picture zn_cL_picture rfl)
theorem dL_picture_2 : decode cL_picture 2 = .ok (.aload_n 0, 1) := zo_42 (zkb zk_cL_picture zn_cL_picture rfl)
theorem dL_picture_3 : decode cL_picture 3 = .ok (.iload_n 1, 1) := zo_27 (zkb zk_cL_picture zn_cL_picture rfl)
theorem dL_picture_4 : decode cL_picture 4 = .ok (.invokevirtual 31, 3) := zo_182 (b1 := 0) (b2 := 31) (zkb3 zk_cL_picture zn_cL_picture rfl) rfl
theorem dL_picture_7 : decode cL_picture 7 = .ok (.i2l, 1) := zo_133 (zkb zk_cL_picture zn_cL_picture rfl)
theorem dL_picture_8 : decode cL_picture 8 = .ok (.lastore, 1) := zo_80 (zkb zk_cL_picture zn_cL_picture rfl)
theorem dL_picture_9 : decode cL_picture 9 = .ok (.goto 6, 3) := zo_167 (b1 := 0) (b2 := 6) (zkb3 zk_cL_picture zn_cL_picture rfl) rfl
theorem dL_picture_12 : decode cL_picture 12 = .ok (.astore_n 3, 1) := zo_78 (zkb zk_cL_picture zn_cL_picture rfl)
theorem dL_picture_13 : decode cL_picture 13 = .ok (.iconst 1, 1) := zo_4 (zkb zk_cL_picture zn_cL_picture rfl)
theorem dL_picture_14 : decode cL_picture 14 = .ok (.ireturn, 1) := zo_172 (zkb zk_cL_picture zn_cL_picture rfl)
theorem dL_picture_15 : decode cL_picture 15 = .ok (.iconst 0, 1) := zo_3 (zkb zk_cL_picture zn_cL_picture rfl)
theorem dL_picture_16 : decode cL_picture 16 = .ok (.ireturn, 1) := zo_172 (zkb zk_cL_picture zn_cL_picture rfl)
noncomputable def fL_picture (o : Nat → Int64) (σ : zSt) (x1 : Int32) : Option (zHs × Int32) := zbr (fX11_picture σ x1) (zhi o (zh1 1))
set_option maxRecDepth 20000 in
theorem cL_picture_met (st : Nat → Nat) (l : Launch) (hst : l.stackTraces = false) (D : va_G) (ad : Nat → Nat) (cy : Nat → ClassId) (ao : Nat) (co : ClassId) (o : Nat → Int64) (σ : zSt) (x1 : Int32) (res : zHs × Int32) (hf : fL_picture o σ x1 = some res) (sz : Nat) : zH st l yL_picture wzL_picture rmL_picture [.ref (ad 0), .int x1, .ref ao] D ((co, .long) :: tC cy) (fun x : zHs => zHo ao co x.1 ++ wC ad cy x.2) sz (o, σ) res := by
  obtain ⟨r, hr, hf⟩ := zbr_use hf
  refine zH.of (cc := cL_picture) (maxL := 4) (by decide) rfl (Nat.le_of_ble_eq_true rfl) (fun p e s m args below meth c hC hE A hI ls hl => ?_)
  have hx := hC.1
  have hb := hC.2.1
  have hK : va_K D vwCl (tC cy) s := hI.1.sub [1, 2, 3, 4, 5, 6, 7, 8, 9, 10, 11, 12, 13, 14, 15, 16, 17, 18, 19, 20, 21, 22, 23, 24, 25, 26, 27, 28, 29, 30, 31, 32, 33, 34, 35, 36, 37] rfl
  refine lv_aload_n hx hb dL_picture_0 rfl (lv_at hl 2 rfl) ?_
  refine lv_iconst (v := 0) hx hb dL_picture_1 (by decide) ?_
  refine lv_aload_n hx hb dL_picture_2 rfl (lv_at hl 0 rfl) ?_
  refine lv_iload_n hx hb dL_picture_3 rfl (lv_at hl 1 rfl) ?_
  refine z_hcalli (u := zHo ao co o) (w := wC ad cy) (As := [.int x1]) (rest := [.int 0, .ref ao]) hC hI hK (cX11_picture_met st l hst D ad cy σ x1 r hr) (zgV zw65_21 zw65_22 zw65_23 zw1_2 zw66_0) rfl ⟨rfl, rfl⟩ 1 hdX11_picture ⟨Nat.le_of_ble_eq_true rfl, Nat.le_of_ble_eq_true rfl⟩ rfl rfl (wC_e0 ad cy σ) rfl hl rfl (Nat.le_of_ble_eq_true rfl) dL_picture_4 ⟨Nat.le_of_ble_eq_true rfl, Nat.le_of_ble_eq_true rfl⟩ (fun k σ1 hq ce q9 H locs hI h1 h2 h3 => ?_) (fun v σ1 hq H locs hI => ?_)
  · subst hq
    obtain ⟨c1, hg⟩ := zh1_1 hf
    subst c1
    refine z_catch1 (x := ⟨0, 9, 12, 13⟩) (hp := 12) hC hI hE 1 rfl rfl (by decide) (List.mem_cons_of_mem _ zw10_20) h1 h2 h3 rfl ?_
    refine lv_astore_n hx hb dL_picture_12 rfl hl (by decide) rfl (fun ls hl => ?_)
    refine lv_iconst (v := 1) hx hb dL_picture_13 (by decide) ?_
    exact z_hret (w := fun x : zHs => zHo ao co x.1 ++ wC ad cy x.2) (x := (o, σ1)) hC hI hg (Nat.le_of_ble_eq_true rfl) (Nat.le_of_ble_eq_true rfl) dL_picture_14
  · subst hq
    refine lv_i2l hx hb dL_picture_7 rfl ?_
    refine z_last (w1 := zHo ao co (vp_updL o 0 v.toInt64) ++ wC ad cy σ1) hC hI 0 0 rfl rfl (by decide) rfl dL_picture_8 (fun H locs hI => ?_)
    refine lv_goto (tgt := 15) hx hb dL_picture_9 (by decide) ?_
    refine lv_iconst (v := 0) hx hb dL_picture_15 (by decide) ?_
    exact z_hret (w := fun x : zHs => zHo ao co x.1 ++ wC ad cy x.2) (x := (vp_updL o 0 v.toInt64, σ1)) hC hI (Option.some.inj hf) (Nat.le_of_ble_eq_true rfl) (Nat.le_of_ble_eq_true rfl) dL_picture_16
theorem hdL_picture : yL_picture.cls ≠ "java/lang/invoke/MethodHandle" ∧ yL_picture.cls ≠ "java/lang/invoke/VarHandle" ∧ (parseMethodDescriptor yL_picture.desc).map (fun d => d.parameters.length) = some 3 := by decide +kernel
noncomputable def rmL_press : Room := { frames := 7, cells := 1, slots := 6, locals := 122 }
noncomputable def wzL_press : List Cond := .codeWith yL_press cL_press 4 (some .int) [(0, 6, 9, 13)] :: wsL_law
noncomputable def kn_cL_press : Nat := 0xac03ac044e0600a72200b61c1b2a
theorem zk_cL_press : zkd cL_press.data.toList kn_cL_press = true := by decide +kernel
theorem zn_cL_press : cL_press.data.toList.length = 14 := by decide +kernel
theorem dL_press_0 : decode cL_press 0 = .ok (.aload_n 0, 1) := zo_42 (zkb zk_cL_press zn_cL_press rfl)
theorem dL_press_1 : decode cL_press 1 = .ok (.iload_n 1, 1) := zo_27 (zkb zk_cL_press zn_cL_press rfl)
theorem dL_press_2 : decode cL_press 2 = .ok (.iload_n 2, 1) := zo_28 (zkb zk_cL_press zn_cL_press rfl)
theorem dL_press_3 : decode cL_press 3 = .ok (.invokevirtual 34, 3) := zo_182 (b1 := 0) (b2 := 34) (zkb3 zk_cL_press zn_cL_press rfl) rfl
theorem dL_press_6 : decode cL_press 6 = .ok (.goto 6, 3) := zo_167 (b1 := 0) (b2 := 6) (zkb3 zk_cL_press zn_cL_press rfl) rfl
theorem dL_press_9 : decode cL_press 9 = .ok (.astore_n 3, 1) := zo_78 (zkb zk_cL_press zn_cL_press rfl)
theorem dL_press_10 : decode cL_press 10 = .ok (.iconst 1, 1) := zo_4 (zkb zk_cL_press zn_cL_press rfl)
theorem dL_press_11 : decode cL_press 11 = .ok (.ireturn, 1) := zo_172 (zkb zk_cL_press zn_cL_press rfl)
theorem dL_press_12 : decode cL_press 12 = .ok (.iconst 0, 1) := zo_3 (zkb zk_cL_press zn_cL_press rfl)
theorem dL_press_13 : decode cL_press 13 = .ok (.ireturn, 1) := zo_172 (zkb zk_cL_press zn_cL_press rfl)
noncomputable def fL_press (σ : zSt) (x1 : Int32) (x2 : Int32) : Option (zSt × Int32) := zbr (fX11_press σ x1 x2) (zhu (zh1 1))
set_option maxRecDepth 20000 in
theorem cL_press_met (st : Nat → Nat) (l : Launch) (hst : l.stackTraces = false) (D : va_G) (ad : Nat → Nat) (cy : Nat → ClassId) (σ : zSt) (x1 : Int32) (x2 : Int32) (res : zSt × Int32) (hf : fL_press σ x1 x2 = some res) (sz : Nat) : zH st l yL_press wzL_press rmL_press [.ref (ad 0), .int x1, .int x2] D (tC cy) (wC ad cy) sz σ res := by
  obtain ⟨r, hr, hf⟩ := zbr_use hf
  refine zH.of (cc := cL_press) (maxL := 4) (by decide) rfl (Nat.le_of_ble_eq_true rfl) (fun p e s m args below meth c hC hE A hI ls hl => ?_)
  have hx := hC.1
  have hb := hC.2.1
  have hK : va_K D vwCl (tC cy) s := hI.1
  refine lv_aload_n hx hb dL_press_0 rfl (lv_at hl 0 rfl) ?_
  refine lv_iload_n hx hb dL_press_1 rfl (lv_at hl 1 rfl) ?_
  refine lv_iload_n hx hb dL_press_2 rfl (lv_at hl 2 rfl) ?_
  refine z_hcallu (u := ([] : va_W)) (w := wC ad cy) (As := [.int x1, .int x2]) (rest := []) hC hI hK (cX11_press_met st l hst D ad cy σ x1 x2 r hr) (zgV zw67_6 zw67_7 zw67_8 zw1_2 zw67_9) rfl ⟨rfl, rfl⟩ 2 hdX11_press ⟨Nat.le_of_ble_eq_true rfl, Nat.le_of_ble_eq_true rfl⟩ rfl rfl (wC_e0 ad cy σ) rfl hl rfl (Nat.le_of_ble_eq_true rfl) dL_press_3 ⟨Nat.le_of_ble_eq_true rfl, Nat.le_of_ble_eq_true rfl⟩ (fun k σ1 hq ce q9 H locs hI h1 h2 h3 => ?_) (fun σ1 hq H locs hI => ?_)
  · subst hq
    obtain ⟨c1, hg⟩ := zh1_1 hf
    subst c1
    refine z_catch1 (x := ⟨0, 6, 9, 13⟩) (hp := 9) hC hI hE 1 rfl rfl (by decide) (List.mem_cons_of_mem _ zw10_20) h1 h2 h3 rfl ?_
    refine lv_astore_n hx hb dL_press_9 rfl hl (by decide) rfl (fun ls hl => ?_)
    refine lv_iconst (v := 1) hx hb dL_press_10 (by decide) ?_
    exact z_hret (w := wC ad cy) (x := σ1) hC hI hg (Nat.le_of_ble_eq_true rfl) (Nat.le_of_ble_eq_true rfl) dL_press_11
  · subst hq
    refine lv_goto (tgt := 12) hx hb dL_press_6 (by decide) ?_
    refine lv_iconst (v := 0) hx hb dL_press_12 (by decide) ?_
    exact z_hret (w := wC ad cy) (x := σ1) hC hI (Option.some.inj hf) (Nat.le_of_ble_eq_true rfl) (Nat.le_of_ble_eq_true rfl) dL_press_13
theorem hdL_press : yL_press.cls ≠ "java/lang/invoke/MethodHandle" ∧ yL_press.cls ≠ "java/lang/invoke/VarHandle" ∧ (parseMethodDescriptor yL_press.desc).map (fun d => d.parameters.length) = some 3 := by decide +kernel
noncomputable def rmL_line : Room := { frames := 7, cells := 1, slots := 6, locals := 122 }
noncomputable def wzL_line : List Cond := .codeWith yL_line cL_line 4 (some .int) [(0, 6, 9, 13)] :: wsL_law
noncomputable def kn_cL_line : Nat := 0xac03ac044e0600a72600b61c1b2a
theorem zk_cL_line : zkd cL_line.data.toList kn_cL_line = true := by decide +kernel
theorem zn_cL_line : cL_line.data.toList.length = 14 := by decide +kernel
theorem dL_line_0 : decode cL_line 0 = .ok (.aload_n 0, 1) := zo_42 (zkb zk_cL_line zn_cL_line rfl)
theorem dL_line_1 : decode cL_line 1 = .ok (.iload_n 1, 1) := zo_27 (zkb zk_cL_line zn_cL_line rfl)
theorem dL_line_2 : decode cL_line 2 = .ok (.iload_n 2, 1) := zo_28 (zkb zk_cL_line zn_cL_line rfl)
theorem dL_line_3 : decode cL_line 3 = .ok (.invokevirtual 38, 3) := zo_182 (b1 := 0) (b2 := 38) (zkb3 zk_cL_line zn_cL_line rfl) rfl
theorem dL_line_6 : decode cL_line 6 = .ok (.goto 6, 3) := zo_167 (b1 := 0) (b2 := 6) (zkb3 zk_cL_line zn_cL_line rfl) rfl
theorem dL_line_9 : decode cL_line 9 = .ok (.astore_n 3, 1) := zo_78 (zkb zk_cL_line zn_cL_line rfl)
theorem dL_line_10 : decode cL_line 10 = .ok (.iconst 1, 1) := zo_4 (zkb zk_cL_line zn_cL_line rfl)
theorem dL_line_11 : decode cL_line 11 = .ok (.ireturn, 1) := zo_172 (zkb zk_cL_line zn_cL_line rfl)
theorem dL_line_12 : decode cL_line 12 = .ok (.iconst 0, 1) := zo_3 (zkb zk_cL_line zn_cL_line rfl)
theorem dL_line_13 : decode cL_line 13 = .ok (.ireturn, 1) := zo_172 (zkb zk_cL_line zn_cL_line rfl)
noncomputable def fL_line (σ : zSt) (x1 : Int32) (x2 : Int32) : Option (zSt × Int32) := zbr (fX11_line σ x1 x2) (zhu (zh1 1))
set_option maxRecDepth 20000 in
theorem cL_line_met (st : Nat → Nat) (l : Launch) (hst : l.stackTraces = false) (D : va_G) (ad : Nat → Nat) (cy : Nat → ClassId) (σ : zSt) (x1 : Int32) (x2 : Int32) (res : zSt × Int32) (hf : fL_line σ x1 x2 = some res) (sz : Nat) : zH st l yL_line wzL_line rmL_line [.ref (ad 0), .int x1, .int x2] D (tC cy) (wC ad cy) sz σ res := by
  obtain ⟨r, hr, hf⟩ := zbr_use hf
  refine zH.of (cc := cL_line) (maxL := 4) (by decide) rfl (Nat.le_of_ble_eq_true rfl) (fun p e s m args below meth c hC hE A hI ls hl => ?_)
  have hx := hC.1
  have hb := hC.2.1
  have hK : va_K D vwCl (tC cy) s := hI.1
  refine lv_aload_n hx hb dL_line_0 rfl (lv_at hl 0 rfl) ?_
  refine lv_iload_n hx hb dL_line_1 rfl (lv_at hl 1 rfl) ?_
  refine lv_iload_n hx hb dL_line_2 rfl (lv_at hl 2 rfl) ?_
  refine z_hcallu (u := ([] : va_W)) (w := wC ad cy) (As := [.int x1, .int x2]) (rest := []) hC hI hK (cX11_line_met st l hst D ad cy σ x1 x2 r hr) (zgV zw68_10 zw68_11 zw68_12 zw1_2 zw68_13) rfl ⟨rfl, rfl⟩ 2 hdX11_line ⟨Nat.le_of_ble_eq_true rfl, Nat.le_of_ble_eq_true rfl⟩ rfl rfl (wC_e0 ad cy σ) rfl hl rfl (Nat.le_of_ble_eq_true rfl) dL_line_3 ⟨Nat.le_of_ble_eq_true rfl, Nat.le_of_ble_eq_true rfl⟩ (fun k σ1 hq ce q9 H locs hI h1 h2 h3 => ?_) (fun σ1 hq H locs hI => ?_)
  · subst hq
    obtain ⟨c1, hg⟩ := zh1_1 hf
    subst c1
    refine z_catch1 (x := ⟨0, 6, 9, 13⟩) (hp := 9) hC hI hE 1 rfl rfl (by decide) (List.mem_cons_of_mem _ zw10_20) h1 h2 h3 rfl ?_
    refine lv_astore_n hx hb dL_line_9 rfl hl (by decide) rfl (fun ls hl => ?_)
    refine lv_iconst (v := 1) hx hb dL_line_10 (by decide) ?_
    exact z_hret (w := wC ad cy) (x := σ1) hC hI hg (Nat.le_of_ble_eq_true rfl) (Nat.le_of_ble_eq_true rfl) dL_line_11
  · subst hq
    refine lv_goto (tgt := 12) hx hb dL_line_6 (by decide) ?_
    refine lv_iconst (v := 0) hx hb dL_line_12 (by decide) ?_
    exact z_hret (w := wC ad cy) (x := σ1) hC hI (Option.some.inj hf) (Nat.le_of_ble_eq_true rfl) (Nat.le_of_ble_eq_true rfl) dL_line_13
theorem hdL_line : yL_line.cls ≠ "java/lang/invoke/MethodHandle" ∧ yL_line.cls ≠ "java/lang/invoke/VarHandle" ∧ (parseMethodDescriptor yL_line.desc).map (fun d => d.parameters.length) = some 3 := by decide +kernel
noncomputable def rmL_plan : Room := { frames := 7, cells := 1, slots := 6, locals := 123 }
noncomputable def wzL_plan : List Cond := .codeWith yL_plan cL_plan 6 (some .int) [(0, 12, 15, 13), (0, 12, 19, 15)] :: wsL_law
noncomputable def kn_cL_plan : Nat := 0xac03ac05053aac04053a0b00a750852a00b61d1c1b2a030419
theorem zk_cL_plan : zkd cL_plan.data.toList kn_cL_plan = true := by decide +kernel
theorem zn_cL_plan : cL_plan.data.toList.length = 25 := by decide +kernel
theorem dL_plan_0 : decode cL_plan 0 = .ok (.aload 4, 2) := zo_25 (b1 := 4) (zkb2 zk_cL_plan zn_cL_plan rfl)
theorem dL_plan_2 : decode cL_plan 2 = .ok (.iconst 0, 1) := zo_3 (zkb zk_cL_plan zn_cL_plan rfl)
theorem dL_plan_3 : decode cL_plan 3 = .ok (.aload_n 0, 1) := zo_42 (zkb zk_cL_plan zn_cL_plan rfl)
theorem dL_plan_4 : decode cL_plan 4 = .ok (.iload_n 1, 1) := zo_27 (zkb zk_cL_plan zn_cL_plan rfl)
theorem dL_plan_5 : decode cL_plan 5 = .ok (.iload_n 2, 1) := zo_28 (zkb zk_cL_plan zn_cL_plan rfl)
theorem dL_plan_6 : decode cL_plan 6 = .ok (.iload_n 3, 1) := zo_29 (zkb zk_cL_plan zn_cL_plan rfl)
theorem dL_plan_7 : decode cL_plan 7 = .ok (.invokevirtual 42, 3) := zo_182 (b1 := 0) (b2 := 42) (zkb3 zk_cL_plan zn_cL_plan rfl) rfl
theorem dL_plan_10 : decode cL_plan 10 = .ok (.i2l, 1) := zo_133 (zkb zk_cL_plan zn_cL_plan rfl)
theorem dL_plan_11 : decode cL_plan 11 = .ok (.lastore, 1) := zo_80 (zkb zk_cL_plan zn_cL_plan rfl)
theorem dL_plan_12 : decode cL_plan 12 = .ok (.goto 11, 3) := zo_167 (b1 := 0) (b2 := 11) (zkb3 zk_cL_plan zn_cL_plan rfl) rfl
theorem dL_plan_15 : decode cL_plan 15 = .ok (.astore 5, 2) := zo_58 (b1 := 5) (zkb2 zk_cL_plan zn_cL_plan rfl)
theorem dL_plan_17 : decode cL_plan 17 = .ok (.iconst 1, 1) := zo_4 (zkb zk_cL_plan zn_cL_plan rfl)
theorem dL_plan_18 : decode cL_plan 18 = .ok (.ireturn, 1) := zo_172 (zkb zk_cL_plan zn_cL_plan rfl)
theorem dL_plan_19 : decode cL_plan 19 = .ok (.astore 5, 2) := zo_58 (b1 := 5) (zkb2 zk_cL_plan zn_cL_plan rfl)
theorem dL_plan_21 : decode cL_plan 21 = .ok (.iconst 2, 1) := zo_5 (zkb zk_cL_plan zn_cL_plan rfl)
theorem dL_plan_22 : decode cL_plan 22 = .ok (.ireturn, 1) := zo_172 (zkb zk_cL_plan zn_cL_plan rfl)
theorem dL_plan_23 : decode cL_plan 23 = .ok (.iconst 0, 1) := zo_3 (zkb zk_cL_plan zn_cL_plan rfl)
theorem dL_plan_24 : decode cL_plan 24 = .ok (.ireturn, 1) := zo_172 (zkb zk_cL_plan zn_cL_plan rfl)
noncomputable def fL_plan (o : Nat → Int64) (σ : zSt) (x1 : Int32) (x2 : Int32) (x3 : Int32) : Option (zHs × Int32) := zbr (fX11_plan σ x1 x2 x3) (zhi o zh2)
set_option maxRecDepth 20000 in
theorem cL_plan_met (st : Nat → Nat) (l : Launch) (hst : l.stackTraces = false) (D : va_G) (ad : Nat → Nat) (cy : Nat → ClassId) (ao : Nat) (co : ClassId) (o : Nat → Int64) (σ : zSt) (x1 : Int32) (x2 : Int32) (x3 : Int32) (res : zHs × Int32) (hf : fL_plan o σ x1 x2 x3 = some res) (sz : Nat) : zH st l yL_plan wzL_plan rmL_plan [.ref (ad 0), .int x1, .int x2, .int x3, .ref ao] D ((co, .long) :: tC cy) (fun x : zHs => zHo ao co x.1 ++ wC ad cy x.2) sz (o, σ) res := by
  obtain ⟨r, hr, hf⟩ := zbr_use hf
  refine zH.of (cc := cL_plan) (maxL := 6) (by decide) rfl (Nat.le_of_ble_eq_true rfl) (fun p e s m args below meth c hC hE A hI ls hl => ?_)
  have hx := hC.1
  have hb := hC.2.1
  have hK : va_K D vwCl (tC cy) s := hI.1.sub [1, 2, 3, 4, 5, 6, 7, 8, 9, 10, 11, 12, 13, 14, 15, 16, 17, 18, 19, 20, 21, 22, 23, 24, 25, 26, 27, 28, 29, 30, 31, 32, 33, 34, 35, 36, 37] rfl
  refine lv_aload hx hb dL_plan_0 (lv_at hl 4 rfl) ?_
  refine lv_iconst (v := 0) hx hb dL_plan_2 (by decide) ?_
  refine lv_aload_n hx hb dL_plan_3 rfl (lv_at hl 0 rfl) ?_
  refine lv_iload_n hx hb dL_plan_4 rfl (lv_at hl 1 rfl) ?_
  refine lv_iload_n hx hb dL_plan_5 rfl (lv_at hl 2 rfl) ?_
  refine lv_iload_n hx hb dL_plan_6 rfl (lv_at hl 3 rfl) ?_
  refine z_hcalli (u := zHo ao co o) (w := wC ad cy) (As := [.int x1, .int x2, .int x3]) (rest := [.int 0, .ref ao]) hC hI hK (cX11_plan_met st l hst D ad cy σ x1 x2 x3 r hr) (zgV zw69_1 zw69_2 zw69_3 zw1_2 zw69_4) rfl ⟨rfl, rfl⟩ 3 hdX11_plan ⟨Nat.le_of_ble_eq_true rfl, Nat.le_of_ble_eq_true rfl⟩ rfl rfl (wC_e0 ad cy σ) rfl hl rfl (Nat.le_of_ble_eq_true rfl) dL_plan_7 ⟨Nat.le_of_ble_eq_true rfl, Nat.le_of_ble_eq_true rfl⟩ (fun k σ1 hq ce q9 H locs hI h1 h2 h3 => ?_) (fun v σ1 hq H locs hI => ?_)
  · subst hq
    by_cases c1 : k = 1
    · have hg := zh2_1 hf c1
      subst c1
      refine z_catch1 (x := ⟨0, 12, 15, 13⟩) (hp := 15) hC hI hE 1 rfl rfl (by decide) (List.mem_cons_of_mem _ zw10_20) h1 h2 h3 rfl ?_
      refine lv_astore hx hb dL_plan_15 hl (by decide) rfl (fun ls hl => ?_)
      refine lv_iconst (v := 1) hx hb dL_plan_17 (by decide) ?_
      exact z_hret (w := fun x : zHs => zHo ao co x.1 ++ wC ad cy x.2) (x := (o, σ1)) hC hI hg (Nat.le_of_ble_eq_true rfl) (Nat.le_of_ble_eq_true rfl) dL_plan_18
    · obtain ⟨c2, hg⟩ := zh2_2 hf c1
      subst c2
      refine z_catch2 (x := ⟨0, 12, 19, 15⟩) (x1 := ⟨0, 12, 15, 13⟩) (hp := 19) hC hI hE rfl (by decide) (List.mem_cons_of_mem _ zw10_20) rfl (by decide) (List.mem_cons_of_mem _ zw82_15) h1 h2 h3 rfl ?_
      refine lv_astore hx hb dL_plan_19 hl (by decide) rfl (fun ls hl => ?_)
      refine lv_iconst (v := 2) hx hb dL_plan_21 (by decide) ?_
      exact z_hret (w := fun x : zHs => zHo ao co x.1 ++ wC ad cy x.2) (x := (o, σ1)) hC hI hg (Nat.le_of_ble_eq_true rfl) (Nat.le_of_ble_eq_true rfl) dL_plan_22
  · subst hq
    refine lv_i2l hx hb dL_plan_10 rfl ?_
    refine z_last (w1 := zHo ao co (vp_updL o 0 v.toInt64) ++ wC ad cy σ1) hC hI 0 0 rfl rfl (by decide) rfl dL_plan_11 (fun H locs hI => ?_)
    refine lv_goto (tgt := 23) hx hb dL_plan_12 (by decide) ?_
    refine lv_iconst (v := 0) hx hb dL_plan_23 (by decide) ?_
    exact z_hret (w := fun x : zHs => zHo ao co x.1 ++ wC ad cy x.2) (x := (vp_updL o 0 v.toInt64, σ1)) hC hI (Option.some.inj hf) (Nat.le_of_ble_eq_true rfl) (Nat.le_of_ble_eq_true rfl) dL_plan_24
theorem hdL_plan : yL_plan.cls ≠ "java/lang/invoke/MethodHandle" ∧ yL_plan.cls ≠ "java/lang/invoke/VarHandle" ∧ (parseMethodDescriptor yL_plan.desc).map (fun d => d.parameters.length) = some 5 := by decide +kernel
noncomputable def rmL_text : Room := { frames := 7, cells := 1, slots := 6, locals := 121 }
noncomputable def wzL_text : List Cond := .codeWith yL_text cL_text 4 (some .int) [(0, 8, 11, 50)] :: wsL_law
noncomputable def kn_cL_text : Nat := 0xac03ac044e0600a7502e00b61b2a032c
theorem zk_cL_text : zkd cL_text.data.toList kn_cL_text = true := by decide +kernel
theorem zn_cL_text : cL_text.data.toList.length = 16 := by decide +kernel
theorem dL_text_0 : decode cL_text 0 = .ok (.aload_n 2, 1) := zo_44 (zkb zk_cL_text zn_cL_text rfl)
theorem dL_text_1 : decode cL_text 1 = .ok (.iconst 0, 1) := zo_3 (zkb zk_cL_text zn_cL_text rfl)
theorem dL_text_2 : decode cL_text 2 = .ok (.aload_n 0, 1) := zo_42 (zkb zk_cL_text zn_cL_text rfl)
theorem dL_text_3 : decode cL_text 3 = .ok (.iload_n 1, 1) := zo_27 (zkb zk_cL_text zn_cL_text rfl)
theorem dL_text_4 : decode cL_text 4 = .ok (.invokevirtual 46, 3) := zo_182 (b1 := 0) (b2 := 46) (zkb3 zk_cL_text zn_cL_text rfl) rfl
theorem dL_text_7 : decode cL_text 7 = .ok (.lastore, 1) := zo_80 (zkb zk_cL_text zn_cL_text rfl)
theorem dL_text_8 : decode cL_text 8 = .ok (.goto 6, 3) := zo_167 (b1 := 0) (b2 := 6) (zkb3 zk_cL_text zn_cL_text rfl) rfl
theorem dL_text_11 : decode cL_text 11 = .ok (.astore_n 3, 1) := zo_78 (zkb zk_cL_text zn_cL_text rfl)
theorem dL_text_12 : decode cL_text 12 = .ok (.iconst 1, 1) := zo_4 (zkb zk_cL_text zn_cL_text rfl)
theorem dL_text_13 : decode cL_text 13 = .ok (.ireturn, 1) := zo_172 (zkb zk_cL_text zn_cL_text rfl)
theorem dL_text_14 : decode cL_text 14 = .ok (.iconst 0, 1) := zo_3 (zkb zk_cL_text zn_cL_text rfl)
theorem dL_text_15 : decode cL_text 15 = .ok (.ireturn, 1) := zo_172 (zkb zk_cL_text zn_cL_text rfl)
noncomputable def fL_text (o : Nat → Int64) (σ : zSt) (x1 : Int32) : Option (zHs × Int32) := zbr (fX11_text σ x1) (zhl o (zh1 3))
set_option maxRecDepth 20000 in
theorem cL_text_met (st : Nat → Nat) (l : Launch) (hst : l.stackTraces = false) (D : va_G) (ad : Nat → Nat) (cy : Nat → ClassId) (ao : Nat) (co : ClassId) (o : Nat → Int64) (σ : zSt) (x1 : Int32) (res : zHs × Int32) (hf : fL_text o σ x1 = some res) (sz : Nat) : zH st l yL_text wzL_text rmL_text [.ref (ad 0), .int x1, .ref ao] D ((co, .long) :: tC cy) (fun x : zHs => zHo ao co x.1 ++ wC ad cy x.2) sz (o, σ) res := by
  obtain ⟨r, hr, hf⟩ := zbr_use hf
  refine zH.of (cc := cL_text) (maxL := 4) (by decide) rfl (Nat.le_of_ble_eq_true rfl) (fun p e s m args below meth c hC hE A hI ls hl => ?_)
  have hx := hC.1
  have hb := hC.2.1
  have hK : va_K D vwCl (tC cy) s := hI.1.sub [1, 2, 3, 4, 5, 6, 7, 8, 9, 10, 11, 12, 13, 14, 15, 16, 17, 18, 19, 20, 21, 22, 23, 24, 25, 26, 27, 28, 29, 30, 31, 32, 33, 34, 35, 36, 37] rfl
  refine lv_aload_n hx hb dL_text_0 rfl (lv_at hl 2 rfl) ?_
  refine lv_iconst (v := 0) hx hb dL_text_1 (by decide) ?_
  refine lv_aload_n hx hb dL_text_2 rfl (lv_at hl 0 rfl) ?_
  refine lv_iload_n hx hb dL_text_3 rfl (lv_at hl 1 rfl) ?_
  refine z_hcalll (u := zHo ao co o) (w := wC ad cy) (As := [.int x1]) (rest := [.int 0, .ref ao]) hC hI hK (cX11_text_met st l hst D ad cy σ x1 r hr) (zgV zw78_8 zw78_9 zw78_10 zw1_2 zw78_11) rfl ⟨rfl, rfl⟩ 1 hdX11_text ⟨Nat.le_of_ble_eq_true rfl, Nat.le_of_ble_eq_true rfl⟩ rfl rfl (wC_e0 ad cy σ) rfl hl rfl (Nat.le_of_ble_eq_true rfl) dL_text_4 ⟨Nat.le_of_ble_eq_true rfl, Nat.le_of_ble_eq_true rfl⟩ (fun k σ1 hq ce q9 H locs hI h1 h2 h3 => ?_) (fun v σ1 hq H locs hI => ?_)
  · subst hq
    obtain ⟨c1, hg⟩ := zh1_1 hf
    subst c1
    refine z_catch1 (x := ⟨0, 8, 11, 50⟩) (hp := 11) hC hI hE 3 rfl rfl (by decide) (List.mem_cons_of_mem _ zw78_7) h1 h2 h3 rfl ?_
    refine lv_astore_n hx hb dL_text_11 rfl hl (by decide) rfl (fun ls hl => ?_)
    refine lv_iconst (v := 1) hx hb dL_text_12 (by decide) ?_
    exact z_hret (w := fun x : zHs => zHo ao co x.1 ++ wC ad cy x.2) (x := (o, σ1)) hC hI hg (Nat.le_of_ble_eq_true rfl) (Nat.le_of_ble_eq_true rfl) dL_text_13
  · subst hq
    refine z_last (w1 := zHo ao co (vp_updL o 0 v) ++ wC ad cy σ1) hC hI 0 0 rfl rfl (by decide) rfl dL_text_7 (fun H locs hI => ?_)
    refine lv_goto (tgt := 14) hx hb dL_text_8 (by decide) ?_
    refine lv_iconst (v := 0) hx hb dL_text_14 (by decide) ?_
    exact z_hret (w := fun x : zHs => zHo ao co x.1 ++ wC ad cy x.2) (x := (vp_updL o 0 v, σ1)) hC hI (Option.some.inj hf) (Nat.le_of_ble_eq_true rfl) (Nat.le_of_ble_eq_true rfl) dL_text_15
theorem hdL_text : yL_text.cls ≠ "java/lang/invoke/MethodHandle" ∧ yL_text.cls ≠ "java/lang/invoke/VarHandle" ∧ (parseMethodDescriptor yL_text.desc).map (fun d => d.parameters.length) = some 3 := by decide +kernel
noncomputable def rmL_stop : Room := { frames := 7, cells := 1, slots := 6, locals := 122 }
noncomputable def wzL_stop : List Cond := .codeWith yL_stop cL_stop 5 (some .int) [(0, 10, 13, 13), (0, 10, 17, 15)] :: wsL_law
noncomputable def kn_cL_stop : Nat := 0xac03ac05043aac04043a0b00a750853400b61c1b2a032d
theorem zk_cL_stop : zkd cL_stop.data.toList kn_cL_stop = true := by decide +kernel
theorem zn_cL_stop : cL_stop.data.toList.length = 23 := by decide +kernel
theorem dL_stop_0 : decode cL_stop 0 = .ok (.aload_n 3, 1) := zo_45 (zkb zk_cL_stop zn_cL_stop rfl)
theorem dL_stop_1 : decode cL_stop 1 = .ok (.iconst 0, 1) := zo_3 (zkb zk_cL_stop zn_cL_stop rfl)
theorem dL_stop_2 : decode cL_stop 2 = .ok (.aload_n 0, 1) := zo_42 (zkb zk_cL_stop zn_cL_stop rfl)
theorem dL_stop_3 : decode cL_stop 3 = .ok (.iload_n 1, 1) := zo_27 (zkb zk_cL_stop zn_cL_stop rfl)
theorem dL_stop_4 : decode cL_stop 4 = .ok (.iload_n 2, 1) := zo_28 (zkb zk_cL_stop zn_cL_stop rfl)
theorem dL_stop_5 : decode cL_stop 5 = .ok (.invokevirtual 52, 3) := zo_182 (b1 := 0) (b2 := 52) (zkb3 zk_cL_stop zn_cL_stop rfl) rfl
theorem dL_stop_8 : decode cL_stop 8 = .ok (.i2l, 1) := zo_133 (zkb zk_cL_stop zn_cL_stop rfl)
theorem dL_stop_9 : decode cL_stop 9 = .ok (.lastore, 1) := zo_80 (zkb zk_cL_stop zn_cL_stop rfl)
theorem dL_stop_10 : decode cL_stop 10 = .ok (.goto 11, 3) := zo_167 (b1 := 0) (b2 := 11) (zkb3 zk_cL_stop zn_cL_stop rfl) rfl
theorem dL_stop_13 : decode cL_stop 13 = .ok (.astore 4, 2) := zo_58 (b1 := 4) (zkb2 zk_cL_stop zn_cL_stop rfl)
theorem dL_stop_15 : decode cL_stop 15 = .ok (.iconst 1, 1) := zo_4 (zkb zk_cL_stop zn_cL_stop rfl)
theorem dL_stop_16 : decode cL_stop 16 = .ok (.ireturn, 1) := zo_172 (zkb zk_cL_stop zn_cL_stop rfl)
theorem dL_stop_17 : decode cL_stop 17 = .ok (.astore 4, 2) := zo_58 (b1 := 4) (zkb2 zk_cL_stop zn_cL_stop rfl)
theorem dL_stop_19 : decode cL_stop 19 = .ok (.iconst 2, 1) := zo_5 (zkb zk_cL_stop zn_cL_stop rfl)
theorem dL_stop_20 : decode cL_stop 20 = .ok (.ireturn, 1) := zo_172 (zkb zk_cL_stop zn_cL_stop rfl)
theorem dL_stop_21 : decode cL_stop 21 = .ok (.iconst 0, 1) := zo_3 (zkb zk_cL_stop zn_cL_stop rfl)
theorem dL_stop_22 : decode cL_stop 22 = .ok (.ireturn, 1) := zo_172 (zkb zk_cL_stop zn_cL_stop rfl)
noncomputable def fL_stop (o : Nat → Int64) (σ : zSt) (x1 : Int32) (x2 : Int32) : Option (zHs × Int32) := zbr (fX11_stop σ x1 x2) (zhi o zh2)
set_option maxRecDepth 20000 in
theorem cL_stop_met (st : Nat → Nat) (l : Launch) (hst : l.stackTraces = false) (D : va_G) (ad : Nat → Nat) (cy : Nat → ClassId) (ao : Nat) (co : ClassId) (o : Nat → Int64) (σ : zSt) (x1 : Int32) (x2 : Int32) (res : zHs × Int32) (hf : fL_stop o σ x1 x2 = some res) (sz : Nat) : zH st l yL_stop wzL_stop rmL_stop [.ref (ad 0), .int x1, .int x2, .ref ao] D ((co, .long) :: tC cy) (fun x : zHs => zHo ao co x.1 ++ wC ad cy x.2) sz (o, σ) res := by
  obtain ⟨r, hr, hf⟩ := zbr_use hf
  refine zH.of (cc := cL_stop) (maxL := 5) (by decide) rfl (Nat.le_of_ble_eq_true rfl) (fun p e s m args below meth c hC hE A hI ls hl => ?_)
  have hx := hC.1
  have hb := hC.2.1
  have hK : va_K D vwCl (tC cy) s := hI.1.sub [1, 2, 3, 4, 5, 6, 7, 8, 9, 10, 11, 12, 13, 14, 15, 16, 17, 18, 19, 20, 21, 22, 23, 24, 25, 26, 27, 28, 29, 30, 31, 32, 33, 34, 35, 36, 37] rfl
  refine lv_aload_n hx hb dL_stop_0 rfl (lv_at hl 3 rfl) ?_
  refine lv_iconst (v := 0) hx hb dL_stop_1 (by decide) ?_
  refine lv_aload_n hx hb dL_stop_2 rfl (lv_at hl 0 rfl) ?_
  refine lv_iload_n hx hb dL_stop_3 rfl (lv_at hl 1 rfl) ?_
  refine lv_iload_n hx hb dL_stop_4 rfl (lv_at hl 2 rfl) ?_
  refine z_hcalli (u := zHo ao co o) (w := wC ad cy) (As := [.int x1, .int x2]) (rest := [.int 0, .ref ao]) hC hI hK (cX11_stop_met st l hst D ad cy σ x1 x2 r hr) (zgV zw79_2 zw79_3 zw79_4 zw1_2 zw79_5) rfl ⟨rfl, rfl⟩ 2 hdX11_stop ⟨Nat.le_of_ble_eq_true rfl, Nat.le_of_ble_eq_true rfl⟩ rfl rfl (wC_e0 ad cy σ) rfl hl rfl (Nat.le_of_ble_eq_true rfl) dL_stop_5 ⟨Nat.le_of_ble_eq_true rfl, Nat.le_of_ble_eq_true rfl⟩ (fun k σ1 hq ce q9 H locs hI h1 h2 h3 => ?_) (fun v σ1 hq H locs hI => ?_)
  · subst hq
    by_cases c1 : k = 1
    · have hg := zh2_1 hf c1
      subst c1
      refine z_catch1 (x := ⟨0, 10, 13, 13⟩) (hp := 13) hC hI hE 1 rfl rfl (by decide) (List.mem_cons_of_mem _ zw10_20) h1 h2 h3 rfl ?_
      refine lv_astore hx hb dL_stop_13 hl (by decide) rfl (fun ls hl => ?_)
      refine lv_iconst (v := 1) hx hb dL_stop_15 (by decide) ?_
      exact z_hret (w := fun x : zHs => zHo ao co x.1 ++ wC ad cy x.2) (x := (o, σ1)) hC hI hg (Nat.le_of_ble_eq_true rfl) (Nat.le_of_ble_eq_true rfl) dL_stop_16
    · obtain ⟨c2, hg⟩ := zh2_2 hf c1
      subst c2
      refine z_catch2 (x := ⟨0, 10, 17, 15⟩) (x1 := ⟨0, 10, 13, 13⟩) (hp := 17) hC hI hE rfl (by decide) (List.mem_cons_of_mem _ zw10_20) rfl (by decide) (List.mem_cons_of_mem _ zw82_15) h1 h2 h3 rfl ?_
      refine lv_astore hx hb dL_stop_17 hl (by decide) rfl (fun ls hl => ?_)
      refine lv_iconst (v := 2) hx hb dL_stop_19 (by decide) ?_
      exact z_hret (w := fun x : zHs => zHo ao co x.1 ++ wC ad cy x.2) (x := (o, σ1)) hC hI hg (Nat.le_of_ble_eq_true rfl) (Nat.le_of_ble_eq_true rfl) dL_stop_20
  · subst hq
    refine lv_i2l hx hb dL_stop_8 rfl ?_
    refine z_last (w1 := zHo ao co (vp_updL o 0 v.toInt64) ++ wC ad cy σ1) hC hI 0 0 rfl rfl (by decide) rfl dL_stop_9 (fun H locs hI => ?_)
    refine lv_goto (tgt := 21) hx hb dL_stop_10 (by decide) ?_
    refine lv_iconst (v := 0) hx hb dL_stop_21 (by decide) ?_
    exact z_hret (w := fun x : zHs => zHo ao co x.1 ++ wC ad cy x.2) (x := (vp_updL o 0 v.toInt64, σ1)) hC hI (Option.some.inj hf) (Nat.le_of_ble_eq_true rfl) (Nat.le_of_ble_eq_true rfl) dL_stop_22
theorem hdL_stop : yL_stop.cls ≠ "java/lang/invoke/MethodHandle" ∧ yL_stop.cls ≠ "java/lang/invoke/VarHandle" ∧ (parseMethodDescriptor yL_stop.desc).map (fun d => d.parameters.length) = some 4 := by decide +kernel
noncomputable def rmL_restore : Room := { frames := 7, cells := 1, slots := 6, locals := 124 }
noncomputable def wzL_restore : List Cond := .codeWith yL_restore cL_restore 2 (some .int) [(0, 4, 7, 15)] :: wsL_law
noncomputable def kn_cL_restore : Nat := 0xac03ac044c0600a73800b62a
theorem zk_cL_restore : zkd cL_restore.data.toList kn_cL_restore = true := by decide +kernel
theorem zn_cL_restore : cL_restore.data.toList.length = 12 := by decide +kernel
theorem dL_restore_0 : decode cL_restore 0 = .ok (.aload_n 0, 1) := zo_42 (zkb zk_cL_restore zn_cL_restore rfl)
theorem dL_restore_1 : decode cL_restore 1 = .ok (.invokevirtual 56, 3) := zo_182 (b1 := 0) (b2 := 56) (zkb3 zk_cL_restore zn_cL_restore rfl) rfl
theorem dL_restore_4 : decode cL_restore 4 = .ok (.goto 6, 3) := zo_167 (b1 := 0) (b2 := 6) (zkb3 zk_cL_restore zn_cL_restore rfl) rfl
theorem dL_restore_7 : decode cL_restore 7 = .ok (.astore_n 1, 1) := zo_76 (zkb zk_cL_restore zn_cL_restore rfl)
theorem dL_restore_8 : decode cL_restore 8 = .ok (.iconst 1, 1) := zo_4 (zkb zk_cL_restore zn_cL_restore rfl)
theorem dL_restore_9 : decode cL_restore 9 = .ok (.ireturn, 1) := zo_172 (zkb zk_cL_restore zn_cL_restore rfl)
theorem dL_restore_10 : decode cL_restore 10 = .ok (.iconst 0, 1) := zo_3 (zkb zk_cL_restore zn_cL_restore rfl)
theorem dL_restore_11 : decode cL_restore 11 = .ok (.ireturn, 1) := zo_172 (zkb zk_cL_restore zn_cL_restore rfl)
noncomputable def fL_restore (σ : zSt)  : Option (zSt × Int32) := zbr (fX11_restore σ ) (zhu (zh1 2))
set_option maxRecDepth 20000 in
theorem cL_restore_met (st : Nat → Nat) (l : Launch) (hst : l.stackTraces = false) (D : va_G) (ad : Nat → Nat) (cy : Nat → ClassId) (σ : zSt)  (res : zSt × Int32) (hf : fL_restore σ  = some res) (sz : Nat) : zH st l yL_restore wzL_restore rmL_restore [.ref (ad 0)] D (tC cy) (wC ad cy) sz σ res := by
  obtain ⟨r, hr, hf⟩ := zbr_use hf
  refine zH.of (cc := cL_restore) (maxL := 2) (by decide) rfl (Nat.le_of_ble_eq_true rfl) (fun p e s m args below meth c hC hE A hI ls hl => ?_)
  have hx := hC.1
  have hb := hC.2.1
  have hK : va_K D vwCl (tC cy) s := hI.1
  refine lv_aload_n hx hb dL_restore_0 rfl (lv_at hl 0 rfl) ?_
  refine z_hcallu (u := ([] : va_W)) (w := wC ad cy) (As := []) (rest := []) hC hI hK (cX11_restore_met st l hst D ad cy σ  r hr) (zgV zw82_16 zw82_17 zw82_18 zw1_2 zw82_19) rfl ⟨rfl, rfl⟩ 0 hdX11_restore ⟨Nat.le_of_ble_eq_true rfl, Nat.le_of_ble_eq_true rfl⟩ rfl rfl (wC_e0 ad cy σ) rfl hl rfl (Nat.le_of_ble_eq_true rfl) dL_restore_1 ⟨Nat.le_of_ble_eq_true rfl, Nat.le_of_ble_eq_true rfl⟩ (fun k σ1 hq ce q9 H locs hI h1 h2 h3 => ?_) (fun σ1 hq H locs hI => ?_)
  · subst hq
    obtain ⟨c1, hg⟩ := zh1_1 hf
    subst c1
    refine z_catch1 (x := ⟨0, 4, 7, 15⟩) (hp := 7) hC hI hE 2 rfl rfl (by decide) (List.mem_cons_of_mem _ zw82_15) h1 h2 h3 rfl ?_
    refine lv_astore_n hx hb dL_restore_7 rfl hl (by decide) rfl (fun ls hl => ?_)
    refine lv_iconst (v := 1) hx hb dL_restore_8 (by decide) ?_
    exact z_hret (w := wC ad cy) (x := σ1) hC hI hg (Nat.le_of_ble_eq_true rfl) (Nat.le_of_ble_eq_true rfl) dL_restore_9
  · subst hq
    refine lv_goto (tgt := 10) hx hb dL_restore_4 (by decide) ?_
    refine lv_iconst (v := 0) hx hb dL_restore_10 (by decide) ?_
    exact z_hret (w := wC ad cy) (x := σ1) hC hI (Option.some.inj hf) (Nat.le_of_ble_eq_true rfl) (Nat.le_of_ble_eq_true rfl) dL_restore_11
theorem hdL_restore : yL_restore.cls ≠ "java/lang/invoke/MethodHandle" ∧ yL_restore.cls ≠ "java/lang/invoke/VarHandle" ∧ (parseMethodDescriptor yL_restore.desc).map (fun d => d.parameters.length) = some 1 := by decide +kernel
noncomputable def rmL_register : Room := { frames := 7, cells := 1, slots := 6, locals := 121 }
noncomputable def wzL_register : List Cond := .codeWith yL_register cL_register 4 (some .int) [(0, 9, 12, 13)] :: wsL_law
noncomputable def kn_cL_register : Nat := 0xac03ac044e0600a750853b00b61b2a032c
theorem zk_cL_register : zkd cL_register.data.toList kn_cL_register = true := by decide +kernel
theorem zn_cL_register : cL_register.data.toList.length = 17 := by decide +kernel
theorem dL_register_0 : decode cL_register 0 = .ok (.aload_n 2, 1) := zo_44 (zkb zk_cL_register zn_cL_register rfl)
theorem dL_register_1 : decode cL_register 1 = .ok (.iconst 0, 1) := zo_3 (zkb zk_cL_register zn_cL_register rfl)
theorem dL_register_2 : decode cL_register 2 = .ok (.aload_n 0, 1) := zo_42 (zkb zk_cL_register zn_cL_register rfl)
theorem dL_register_3 : decode cL_register 3 = .ok (.iload_n 1, 1) := zo_27 (zkb zk_cL_register zn_cL_register rfl)
theorem dL_register_4 : decode cL_register 4 = .ok (.invokevirtual 59, 3) := zo_182 (b1 := 0) (b2 := 59) (zkb3 zk_cL_register zn_cL_register rfl) rfl
theorem dL_register_7 : decode cL_register 7 = .ok (.i2l, 1) := zo_133 (zkb zk_cL_register zn_cL_register rfl)
theorem dL_register_8 : decode cL_register 8 = .ok (.lastore, 1) := zo_80 (zkb zk_cL_register zn_cL_register rfl)
theorem dL_register_9 : decode cL_register 9 = .ok (.goto 6, 3) := zo_167 (b1 := 0) (b2 := 6) (zkb3 zk_cL_register zn_cL_register rfl) rfl
theorem dL_register_12 : decode cL_register 12 = .ok (.astore_n 3, 1) := zo_78 (zkb zk_cL_register zn_cL_register rfl)
theorem dL_register_13 : decode cL_register 13 = .ok (.iconst 1, 1) := zo_4 (zkb zk_cL_register zn_cL_register rfl)
theorem dL_register_14 : decode cL_register 14 = .ok (.ireturn, 1) := zo_172 (zkb zk_cL_register zn_cL_register rfl)
theorem dL_register_15 : decode cL_register 15 = .ok (.iconst 0, 1) := zo_3 (zkb zk_cL_register zn_cL_register rfl)
theorem dL_register_16 : decode cL_register 16 = .ok (.ireturn, 1) := zo_172 (zkb zk_cL_register zn_cL_register rfl)
noncomputable def fL_register (o : Nat → Int64) (σ : zSt) (x1 : Int32) : Option (zHs × Int32) := zbr (fX11_register σ x1) (zhi o (zh1 1))
set_option maxRecDepth 20000 in
theorem cL_register_met (st : Nat → Nat) (l : Launch) (hst : l.stackTraces = false) (D : va_G) (ad : Nat → Nat) (cy : Nat → ClassId) (ao : Nat) (co : ClassId) (o : Nat → Int64) (σ : zSt) (x1 : Int32) (res : zHs × Int32) (hf : fL_register o σ x1 = some res) (sz : Nat) : zH st l yL_register wzL_register rmL_register [.ref (ad 0), .int x1, .ref ao] D ((co, .long) :: tC cy) (fun x : zHs => zHo ao co x.1 ++ wC ad cy x.2) sz (o, σ) res := by
  obtain ⟨r, hr, hf⟩ := zbr_use hf
  refine zH.of (cc := cL_register) (maxL := 4) (by decide) rfl (Nat.le_of_ble_eq_true rfl) (fun p e s m args below meth c hC hE A hI ls hl => ?_)
  have hx := hC.1
  have hb := hC.2.1
  have hK : va_K D vwCl (tC cy) s := hI.1.sub [1, 2, 3, 4, 5, 6, 7, 8, 9, 10, 11, 12, 13, 14, 15, 16, 17, 18, 19, 20, 21, 22, 23, 24, 25, 26, 27, 28, 29, 30, 31, 32, 33, 34, 35, 36, 37] rfl
  refine lv_aload_n hx hb dL_register_0 rfl (lv_at hl 2 rfl) ?_
  refine lv_iconst (v := 0) hx hb dL_register_1 (by decide) ?_
  refine lv_aload_n hx hb dL_register_2 rfl (lv_at hl 0 rfl) ?_
  refine lv_iload_n hx hb dL_register_3 rfl (lv_at hl 1 rfl) ?_
  refine z_hcalli (u := zHo ao co o) (w := wC ad cy) (As := [.int x1]) (rest := [.int 0, .ref ao]) hC hI hK (cX11_register_met st l hst D ad cy σ x1 r hr) (zgV zw84_19 zw84_20 zw84_21 zw1_2 zw84_22) rfl ⟨rfl, rfl⟩ 1 hdX11_register ⟨Nat.le_of_ble_eq_true rfl, Nat.le_of_ble_eq_true rfl⟩ rfl rfl (wC_e0 ad cy σ) rfl hl rfl (Nat.le_of_ble_eq_true rfl) dL_register_4 ⟨Nat.le_of_ble_eq_true rfl, Nat.le_of_ble_eq_true rfl⟩ (fun k σ1 hq ce q9 H locs hI h1 h2 h3 => ?_) (fun v σ1 hq H locs hI => ?_)
  · subst hq
    obtain ⟨c1, hg⟩ := zh1_1 hf
    subst c1
    refine z_catch1 (x := ⟨0, 9, 12, 13⟩) (hp := 12) hC hI hE 1 rfl rfl (by decide) (List.mem_cons_of_mem _ zw10_20) h1 h2 h3 rfl ?_
    refine lv_astore_n hx hb dL_register_12 rfl hl (by decide) rfl (fun ls hl => ?_)
    refine lv_iconst (v := 1) hx hb dL_register_13 (by decide) ?_
    exact z_hret (w := fun x : zHs => zHo ao co x.1 ++ wC ad cy x.2) (x := (o, σ1)) hC hI hg (Nat.le_of_ble_eq_true rfl) (Nat.le_of_ble_eq_true rfl) dL_register_14
  · subst hq
    refine lv_i2l hx hb dL_register_7 rfl ?_
    refine z_last (w1 := zHo ao co (vp_updL o 0 v.toInt64) ++ wC ad cy σ1) hC hI 0 0 rfl rfl (by decide) rfl dL_register_8 (fun H locs hI => ?_)
    refine lv_goto (tgt := 15) hx hb dL_register_9 (by decide) ?_
    refine lv_iconst (v := 0) hx hb dL_register_15 (by decide) ?_
    exact z_hret (w := fun x : zHs => zHo ao co x.1 ++ wC ad cy x.2) (x := (vp_updL o 0 v.toInt64, σ1)) hC hI (Option.some.inj hf) (Nat.le_of_ble_eq_true rfl) (Nat.le_of_ble_eq_true rfl) dL_register_16
theorem hdL_register : yL_register.cls ≠ "java/lang/invoke/MethodHandle" ∧ yL_register.cls ≠ "java/lang/invoke/VarHandle" ∧ (parseMethodDescriptor yL_register.desc).map (fun d => d.parameters.length) = some 3 := by decide +kernel
noncomputable def rmL_set : Room := { frames := 7, cells := 1, slots := 6, locals := 122 }
noncomputable def wzL_set : List Cond := .codeWith yL_set cL_set 4 (some .int) [(0, 6, 9, 13)] :: wsL_law
noncomputable def kn_cL_set : Nat := 0xac03ac044e0600a73e00b61c1b2a
theorem zk_cL_set : zkd cL_set.data.toList kn_cL_set = true := by decide +kernel
theorem zn_cL_set : cL_set.data.toList.length = 14 := by decide +kernel
theorem dL_set_0 : decode cL_set 0 = .ok (.aload_n 0, 1) := zo_42 (zkb zk_cL_set zn_cL_set rfl)
theorem dL_set_1 : decode cL_set 1 = .ok (.iload_n 1, 1) := zo_27 (zkb zk_cL_set zn_cL_set rfl)
theorem dL_set_2 : decode cL_set 2 = .ok (.iload_n 2, 1) := zo_28 (zkb zk_cL_set zn_cL_set rfl)
theorem dL_set_3 : decode cL_set 3 = .ok (.invokevirtual 62, 3) := zo_182 (b1 := 0) (b2 := 62) (zkb3 zk_cL_set zn_cL_set rfl) rfl
theorem dL_set_6 : decode cL_set 6 = .ok (.goto 6, 3) := zo_167 (b1 := 0) (b2 := 6) (zkb3 zk_cL_set zn_cL_set rfl) rfl
theorem dL_set_9 : decode cL_set 9 = .ok (.astore_n 3, 1) := zo_78 (zkb zk_cL_set zn_cL_set rfl)
theorem dL_set_10 : decode cL_set 10 = .ok (.iconst 1, 1) := zo_4 (zkb zk_cL_set zn_cL_set rfl)
theorem dL_set_11 : decode cL_set 11 = .ok (.ireturn, 1) := zo_172 (zkb zk_cL_set zn_cL_set rfl)
theorem dL_set_12 : decode cL_set 12 = .ok (.iconst 0, 1) := zo_3 (zkb zk_cL_set zn_cL_set rfl)
theorem dL_set_13 : decode cL_set 13 = .ok (.ireturn, 1) := zo_172 (zkb zk_cL_set zn_cL_set rfl)
noncomputable def fL_set (σ : zSt) (x1 : Int32) (x2 : Int32) : Option (zSt × Int32) := zbr (fX11_set σ x1 x2) (zhu (zh1 1))
set_option maxRecDepth 20000 in
theorem cL_set_met (st : Nat → Nat) (l : Launch) (hst : l.stackTraces = false) (D : va_G) (ad : Nat → Nat) (cy : Nat → ClassId) (σ : zSt) (x1 : Int32) (x2 : Int32) (res : zSt × Int32) (hf : fL_set σ x1 x2 = some res) (sz : Nat) : zH st l yL_set wzL_set rmL_set [.ref (ad 0), .int x1, .int x2] D (tC cy) (wC ad cy) sz σ res := by
  obtain ⟨r, hr, hf⟩ := zbr_use hf
  refine zH.of (cc := cL_set) (maxL := 4) (by decide) rfl (Nat.le_of_ble_eq_true rfl) (fun p e s m args below meth c hC hE A hI ls hl => ?_)
  have hx := hC.1
  have hb := hC.2.1
  have hK : va_K D vwCl (tC cy) s := hI.1
  refine lv_aload_n hx hb dL_set_0 rfl (lv_at hl 0 rfl) ?_
  refine lv_iload_n hx hb dL_set_1 rfl (lv_at hl 1 rfl) ?_
  refine lv_iload_n hx hb dL_set_2 rfl (lv_at hl 2 rfl) ?_
  refine z_hcallu (u := ([] : va_W)) (w := wC ad cy) (As := [.int x1, .int x2]) (rest := []) hC hI hK (cX11_set_met st l hst D ad cy σ x1 x2 r hr) (zgV zw85_7 zw85_8 zw85_9 zw1_2 zw85_10) rfl ⟨rfl, rfl⟩ 2 hdX11_set ⟨Nat.le_of_ble_eq_true rfl, Nat.le_of_ble_eq_true rfl⟩ rfl rfl (wC_e0 ad cy σ) rfl hl rfl (Nat.le_of_ble_eq_true rfl) dL_set_3 ⟨Nat.le_of_ble_eq_true rfl, Nat.le_of_ble_eq_true rfl⟩ (fun k σ1 hq ce q9 H locs hI h1 h2 h3 => ?_) (fun σ1 hq H locs hI => ?_)
  · subst hq
    obtain ⟨c1, hg⟩ := zh1_1 hf
    subst c1
    refine z_catch1 (x := ⟨0, 6, 9, 13⟩) (hp := 9) hC hI hE 1 rfl rfl (by decide) (List.mem_cons_of_mem _ zw10_20) h1 h2 h3 rfl ?_
    refine lv_astore_n hx hb dL_set_9 rfl hl (by decide) rfl (fun ls hl => ?_)
    refine lv_iconst (v := 1) hx hb dL_set_10 (by decide) ?_
    exact z_hret (w := wC ad cy) (x := σ1) hC hI hg (Nat.le_of_ble_eq_true rfl) (Nat.le_of_ble_eq_true rfl) dL_set_11
  · subst hq
    refine lv_goto (tgt := 12) hx hb dL_set_6 (by decide) ?_
    refine lv_iconst (v := 0) hx hb dL_set_12 (by decide) ?_
    exact z_hret (w := wC ad cy) (x := σ1) hC hI (Option.some.inj hf) (Nat.le_of_ble_eq_true rfl) (Nat.le_of_ble_eq_true rfl) dL_set_13
theorem hdL_set : yL_set.cls ≠ "java/lang/invoke/MethodHandle" ∧ yL_set.cls ≠ "java/lang/invoke/VarHandle" ∧ (parseMethodDescriptor yL_set.desc).map (fun d => d.parameters.length) = some 3 := by decide +kernel
noncomputable def rmL_battery : Room := { frames := 7, cells := 1, slots := 6, locals := 121 }
noncomputable def wzL_battery : List Cond := .codeWith yL_battery cL_battery 4 (some .int) [(0, 9, 12, 50)] :: wsL_law
noncomputable def kn_cL_battery : Nat := 0xac03ac044e0600a750854100b61b2a032c
theorem zk_cL_battery : zkd cL_battery.data.toList kn_cL_battery = true := by decide +kernel
theorem zn_cL_battery : cL_battery.data.toList.length = 17 := by decide +kernel
theorem dL_battery_0 : decode cL_battery 0 = .ok (.aload_n 2, 1) := zo_44 (zkb zk_cL_battery zn_cL_battery rfl)
theorem dL_battery_1 : decode cL_battery 1 = .ok (.iconst 0, 1) := zo_3 (zkb zk_cL_battery zn_cL_battery rfl)
theorem dL_battery_2 : decode cL_battery 2 = .ok (.aload_n 0, 1) := zo_42 (zkb zk_cL_battery zn_cL_battery rfl)
theorem dL_battery_3 : decode cL_battery 3 = .ok (.iload_n 1, 1) := zo_27 (zkb zk_cL_battery zn_cL_battery rfl)
theorem dL_battery_4 : decode cL_battery 4 = .ok (.invokevirtual 65, 3) := zo_182 (b1 := 0) (b2 := 65) (zkb3 zk_cL_battery zn_cL_battery rfl) rfl
theorem dL_battery_7 : decode cL_battery 7 = .ok (.i2l, 1) := zo_133 (zkb zk_cL_battery zn_cL_battery rfl)
theorem dL_battery_8 : decode cL_battery 8 = .ok (.lastore, 1) := zo_80 (zkb zk_cL_battery zn_cL_battery rfl)
theorem dL_battery_9 : decode cL_battery 9 = .ok (.goto 6, 3) := zo_167 (b1 := 0) (b2 := 6) (zkb3 zk_cL_battery zn_cL_battery rfl) rfl
theorem dL_battery_12 : decode cL_battery 12 = .ok (.astore_n 3, 1) := zo_78 (zkb zk_cL_battery zn_cL_battery rfl)
theorem dL_battery_13 : decode cL_battery 13 = .ok (.iconst 1, 1) := zo_4 (zkb zk_cL_battery zn_cL_battery rfl)
theorem dL_battery_14 : decode cL_battery 14 = .ok (.ireturn, 1) := zo_172 (zkb zk_cL_battery zn_cL_battery rfl)
theorem dL_battery_15 : decode cL_battery 15 = .ok (.iconst 0, 1) := zo_3 (zkb zk_cL_battery zn_cL_battery rfl)
theorem dL_battery_16 : decode cL_battery 16 = .ok (.ireturn, 1) := zo_172 (zkb zk_cL_battery zn_cL_battery rfl)
noncomputable def fL_battery (o : Nat → Int64) (σ : zSt) (x1 : Int32) : Option (zHs × Int32) := zbr (fX11_battery σ x1) (zhi o (zh1 3))
set_option maxRecDepth 20000 in
theorem cL_battery_met (st : Nat → Nat) (l : Launch) (hst : l.stackTraces = false) (D : va_G) (ad : Nat → Nat) (cy : Nat → ClassId) (ao : Nat) (co : ClassId) (o : Nat → Int64) (σ : zSt) (x1 : Int32) (res : zHs × Int32) (hf : fL_battery o σ x1 = some res) (sz : Nat) : zH st l yL_battery wzL_battery rmL_battery [.ref (ad 0), .int x1, .ref ao] D ((co, .long) :: tC cy) (fun x : zHs => zHo ao co x.1 ++ wC ad cy x.2) sz (o, σ) res := by
  obtain ⟨r, hr, hf⟩ := zbr_use hf
  refine zH.of (cc := cL_battery) (maxL := 4) (by decide) rfl (Nat.le_of_ble_eq_true rfl) (fun p e s m args below meth c hC hE A hI ls hl => ?_)
  have hx := hC.1
  have hb := hC.2.1
  have hK : va_K D vwCl (tC cy) s := hI.1.sub [1, 2, 3, 4, 5, 6, 7, 8, 9, 10, 11, 12, 13, 14, 15, 16, 17, 18, 19, 20, 21, 22, 23, 24, 25, 26, 27, 28, 29, 30, 31, 32, 33, 34, 35, 36, 37] rfl
  refine lv_aload_n hx hb dL_battery_0 rfl (lv_at hl 2 rfl) ?_
  refine lv_iconst (v := 0) hx hb dL_battery_1 (by decide) ?_
  refine lv_aload_n hx hb dL_battery_2 rfl (lv_at hl 0 rfl) ?_
  refine lv_iload_n hx hb dL_battery_3 rfl (lv_at hl 1 rfl) ?_
  refine z_hcalli (u := zHo ao co o) (w := wC ad cy) (As := [.int x1]) (rest := [.int 0, .ref ao]) hC hI hK (cX11_battery_met st l hst D ad cy σ x1 r hr) (zgV zw87_12 zw87_13 zw87_14 zw1_2 zw87_15) rfl ⟨rfl, rfl⟩ 1 hdX11_battery ⟨Nat.le_of_ble_eq_true rfl, Nat.le_of_ble_eq_true rfl⟩ rfl rfl (wC_e0 ad cy σ) rfl hl rfl (Nat.le_of_ble_eq_true rfl) dL_battery_4 ⟨Nat.le_of_ble_eq_true rfl, Nat.le_of_ble_eq_true rfl⟩ (fun k σ1 hq ce q9 H locs hI h1 h2 h3 => ?_) (fun v σ1 hq H locs hI => ?_)
  · subst hq
    obtain ⟨c1, hg⟩ := zh1_1 hf
    subst c1
    refine z_catch1 (x := ⟨0, 9, 12, 50⟩) (hp := 12) hC hI hE 3 rfl rfl (by decide) (List.mem_cons_of_mem _ zw78_7) h1 h2 h3 rfl ?_
    refine lv_astore_n hx hb dL_battery_12 rfl hl (by decide) rfl (fun ls hl => ?_)
    refine lv_iconst (v := 1) hx hb dL_battery_13 (by decide) ?_
    exact z_hret (w := fun x : zHs => zHo ao co x.1 ++ wC ad cy x.2) (x := (o, σ1)) hC hI hg (Nat.le_of_ble_eq_true rfl) (Nat.le_of_ble_eq_true rfl) dL_battery_14
  · subst hq
    refine lv_i2l hx hb dL_battery_7 rfl ?_
    refine z_last (w1 := zHo ao co (vp_updL o 0 v.toInt64) ++ wC ad cy σ1) hC hI 0 0 rfl rfl (by decide) rfl dL_battery_8 (fun H locs hI => ?_)
    refine lv_goto (tgt := 15) hx hb dL_battery_9 (by decide) ?_
    refine lv_iconst (v := 0) hx hb dL_battery_15 (by decide) ?_
    exact z_hret (w := fun x : zHs => zHo ao co x.1 ++ wC ad cy x.2) (x := (vp_updL o 0 v.toInt64, σ1)) hC hI (Option.some.inj hf) (Nat.le_of_ble_eq_true rfl) (Nat.le_of_ble_eq_true rfl) dL_battery_16
theorem hdL_battery : yL_battery.cls ≠ "java/lang/invoke/MethodHandle" ∧ yL_battery.cls ≠ "java/lang/invoke/VarHandle" ∧ (parseMethodDescriptor yL_battery.desc).map (fun d => d.parameters.length) = some 3 := by decide +kernel
noncomputable def rmL_chip : Room := { frames := 7, cells := 1, slots := 6, locals := 121 }
noncomputable def wzL_chip : List Cond := .codeWith yL_chip cL_chip 4 (some .int) [(0, 9, 12, 13)] :: wsL_law
noncomputable def kn_cL_chip : Nat := 0xac03ac044e0600a750854400b61b2a032c
theorem zk_cL_chip : zkd cL_chip.data.toList kn_cL_chip = true := by decide +kernel
theorem zn_cL_chip : cL_chip.data.toList.length = 17 := by decide +kernel
theorem dL_chip_0 : decode cL_chip 0 = .ok (.aload_n 2, 1) := zo_44 (zkb zk_cL_chip zn_cL_chip rfl)
theorem dL_chip_1 : decode cL_chip 1 = .ok (.iconst 0, 1) := zo_3 (zkb zk_cL_chip zn_cL_chip rfl)
theorem dL_chip_2 : decode cL_chip 2 = .ok (.aload_n 0, 1) := zo_42 (zkb zk_cL_chip zn_cL_chip rfl)
theorem dL_chip_3 : decode cL_chip 3 = .ok (.iload_n 1, 1) := zo_27 (zkb zk_cL_chip zn_cL_chip rfl)
theorem dL_chip_4 : decode cL_chip 4 = .ok (.invokevirtual 68, 3) := zo_182 (b1 := 0) (b2 := 68) (zkb3 zk_cL_chip zn_cL_chip rfl) rfl
theorem dL_chip_7 : decode cL_chip 7 = .ok (.i2l, 1) := zo_133 (zkb zk_cL_chip zn_cL_chip rfl)
theorem dL_chip_8 : decode cL_chip 8 = .ok (.lastore, 1) := zo_80 (zkb zk_cL_chip zn_cL_chip rfl)
theorem dL_chip_9 : decode cL_chip 9 = .ok (.goto 6, 3) := zo_167 (b1 := 0) (b2 := 6) (zkb3 zk_cL_chip zn_cL_chip rfl) rfl
theorem dL_chip_12 : decode cL_chip 12 = .ok (.astore_n 3, 1) := zo_78 (zkb zk_cL_chip zn_cL_chip rfl)
theorem dL_chip_13 : decode cL_chip 13 = .ok (.iconst 1, 1) := zo_4 (zkb zk_cL_chip zn_cL_chip rfl)
theorem dL_chip_14 : decode cL_chip 14 = .ok (.ireturn, 1) := zo_172 (zkb zk_cL_chip zn_cL_chip rfl)
theorem dL_chip_15 : decode cL_chip 15 = .ok (.iconst 0, 1) := zo_3 (zkb zk_cL_chip zn_cL_chip rfl)
theorem dL_chip_16 : decode cL_chip 16 = .ok (.ireturn, 1) := zo_172 (zkb zk_cL_chip zn_cL_chip rfl)
noncomputable def fL_chip (o : Nat → Int64) (σ : zSt) (x1 : Int32) : Option (zHs × Int32) := zbr (fX11_chip σ x1) (zhi o (zh1 1))
set_option maxRecDepth 20000 in
theorem cL_chip_met (st : Nat → Nat) (l : Launch) (hst : l.stackTraces = false) (D : va_G) (ad : Nat → Nat) (cy : Nat → ClassId) (ao : Nat) (co : ClassId) (o : Nat → Int64) (σ : zSt) (x1 : Int32) (res : zHs × Int32) (hf : fL_chip o σ x1 = some res) (sz : Nat) : zH st l yL_chip wzL_chip rmL_chip [.ref (ad 0), .int x1, .ref ao] D ((co, .long) :: tC cy) (fun x : zHs => zHo ao co x.1 ++ wC ad cy x.2) sz (o, σ) res := by
  obtain ⟨r, hr, hf⟩ := zbr_use hf
  refine zH.of (cc := cL_chip) (maxL := 4) (by decide) rfl (Nat.le_of_ble_eq_true rfl) (fun p e s m args below meth c hC hE A hI ls hl => ?_)
  have hx := hC.1
  have hb := hC.2.1
  have hK : va_K D vwCl (tC cy) s := hI.1.sub [1, 2, 3, 4, 5, 6, 7, 8, 9, 10, 11, 12, 13, 14, 15, 16, 17, 18, 19, 20, 21, 22, 23, 24, 25, 26, 27, 28, 29, 30, 31, 32, 33, 34, 35, 36, 37] rfl
  refine lv_aload_n hx hb dL_chip_0 rfl (lv_at hl 2 rfl) ?_
  refine lv_iconst (v := 0) hx hb dL_chip_1 (by decide) ?_
  refine lv_aload_n hx hb dL_chip_2 rfl (lv_at hl 0 rfl) ?_
  refine lv_iload_n hx hb dL_chip_3 rfl (lv_at hl 1 rfl) ?_
  refine z_hcalli (u := zHo ao co o) (w := wC ad cy) (As := [.int x1]) (rest := [.int 0, .ref ao]) hC hI hK (cX11_chip_met st l hst D ad cy σ x1 r hr) (zgV zw89_5 zw89_6 zw89_7 zw1_2 zw89_8) rfl ⟨rfl, rfl⟩ 1 hdX11_chip ⟨Nat.le_of_ble_eq_true rfl, Nat.le_of_ble_eq_true rfl⟩ rfl rfl (wC_e0 ad cy σ) rfl hl rfl (Nat.le_of_ble_eq_true rfl) dL_chip_4 ⟨Nat.le_of_ble_eq_true rfl, Nat.le_of_ble_eq_true rfl⟩ (fun k σ1 hq ce q9 H locs hI h1 h2 h3 => ?_) (fun v σ1 hq H locs hI => ?_)
  · subst hq
    obtain ⟨c1, hg⟩ := zh1_1 hf
    subst c1
    refine z_catch1 (x := ⟨0, 9, 12, 13⟩) (hp := 12) hC hI hE 1 rfl rfl (by decide) (List.mem_cons_of_mem _ zw10_20) h1 h2 h3 rfl ?_
    refine lv_astore_n hx hb dL_chip_12 rfl hl (by decide) rfl (fun ls hl => ?_)
    refine lv_iconst (v := 1) hx hb dL_chip_13 (by decide) ?_
    exact z_hret (w := fun x : zHs => zHo ao co x.1 ++ wC ad cy x.2) (x := (o, σ1)) hC hI hg (Nat.le_of_ble_eq_true rfl) (Nat.le_of_ble_eq_true rfl) dL_chip_14
  · subst hq
    refine lv_i2l hx hb dL_chip_7 rfl ?_
    refine z_last (w1 := zHo ao co (vp_updL o 0 v.toInt64) ++ wC ad cy σ1) hC hI 0 0 rfl rfl (by decide) rfl dL_chip_8 (fun H locs hI => ?_)
    refine lv_goto (tgt := 15) hx hb dL_chip_9 (by decide) ?_
    refine lv_iconst (v := 0) hx hb dL_chip_15 (by decide) ?_
    exact z_hret (w := fun x : zHs => zHo ao co x.1 ++ wC ad cy x.2) (x := (vp_updL o 0 v.toInt64, σ1)) hC hI (Option.some.inj hf) (Nat.le_of_ble_eq_true rfl) (Nat.le_of_ble_eq_true rfl) dL_chip_16
theorem hdL_chip : yL_chip.cls ≠ "java/lang/invoke/MethodHandle" ∧ yL_chip.cls ≠ "java/lang/invoke/VarHandle" ∧ (parseMethodDescriptor yL_chip.desc).map (fun d => d.parameters.length) = some 3 := by decide +kernel
noncomputable def rmL_dot : Room := { frames := 7, cells := 1, slots := 6, locals := 122 }
noncomputable def wzL_dot : List Cond := .codeWith yL_dot cL_dot 5 (some .int) [(0, 10, 13, 50)] :: wsL_law
noncomputable def kn_cL_dot : Nat := 0xac03ac04043a0700a750854700b61c1b2a032d
theorem zk_cL_dot : zkd cL_dot.data.toList kn_cL_dot = true := by decide +kernel
theorem zn_cL_dot : cL_dot.data.toList.length = 19 := by decide +kernel
theorem dL_dot_0 : decode cL_dot 0 = .ok (.aload_n 3, 1) := zo_45 (zkb zk_cL_dot zn_cL_dot rfl)
theorem dL_dot_1 : decode cL_dot 1 = .ok (.iconst 0, 1) := zo_3 (zkb zk_cL_dot zn_cL_dot rfl)
theorem dL_dot_2 : decode cL_dot 2 = .ok (.aload_n 0, 1) := zo_42 (zkb zk_cL_dot zn_cL_dot rfl)
theorem dL_dot_3 : decode cL_dot 3 = .ok (.iload_n 1, 1) := zo_27 (zkb zk_cL_dot zn_cL_dot rfl)
theorem dL_dot_4 : decode cL_dot 4 = .ok (.iload_n 2, 1) := zo_28 (zkb zk_cL_dot zn_cL_dot rfl)
theorem dL_dot_5 : decode cL_dot 5 = .ok (.invokevirtual 71, 3) := zo_182 (b1 := 0) (b2 := 71) (zkb3 zk_cL_dot zn_cL_dot rfl) rfl
theorem dL_dot_8 : decode cL_dot 8 = .ok (.i2l, 1) := zo_133 (zkb zk_cL_dot zn_cL_dot rfl)
theorem dL_dot_9 : decode cL_dot 9 = .ok (.lastore, 1) := zo_80 (zkb zk_cL_dot zn_cL_dot rfl)
theorem dL_dot_10 : decode cL_dot 10 = .ok (.goto 7, 3) := zo_167 (b1 := 0) (b2 := 7) (zkb3 zk_cL_dot zn_cL_dot rfl) rfl
theorem dL_dot_13 : decode cL_dot 13 = .ok (.astore 4, 2) := zo_58 (b1 := 4) (zkb2 zk_cL_dot zn_cL_dot rfl)
theorem dL_dot_15 : decode cL_dot 15 = .ok (.iconst 1, 1) := zo_4 (zkb zk_cL_dot zn_cL_dot rfl)
theorem dL_dot_16 : decode cL_dot 16 = .ok (.ireturn, 1) := zo_172 (zkb zk_cL_dot zn_cL_dot rfl)
theorem dL_dot_17 : decode cL_dot 17 = .ok (.iconst 0, 1) := zo_3 (zkb zk_cL_dot zn_cL_dot rfl)
theorem dL_dot_18 : decode cL_dot 18 = .ok (.ireturn, 1) := zo_172 (zkb zk_cL_dot zn_cL_dot rfl)
noncomputable def fL_dot (o : Nat → Int64) (σ : zSt) (x1 : Int32) (x2 : Int32) : Option (zHs × Int32) := zbr (fX11_dot σ x1 x2) (zhi o (zh1 3))
set_option maxRecDepth 20000 in
theorem cL_dot_met (st : Nat → Nat) (l : Launch) (hst : l.stackTraces = false) (D : va_G) (ad : Nat → Nat) (cy : Nat → ClassId) (ao : Nat) (co : ClassId) (o : Nat → Int64) (σ : zSt) (x1 : Int32) (x2 : Int32) (res : zHs × Int32) (hf : fL_dot o σ x1 x2 = some res) (sz : Nat) : zH st l yL_dot wzL_dot rmL_dot [.ref (ad 0), .int x1, .int x2, .ref ao] D ((co, .long) :: tC cy) (fun x : zHs => zHo ao co x.1 ++ wC ad cy x.2) sz (o, σ) res := by
  obtain ⟨r, hr, hf⟩ := zbr_use hf
  refine zH.of (cc := cL_dot) (maxL := 5) (by decide) rfl (Nat.le_of_ble_eq_true rfl) (fun p e s m args below meth c hC hE A hI ls hl => ?_)
  have hx := hC.1
  have hb := hC.2.1
  have hK : va_K D vwCl (tC cy) s := hI.1.sub [1, 2, 3, 4, 5, 6, 7, 8, 9, 10, 11, 12, 13, 14, 15, 16, 17, 18, 19, 20, 21, 22, 23, 24, 25, 26, 27, 28, 29, 30, 31, 32, 33, 34, 35, 36, 37] rfl
  refine lv_aload_n hx hb dL_dot_0 rfl (lv_at hl 3 rfl) ?_
  refine lv_iconst (v := 0) hx hb dL_dot_1 (by decide) ?_
  refine lv_aload_n hx hb dL_dot_2 rfl (lv_at hl 0 rfl) ?_
  refine lv_iload_n hx hb dL_dot_3 rfl (lv_at hl 1 rfl) ?_
  refine lv_iload_n hx hb dL_dot_4 rfl (lv_at hl 2 rfl) ?_
  refine z_hcalli (u := zHo ao co o) (w := wC ad cy) (As := [.int x1, .int x2]) (rest := [.int 0, .ref ao]) hC hI hK (cX11_dot_met st l hst D ad cy σ x1 x2 r hr) (zgV zw90_9 zw90_10 zw90_11 zw1_2 zw90_12) rfl ⟨rfl, rfl⟩ 2 hdX11_dot ⟨Nat.le_of_ble_eq_true rfl, Nat.le_of_ble_eq_true rfl⟩ rfl rfl (wC_e0 ad cy σ) rfl hl rfl (Nat.le_of_ble_eq_true rfl) dL_dot_5 ⟨Nat.le_of_ble_eq_true rfl, Nat.le_of_ble_eq_true rfl⟩ (fun k σ1 hq ce q9 H locs hI h1 h2 h3 => ?_) (fun v σ1 hq H locs hI => ?_)
  · subst hq
    obtain ⟨c1, hg⟩ := zh1_1 hf
    subst c1
    refine z_catch1 (x := ⟨0, 10, 13, 50⟩) (hp := 13) hC hI hE 3 rfl rfl (by decide) (List.mem_cons_of_mem _ zw78_7) h1 h2 h3 rfl ?_
    refine lv_astore hx hb dL_dot_13 hl (by decide) rfl (fun ls hl => ?_)
    refine lv_iconst (v := 1) hx hb dL_dot_15 (by decide) ?_
    exact z_hret (w := fun x : zHs => zHo ao co x.1 ++ wC ad cy x.2) (x := (o, σ1)) hC hI hg (Nat.le_of_ble_eq_true rfl) (Nat.le_of_ble_eq_true rfl) dL_dot_16
  · subst hq
    refine lv_i2l hx hb dL_dot_8 rfl ?_
    refine z_last (w1 := zHo ao co (vp_updL o 0 v.toInt64) ++ wC ad cy σ1) hC hI 0 0 rfl rfl (by decide) rfl dL_dot_9 (fun H locs hI => ?_)
    refine lv_goto (tgt := 17) hx hb dL_dot_10 (by decide) ?_
    refine lv_iconst (v := 0) hx hb dL_dot_17 (by decide) ?_
    exact z_hret (w := fun x : zHs => zHo ao co x.1 ++ wC ad cy x.2) (x := (vp_updL o 0 v.toInt64, σ1)) hC hI (Option.some.inj hf) (Nat.le_of_ble_eq_true rfl) (Nat.le_of_ble_eq_true rfl) dL_dot_18
theorem hdL_dot : yL_dot.cls ≠ "java/lang/invoke/MethodHandle" ∧ yL_dot.cls ≠ "java/lang/invoke/VarHandle" ∧ (parseMethodDescriptor yL_dot.desc).map (fun d => d.parameters.length) = some 4 := by decide +kernel
noncomputable def rmL_row : Room := { frames := 7, cells := 1, slots := 6, locals := 121 }
noncomputable def wzL_row : List Cond := .codeWith yL_row cL_row 4 (some .int) [(0, 9, 12, 50)] :: wsL_law
noncomputable def kn_cL_row : Nat := 0xac03ac044e0600a750854b00b61b2a032c
theorem zk_cL_row : zkd cL_row.data.toList kn_cL_row = true := by decide +kernel
theorem zn_cL_row : cL_row.data.toList.length = 17 := by decide +kernel
theorem dL_row_0 : decode cL_row 0 = .ok (.aload_n 2, 1) := zo_44 (zkb zk_cL_row zn_cL_row rfl)
theorem dL_row_1 : decode cL_row 1 = .ok (.iconst 0, 1) := zo_3 (zkb zk_cL_row zn_cL_row rfl)
theorem dL_row_2 : decode cL_row 2 = .ok (.aload_n 0, 1) := zo_42 (zkb zk_cL_row zn_cL_row rfl)
theorem dL_row_3 : decode cL_row 3 = .ok (.iload_n 1, 1) := zo_27 (zkb zk_cL_row zn_cL_row rfl)
theorem dL_row_4 : decode cL_row 4 = .ok (.invokevirtual 75, 3) := zo_182 (b1 := 0) (b2 := 75) (zkb3 zk_cL_row zn_cL_row rfl) rfl
theorem dL_row_7 : decode cL_row 7 = .ok (.i2l, 1) := zo_133 (zkb zk_cL_row zn_cL_row rfl)
theorem dL_row_8 : decode cL_row 8 = .ok (.lastore, 1) := zo_80 (zkb zk_cL_row zn_cL_row rfl)
theorem dL_row_9 : decode cL_row 9 = .ok (.goto 6, 3) := zo_167 (b1 := 0) (b2 := 6) (zkb3 zk_cL_row zn_cL_row rfl) rfl
theorem dL_row_12 : decode cL_row 12 = .ok (.astore_n 3, 1) := zo_78 (zkb zk_cL_row zn_cL_row rfl)
theorem dL_row_13 : decode cL_row 13 = .ok (.iconst 1, 1) := zo_4 (zkb zk_cL_row zn_cL_row rfl)
theorem dL_row_14 : decode cL_row 14 = .ok (.ireturn, 1) := zo_172 (zkb zk_cL_row zn_cL_row rfl)
theorem dL_row_15 : decode cL_row 15 = .ok (.iconst 0, 1) := zo_3 (zkb zk_cL_row zn_cL_row rfl)
theorem dL_row_16 : decode cL_row 16 = .ok (.ireturn, 1) := zo_172 (zkb zk_cL_row zn_cL_row rfl)
noncomputable def fL_row (o : Nat → Int64) (σ : zSt) (x1 : Int32) : Option (zHs × Int32) := zbr (fX11_row σ x1) (zhi o (zh1 3))
set_option maxRecDepth 20000 in
theorem cL_row_met (st : Nat → Nat) (l : Launch) (hst : l.stackTraces = false) (D : va_G) (ad : Nat → Nat) (cy : Nat → ClassId) (ao : Nat) (co : ClassId) (o : Nat → Int64) (σ : zSt) (x1 : Int32) (res : zHs × Int32) (hf : fL_row o σ x1 = some res) (sz : Nat) : zH st l yL_row wzL_row rmL_row [.ref (ad 0), .int x1, .ref ao] D ((co, .long) :: tC cy) (fun x : zHs => zHo ao co x.1 ++ wC ad cy x.2) sz (o, σ) res := by
  obtain ⟨r, hr, hf⟩ := zbr_use hf
  refine zH.of (cc := cL_row) (maxL := 4) (by decide) rfl (Nat.le_of_ble_eq_true rfl) (fun p e s m args below meth c hC hE A hI ls hl => ?_)
  have hx := hC.1
  have hb := hC.2.1
  have hK : va_K D vwCl (tC cy) s := hI.1.sub [1, 2, 3, 4, 5, 6, 7, 8, 9, 10, 11, 12, 13, 14, 15, 16, 17, 18, 19, 20, 21, 22, 23, 24, 25, 26, 27, 28, 29, 30, 31, 32, 33, 34, 35, 36, 37] rfl
  refine lv_aload_n hx hb dL_row_0 rfl (lv_at hl 2 rfl) ?_
  refine lv_iconst (v := 0) hx hb dL_row_1 (by decide) ?_
  refine lv_aload_n hx hb dL_row_2 rfl (lv_at hl 0 rfl) ?_
  refine lv_iload_n hx hb dL_row_3 rfl (lv_at hl 1 rfl) ?_
  refine z_hcalli (u := zHo ao co o) (w := wC ad cy) (As := [.int x1]) (rest := [.int 0, .ref ao]) hC hI hK (cX11_row_met st l hst D ad cy σ x1 r hr) (zgV zw91_12 zw91_13 zw91_14 zw1_2 zw91_15) rfl ⟨rfl, rfl⟩ 1 hdX11_row ⟨Nat.le_of_ble_eq_true rfl, Nat.le_of_ble_eq_true rfl⟩ rfl rfl (wC_e0 ad cy σ) rfl hl rfl (Nat.le_of_ble_eq_true rfl) dL_row_4 ⟨Nat.le_of_ble_eq_true rfl, Nat.le_of_ble_eq_true rfl⟩ (fun k σ1 hq ce q9 H locs hI h1 h2 h3 => ?_) (fun v σ1 hq H locs hI => ?_)
  · subst hq
    obtain ⟨c1, hg⟩ := zh1_1 hf
    subst c1
    refine z_catch1 (x := ⟨0, 9, 12, 50⟩) (hp := 12) hC hI hE 3 rfl rfl (by decide) (List.mem_cons_of_mem _ zw78_7) h1 h2 h3 rfl ?_
    refine lv_astore_n hx hb dL_row_12 rfl hl (by decide) rfl (fun ls hl => ?_)
    refine lv_iconst (v := 1) hx hb dL_row_13 (by decide) ?_
    exact z_hret (w := fun x : zHs => zHo ao co x.1 ++ wC ad cy x.2) (x := (o, σ1)) hC hI hg (Nat.le_of_ble_eq_true rfl) (Nat.le_of_ble_eq_true rfl) dL_row_14
  · subst hq
    refine lv_i2l hx hb dL_row_7 rfl ?_
    refine z_last (w1 := zHo ao co (vp_updL o 0 v.toInt64) ++ wC ad cy σ1) hC hI 0 0 rfl rfl (by decide) rfl dL_row_8 (fun H locs hI => ?_)
    refine lv_goto (tgt := 15) hx hb dL_row_9 (by decide) ?_
    refine lv_iconst (v := 0) hx hb dL_row_15 (by decide) ?_
    exact z_hret (w := fun x : zHs => zHo ao co x.1 ++ wC ad cy x.2) (x := (vp_updL o 0 v.toInt64, σ1)) hC hI (Option.some.inj hf) (Nat.le_of_ble_eq_true rfl) (Nat.le_of_ble_eq_true rfl) dL_row_16
theorem hdL_row : yL_row.cls ≠ "java/lang/invoke/MethodHandle" ∧ yL_row.cls ≠ "java/lang/invoke/VarHandle" ∧ (parseMethodDescriptor yL_row.desc).map (fun d => d.parameters.length) = some 3 := by decide +kernel
noncomputable def rmL_hear : Room := { frames := 7, cells := 1, slots := 6, locals := 120 }
noncomputable def wzL_hear : List Cond := .codeWith yL_hear cL_hear 3 (some .int) [(0, 7, 10, 50)] :: wsL_law
noncomputable def kn_cL_hear : Nat := 0xac03ac044d0600a7504e00b62a032b
theorem zk_cL_hear : zkd cL_hear.data.toList kn_cL_hear = true := by decide +kernel
theorem zn_cL_hear : cL_hear.data.toList.length = 15 := by decide +kernel
theorem dL_hear_0 : decode cL_hear 0 = .ok (.aload_n 1, 1) := zo_43 (zkb zk_cL_hear zn_cL_hear rfl)
theorem dL_hear_1 : decode cL_hear 1 = .ok (.iconst 0, 1) := zo_3 (zkb zk_cL_hear zn_cL_hear rfl)
theorem dL_hear_2 : decode cL_hear 2 = .ok (.aload_n 0, 1) := zo_42 (zkb zk_cL_hear zn_cL_hear rfl)
theorem dL_hear_3 : decode cL_hear 3 = .ok (.invokevirtual 78, 3) := zo_182 (b1 := 0) (b2 := 78) (zkb3 zk_cL_hear zn_cL_hear rfl) rfl
theorem dL_hear_6 : decode cL_hear 6 = .ok (.lastore, 1) := zo_80 (zkb zk_cL_hear zn_cL_hear rfl)
theorem dL_hear_7 : decode cL_hear 7 = .ok (.goto 6, 3) := zo_167 (b1 := 0) (b2 := 6) (zkb3 zk_cL_hear zn_cL_hear rfl) rfl
theorem dL_hear_10 : decode cL_hear 10 = .ok (.astore_n 2, 1) := zo_77 (zkb zk_cL_hear zn_cL_hear rfl)
theorem dL_hear_11 : decode cL_hear 11 = .ok (.iconst 1, 1) := zo_4 (zkb zk_cL_hear zn_cL_hear rfl)
theorem dL_hear_12 : decode cL_hear 12 = .ok (.ireturn, 1) := zo_172 (zkb zk_cL_hear zn_cL_hear rfl)
theorem dL_hear_13 : decode cL_hear 13 = .ok (.iconst 0, 1) := zo_3 (zkb zk_cL_hear zn_cL_hear rfl)
theorem dL_hear_14 : decode cL_hear 14 = .ok (.ireturn, 1) := zo_172 (zkb zk_cL_hear zn_cL_hear rfl)
noncomputable def fL_hear (o : Nat → Int64) (σ : zSt)  : Option (zHs × Int32) := zbr (fX11_hear σ ) (zhl o (zh1 3))
set_option maxRecDepth 20000 in
theorem cL_hear_met (st : Nat → Nat) (l : Launch) (hst : l.stackTraces = false) (D : va_G) (ad : Nat → Nat) (cy : Nat → ClassId) (ao : Nat) (co : ClassId) (o : Nat → Int64) (σ : zSt)  (res : zHs × Int32) (hf : fL_hear o σ  = some res) (sz : Nat) : zH st l yL_hear wzL_hear rmL_hear [.ref (ad 0), .ref ao] D ((co, .long) :: tC cy) (fun x : zHs => zHo ao co x.1 ++ wC ad cy x.2) sz (o, σ) res := by
  obtain ⟨r, hr, hf⟩ := zbr_use hf
  refine zH.of (cc := cL_hear) (maxL := 3) (by decide) rfl (Nat.le_of_ble_eq_true rfl) (fun p e s m args below meth c hC hE A hI ls hl => ?_)
  have hx := hC.1
  have hb := hC.2.1
  have hK : va_K D vwCl (tC cy) s := hI.1.sub [1, 2, 3, 4, 5, 6, 7, 8, 9, 10, 11, 12, 13, 14, 15, 16, 17, 18, 19, 20, 21, 22, 23, 24, 25, 26, 27, 28, 29, 30, 31, 32, 33, 34, 35, 36, 37] rfl
  refine lv_aload_n hx hb dL_hear_0 rfl (lv_at hl 1 rfl) ?_
  refine lv_iconst (v := 0) hx hb dL_hear_1 (by decide) ?_
  refine lv_aload_n hx hb dL_hear_2 rfl (lv_at hl 0 rfl) ?_
  refine z_hcalll (u := zHo ao co o) (w := wC ad cy) (As := []) (rest := [.int 0, .ref ao]) hC hI hK (cX11_hear_met st l hst D ad cy σ  r hr) (zgV zw92_6 zw92_7 zw92_8 zw1_2 zw92_9) rfl ⟨rfl, rfl⟩ 0 hdX11_hear ⟨Nat.le_of_ble_eq_true rfl, Nat.le_of_ble_eq_true rfl⟩ rfl rfl (wC_e0 ad cy σ) rfl hl rfl (Nat.le_of_ble_eq_true rfl) dL_hear_3 ⟨Nat.le_of_ble_eq_true rfl, Nat.le_of_ble_eq_true rfl⟩ (fun k σ1 hq ce q9 H locs hI h1 h2 h3 => ?_) (fun v σ1 hq H locs hI => ?_)
  · subst hq
    obtain ⟨c1, hg⟩ := zh1_1 hf
    subst c1
    refine z_catch1 (x := ⟨0, 7, 10, 50⟩) (hp := 10) hC hI hE 3 rfl rfl (by decide) (List.mem_cons_of_mem _ zw78_7) h1 h2 h3 rfl ?_
    refine lv_astore_n hx hb dL_hear_10 rfl hl (by decide) rfl (fun ls hl => ?_)
    refine lv_iconst (v := 1) hx hb dL_hear_11 (by decide) ?_
    exact z_hret (w := fun x : zHs => zHo ao co x.1 ++ wC ad cy x.2) (x := (o, σ1)) hC hI hg (Nat.le_of_ble_eq_true rfl) (Nat.le_of_ble_eq_true rfl) dL_hear_12
  · subst hq
    refine z_last (w1 := zHo ao co (vp_updL o 0 v) ++ wC ad cy σ1) hC hI 0 0 rfl rfl (by decide) rfl dL_hear_6 (fun H locs hI => ?_)
    refine lv_goto (tgt := 13) hx hb dL_hear_7 (by decide) ?_
    refine lv_iconst (v := 0) hx hb dL_hear_13 (by decide) ?_
    exact z_hret (w := fun x : zHs => zHo ao co x.1 ++ wC ad cy x.2) (x := (vp_updL o 0 v, σ1)) hC hI (Option.some.inj hf) (Nat.le_of_ble_eq_true rfl) (Nat.le_of_ble_eq_true rfl) dL_hear_14
theorem hdL_hear : yL_hear.cls ≠ "java/lang/invoke/MethodHandle" ∧ yL_hear.cls ≠ "java/lang/invoke/VarHandle" ∧ (parseMethodDescriptor yL_hear.desc).map (fun d => d.parameters.length) = some 2 := by decide +kernel
noncomputable def rmL_mix : Room := { frames := 7, cells := 1, slots := 6, locals := 120 }
noncomputable def wzL_mix : List Cond := .codeWith yL_mix cL_mix 3 (some .int) [(0, 7, 10, 50)] :: wsL_law
noncomputable def kn_cL_mix : Nat := 0xac03ac044d0600a7505200b62a032b
theorem zk_cL_mix : zkd cL_mix.data.toList kn_cL_mix = true := by decide +kernel
theorem zn_cL_mix : cL_mix.data.toList.length = 15 := by decide +kernel
theorem dL_mix_0 : decode cL_mix 0 = .ok (.aload_n 1, 1) := zo_43 (zkb zk_cL_mix zn_cL_mix rfl)
theorem dL_mix_1 : decode cL_mix 1 = .ok (.iconst 0, 1) := zo_3 (zkb zk_cL_mix zn_cL_mix rfl)
theorem dL_mix_2 : decode cL_mix 2 = .ok (.aload_n 0, 1) := zo_42 (zkb zk_cL_mix zn_cL_mix rfl)
theorem dL_mix_3 : decode cL_mix 3 = .ok (.invokevirtual 82, 3) := zo_182 (b1 := 0) (b2 := 82) (zkb3 zk_cL_mix zn_cL_mix rfl) rfl
theorem dL_mix_6 : decode cL_mix 6 = .ok (.lastore, 1) := zo_80 (zkb zk_cL_mix zn_cL_mix rfl)
theorem dL_mix_7 : decode cL_mix 7 = .ok (.goto 6, 3) := zo_167 (b1 := 0) (b2 := 6) (zkb3 zk_cL_mix zn_cL_mix rfl) rfl
theorem dL_mix_10 : decode cL_mix 10 = .ok (.astore_n 2, 1) := zo_77 (zkb zk_cL_mix zn_cL_mix rfl)
theorem dL_mix_11 : decode cL_mix 11 = .ok (.iconst 1, 1) := zo_4 (zkb zk_cL_mix zn_cL_mix rfl)
theorem dL_mix_12 : decode cL_mix 12 = .ok (.ireturn, 1) := zo_172 (zkb zk_cL_mix zn_cL_mix rfl)
theorem dL_mix_13 : decode cL_mix 13 = .ok (.iconst 0, 1) := zo_3 (zkb zk_cL_mix zn_cL_mix rfl)
theorem dL_mix_14 : decode cL_mix 14 = .ok (.ireturn, 1) := zo_172 (zkb zk_cL_mix zn_cL_mix rfl)
noncomputable def fL_mix (o : Nat → Int64) (σ : zSt)  : Option (zHs × Int32) := zbr (fX11_mix σ ) (zhl o (zh1 3))
set_option maxRecDepth 20000 in
theorem cL_mix_met (st : Nat → Nat) (l : Launch) (hst : l.stackTraces = false) (D : va_G) (ad : Nat → Nat) (cy : Nat → ClassId) (ao : Nat) (co : ClassId) (o : Nat → Int64) (σ : zSt)  (res : zHs × Int32) (hf : fL_mix o σ  = some res) (sz : Nat) : zH st l yL_mix wzL_mix rmL_mix [.ref (ad 0), .ref ao] D ((co, .long) :: tC cy) (fun x : zHs => zHo ao co x.1 ++ wC ad cy x.2) sz (o, σ) res := by
  obtain ⟨r, hr, hf⟩ := zbr_use hf
  refine zH.of (cc := cL_mix) (maxL := 3) (by decide) rfl (Nat.le_of_ble_eq_true rfl) (fun p e s m args below meth c hC hE A hI ls hl => ?_)
  have hx := hC.1
  have hb := hC.2.1
  have hK : va_K D vwCl (tC cy) s := hI.1.sub [1, 2, 3, 4, 5, 6, 7, 8, 9, 10, 11, 12, 13, 14, 15, 16, 17, 18, 19, 20, 21, 22, 23, 24, 25, 26, 27, 28, 29, 30, 31, 32, 33, 34, 35, 36, 37] rfl
  refine lv_aload_n hx hb dL_mix_0 rfl (lv_at hl 1 rfl) ?_
  refine lv_iconst (v := 0) hx hb dL_mix_1 (by decide) ?_
  refine lv_aload_n hx hb dL_mix_2 rfl (lv_at hl 0 rfl) ?_
  refine z_hcalll (u := zHo ao co o) (w := wC ad cy) (As := []) (rest := [.int 0, .ref ao]) hC hI hK (cX11_mix_met st l hst D ad cy σ  r hr) (zgV zw93_2 zw93_3 zw93_4 zw1_2 zw93_5) rfl ⟨rfl, rfl⟩ 0 hdX11_mix ⟨Nat.le_of_ble_eq_true rfl, Nat.le_of_ble_eq_true rfl⟩ rfl rfl (wC_e0 ad cy σ) rfl hl rfl (Nat.le_of_ble_eq_true rfl) dL_mix_3 ⟨Nat.le_of_ble_eq_true rfl, Nat.le_of_ble_eq_true rfl⟩ (fun k σ1 hq ce q9 H locs hI h1 h2 h3 => ?_) (fun v σ1 hq H locs hI => ?_)
  · subst hq
    obtain ⟨c1, hg⟩ := zh1_1 hf
    subst c1
    refine z_catch1 (x := ⟨0, 7, 10, 50⟩) (hp := 10) hC hI hE 3 rfl rfl (by decide) (List.mem_cons_of_mem _ zw78_7) h1 h2 h3 rfl ?_
    refine lv_astore_n hx hb dL_mix_10 rfl hl (by decide) rfl (fun ls hl => ?_)
    refine lv_iconst (v := 1) hx hb dL_mix_11 (by decide) ?_
    exact z_hret (w := fun x : zHs => zHo ao co x.1 ++ wC ad cy x.2) (x := (o, σ1)) hC hI hg (Nat.le_of_ble_eq_true rfl) (Nat.le_of_ble_eq_true rfl) dL_mix_12
  · subst hq
    refine z_last (w1 := zHo ao co (vp_updL o 0 v) ++ wC ad cy σ1) hC hI 0 0 rfl rfl (by decide) rfl dL_mix_6 (fun H locs hI => ?_)
    refine lv_goto (tgt := 13) hx hb dL_mix_7 (by decide) ?_
    refine lv_iconst (v := 0) hx hb dL_mix_13 (by decide) ?_
    exact z_hret (w := fun x : zHs => zHo ao co x.1 ++ wC ad cy x.2) (x := (vp_updL o 0 v, σ1)) hC hI (Option.some.inj hf) (Nat.le_of_ble_eq_true rfl) (Nat.le_of_ble_eq_true rfl) dL_mix_14
theorem hdL_mix : yL_mix.cls ≠ "java/lang/invoke/MethodHandle" ∧ yL_mix.cls ≠ "java/lang/invoke/VarHandle" ∧ (parseMethodDescriptor yL_mix.desc).map (fun d => d.parameters.length) = some 2 := by decide +kernel
noncomputable def rmL_wave : Room := { frames := 7, cells := 1, slots := 6, locals := 121 }
noncomputable def wzL_wave : List Cond := .codeWith yL_wave cL_wave 4 (some .int) [(0, 9, 12, 13)] :: wsL_law
noncomputable def kn_cL_wave : Nat := 0xac03ac044e0600a750855500b61b2a032c
theorem zk_cL_wave : zkd cL_wave.data.toList kn_cL_wave = true := by decide +kernel
theorem zn_cL_wave : cL_wave.data.toList.length = 17 := by decide +kernel
theorem dL_wave_0 : decode cL_wave 0 = .ok (.aload_n 2, 1) := zo_44 (zkb zk_cL_wave zn_cL_wave rfl)
theorem dL_wave_1 : decode cL_wave 1 = .ok (.iconst 0, 1) := zo_3 (zkb zk_cL_wave zn_cL_wave rfl)
theorem dL_wave_2 : decode cL_wave 2 = .ok (.aload_n 0, 1) := zo_42 (zkb zk_cL_wave zn_cL_wave rfl)
theorem dL_wave_3 : decode cL_wave 3 = .ok (.iload_n 1, 1) := zo_27 (zkb zk_cL_wave zn_cL_wave rfl)
theorem dL_wave_4 : decode cL_wave 4 = .ok (.invokevirtual 85, 3) := zo_182 (b1 := 0) (b2 := 85) (zkb3 zk_cL_wave zn_cL_wave rfl) rfl
theorem dL_wave_7 : decode cL_wave 7 = .ok (.i2l, 1) := zo_133 (zkb zk_cL_wave zn_cL_wave rfl)
theorem dL_wave_8 : decode cL_wave 8 = .ok (.lastore, 1) := zo_80 (zkb zk_cL_wave zn_cL_wave rfl)
theorem dL_wave_9 : decode cL_wave 9 = .ok (.goto 6, 3) := zo_167 (b1 := 0) (b2 := 6) (zkb3 zk_cL_wave zn_cL_wave rfl) rfl
theorem dL_wave_12 : decode cL_wave 12 = .ok (.astore_n 3, 1) := zo_78 (zkb zk_cL_wave zn_cL_wave rfl)
theorem dL_wave_13 : decode cL_wave 13 = .ok (.iconst 1, 1) := zo_4 (zkb zk_cL_wave zn_cL_wave rfl)
theorem dL_wave_14 : decode cL_wave 14 = .ok (.ireturn, 1) := zo_172 (zkb zk_cL_wave zn_cL_wave rfl)
theorem dL_wave_15 : decode cL_wave 15 = .ok (.iconst 0, 1) := zo_3 (zkb zk_cL_wave zn_cL_wave rfl)
theorem dL_wave_16 : decode cL_wave 16 = .ok (.ireturn, 1) := zo_172 (zkb zk_cL_wave zn_cL_wave rfl)
noncomputable def fL_wave (o : Nat → Int64) (σ : zSt) (x1 : Int32) : Option (zHs × Int32) := zbr (fX11_wave σ x1) (zhi o (zh1 1))
set_option maxRecDepth 20000 in
theorem cL_wave_met (st : Nat → Nat) (l : Launch) (hst : l.stackTraces = false) (D : va_G) (ad : Nat → Nat) (cy : Nat → ClassId) (ao : Nat) (co : ClassId) (o : Nat → Int64) (σ : zSt) (x1 : Int32) (res : zHs × Int32) (hf : fL_wave o σ x1 = some res) (sz : Nat) : zH st l yL_wave wzL_wave rmL_wave [.ref (ad 0), .int x1, .ref ao] D ((co, .long) :: tC cy) (fun x : zHs => zHo ao co x.1 ++ wC ad cy x.2) sz (o, σ) res := by
  obtain ⟨r, hr, hf⟩ := zbr_use hf
  refine zH.of (cc := cL_wave) (maxL := 4) (by decide) rfl (Nat.le_of_ble_eq_true rfl) (fun p e s m args below meth c hC hE A hI ls hl => ?_)
  have hx := hC.1
  have hb := hC.2.1
  have hK : va_K D vwCl (tC cy) s := hI.1.sub [1, 2, 3, 4, 5, 6, 7, 8, 9, 10, 11, 12, 13, 14, 15, 16, 17, 18, 19, 20, 21, 22, 23, 24, 25, 26, 27, 28, 29, 30, 31, 32, 33, 34, 35, 36, 37] rfl
  refine lv_aload_n hx hb dL_wave_0 rfl (lv_at hl 2 rfl) ?_
  refine lv_iconst (v := 0) hx hb dL_wave_1 (by decide) ?_
  refine lv_aload_n hx hb dL_wave_2 rfl (lv_at hl 0 rfl) ?_
  refine lv_iload_n hx hb dL_wave_3 rfl (lv_at hl 1 rfl) ?_
  refine z_hcalli (u := zHo ao co o) (w := wC ad cy) (As := [.int x1]) (rest := [.int 0, .ref ao]) hC hI hK (cX11_wave_met st l hst D ad cy σ x1 r hr) (zgV zw93_14 zw93_15 zw93_16 zw1_2 zw93_17) rfl ⟨rfl, rfl⟩ 1 hdX11_wave ⟨Nat.le_of_ble_eq_true rfl, Nat.le_of_ble_eq_true rfl⟩ rfl rfl (wC_e0 ad cy σ) rfl hl rfl (Nat.le_of_ble_eq_true rfl) dL_wave_4 ⟨Nat.le_of_ble_eq_true rfl, Nat.le_of_ble_eq_true rfl⟩ (fun k σ1 hq ce q9 H locs hI h1 h2 h3 => ?_) (fun v σ1 hq H locs hI => ?_)
  · subst hq
    obtain ⟨c1, hg⟩ := zh1_1 hf
    subst c1
    refine z_catch1 (x := ⟨0, 9, 12, 13⟩) (hp := 12) hC hI hE 1 rfl rfl (by decide) (List.mem_cons_of_mem _ zw10_20) h1 h2 h3 rfl ?_
    refine lv_astore_n hx hb dL_wave_12 rfl hl (by decide) rfl (fun ls hl => ?_)
    refine lv_iconst (v := 1) hx hb dL_wave_13 (by decide) ?_
    exact z_hret (w := fun x : zHs => zHo ao co x.1 ++ wC ad cy x.2) (x := (o, σ1)) hC hI hg (Nat.le_of_ble_eq_true rfl) (Nat.le_of_ble_eq_true rfl) dL_wave_14
  · subst hq
    refine lv_i2l hx hb dL_wave_7 rfl ?_
    refine z_last (w1 := zHo ao co (vp_updL o 0 v.toInt64) ++ wC ad cy σ1) hC hI 0 0 rfl rfl (by decide) rfl dL_wave_8 (fun H locs hI => ?_)
    refine lv_goto (tgt := 15) hx hb dL_wave_9 (by decide) ?_
    refine lv_iconst (v := 0) hx hb dL_wave_15 (by decide) ?_
    exact z_hret (w := fun x : zHs => zHo ao co x.1 ++ wC ad cy x.2) (x := (vp_updL o 0 v.toInt64, σ1)) hC hI (Option.some.inj hf) (Nat.le_of_ble_eq_true rfl) (Nat.le_of_ble_eq_true rfl) dL_wave_16
theorem hdL_wave : yL_wave.cls ≠ "java/lang/invoke/MethodHandle" ∧ yL_wave.cls ≠ "java/lang/invoke/VarHandle" ∧ (parseMethodDescriptor yL_wave.desc).map (fun d => d.parameters.length) = some 3 := by decide +kernel
noncomputable def rmL_sound : Room := { frames := 7, cells := 1, slots := 6, locals := 121 }
noncomputable def wzL_sound : List Cond := .codeWith yL_sound cL_sound 4 (some .int) [(0, 9, 12, 13)] :: wsL_law
noncomputable def kn_cL_sound : Nat := 0xac03ac044e0600a750855800b61b2a032c
theorem zk_cL_sound : zkd cL_sound.data.toList kn_cL_sound = true := by decide +kernel
theorem zn_cL_sound : cL_sound.data.toList.length = 17 := by decide +kernel
theorem dL_sound_0 : decode cL_sound 0 = .ok (.aload_n 2, 1) := zo_44 (zkb zk_cL_sound zn_cL_sound rfl)
theorem dL_sound_1 : decode cL_sound 1 = .ok (.iconst 0, 1) := zo_3 (zkb zk_cL_sound zn_cL_sound rfl)
theorem dL_sound_2 : decode cL_sound 2 = .ok (.aload_n 0, 1) := zo_42 (zkb zk_cL_sound zn_cL_sound rfl)
theorem dL_sound_3 : decode cL_sound 3 = .ok (.iload_n 1, 1) := zo_27 (zkb zk_cL_sound zn_cL_sound rfl)
theorem dL_sound_4 : decode cL_sound 4 = .ok (.invokevirtual 88, 3) := zo_182 (b1 := 0) (b2 := 88) (zkb3 zk_cL_sound zn_cL_sound rfl) rfl
theorem dL_sound_7 : decode cL_sound 7 = .ok (.i2l, 1) := zo_133 (zkb zk_cL_sound zn_cL_sound rfl)
theorem dL_sound_8 : decode cL_sound 8 = .ok (.lastore, 1) := zo_80 (zkb zk_cL_sound zn_cL_sound rfl)
theorem dL_sound_9 : decode cL_sound 9 = .ok (.goto 6, 3) := zo_167 (b1 := 0) (b2 := 6) (zkb3 zk_cL_sound zn_cL_sound rfl) rfl
theorem dL_sound_12 : decode cL_sound 12 = .ok (.astore_n 3, 1) := zo_78 (zkb zk_cL_sound zn_cL_sound rfl)
theorem dL_sound_13 : decode cL_sound 13 = .ok (.iconst 1, 1) := zo_4 (zkb zk_cL_sound zn_cL_sound rfl)
theorem dL_sound_14 : decode cL_sound 14 = .ok (.ireturn, 1) := zo_172 (zkb zk_cL_sound zn_cL_sound rfl)
theorem dL_sound_15 : decode cL_sound 15 = .ok (.iconst 0, 1) := zo_3 (zkb zk_cL_sound zn_cL_sound rfl)
theorem dL_sound_16 : decode cL_sound 16 = .ok (.ireturn, 1) := zo_172 (zkb zk_cL_sound zn_cL_sound rfl)
noncomputable def fL_sound (o : Nat → Int64) (σ : zSt) (x1 : Int32) : Option (zHs × Int32) := zbr (fX11_sound σ x1) (zhi o (zh1 1))
set_option maxRecDepth 20000 in
theorem cL_sound_met (st : Nat → Nat) (l : Launch) (hst : l.stackTraces = false) (D : va_G) (ad : Nat → Nat) (cy : Nat → ClassId) (ao : Nat) (co : ClassId) (o : Nat → Int64) (σ : zSt) (x1 : Int32) (res : zHs × Int32) (hf : fL_sound o σ x1 = some res) (sz : Nat) : zH st l yL_sound wzL_sound rmL_sound [.ref (ad 0), .int x1, .ref ao] D ((co, .long) :: tC cy) (fun x : zHs => zHo ao co x.1 ++ wC ad cy x.2) sz (o, σ) res := by
  obtain ⟨r, hr, hf⟩ := zbr_use hf
  refine zH.of (cc := cL_sound) (maxL := 4) (by decide) rfl (Nat.le_of_ble_eq_true rfl) (fun p e s m args below meth c hC hE A hI ls hl => ?_)
  have hx := hC.1
  have hb := hC.2.1
  have hK : va_K D vwCl (tC cy) s := hI.1.sub [1, 2, 3, 4, 5, 6, 7, 8, 9, 10, 11, 12, 13, 14, 15, 16, 17, 18, 19, 20, 21, 22, 23, 24, 25, 26, 27, 28, 29, 30, 31, 32, 33, 34, 35, 36, 37] rfl
  refine lv_aload_n hx hb dL_sound_0 rfl (lv_at hl 2 rfl) ?_
  refine lv_iconst (v := 0) hx hb dL_sound_1 (by decide) ?_
  refine lv_aload_n hx hb dL_sound_2 rfl (lv_at hl 0 rfl) ?_
  refine lv_iload_n hx hb dL_sound_3 rfl (lv_at hl 1 rfl) ?_
  refine z_hcalli (u := zHo ao co o) (w := wC ad cy) (As := [.int x1]) (rest := [.int 0, .ref ao]) hC hI hK (cX11_sound_met st l hst D ad cy σ x1 r hr) (zgV zw94_8 zw94_9 zw94_10 zw1_2 zw94_11) rfl ⟨rfl, rfl⟩ 1 hdX11_sound ⟨Nat.le_of_ble_eq_true rfl, Nat.le_of_ble_eq_true rfl⟩ rfl rfl (wC_e0 ad cy σ) rfl hl rfl (Nat.le_of_ble_eq_true rfl) dL_sound_4 ⟨Nat.le_of_ble_eq_true rfl, Nat.le_of_ble_eq_true rfl⟩ (fun k σ1 hq ce q9 H locs hI h1 h2 h3 => ?_) (fun v σ1 hq H locs hI => ?_)
  · subst hq
    obtain ⟨c1, hg⟩ := zh1_1 hf
    subst c1
    refine z_catch1 (x := ⟨0, 9, 12, 13⟩) (hp := 12) hC hI hE 1 rfl rfl (by decide) (List.mem_cons_of_mem _ zw10_20) h1 h2 h3 rfl ?_
    refine lv_astore_n hx hb dL_sound_12 rfl hl (by decide) rfl (fun ls hl => ?_)
    refine lv_iconst (v := 1) hx hb dL_sound_13 (by decide) ?_
    exact z_hret (w := fun x : zHs => zHo ao co x.1 ++ wC ad cy x.2) (x := (o, σ1)) hC hI hg (Nat.le_of_ble_eq_true rfl) (Nat.le_of_ble_eq_true rfl) dL_sound_14
  · subst hq
    refine lv_i2l hx hb dL_sound_7 rfl ?_
    refine z_last (w1 := zHo ao co (vp_updL o 0 v.toInt64) ++ wC ad cy σ1) hC hI 0 0 rfl rfl (by decide) rfl dL_sound_8 (fun H locs hI => ?_)
    refine lv_goto (tgt := 15) hx hb dL_sound_9 (by decide) ?_
    refine lv_iconst (v := 0) hx hb dL_sound_15 (by decide) ?_
    exact z_hret (w := fun x : zHs => zHo ao co x.1 ++ wC ad cy x.2) (x := (vp_updL o 0 v.toInt64, σ1)) hC hI (Option.some.inj hf) (Nat.le_of_ble_eq_true rfl) (Nat.le_of_ble_eq_true rfl) dL_sound_16
theorem hdL_sound : yL_sound.cls ≠ "java/lang/invoke/MethodHandle" ∧ yL_sound.cls ≠ "java/lang/invoke/VarHandle" ∧ (parseMethodDescriptor yL_sound.desc).map (fun d => d.parameters.length) = some 3 := by decide +kernel
noncomputable def rmL_look : Room := { frames := 7, cells := 1, slots := 6, locals := 121 }
noncomputable def wzL_look : List Cond := .codeWith yL_look cL_look 4 (some .int) [(0, 8, 11, 13)] :: wsL_law
noncomputable def kn_cL_look : Nat := 0xac03ac044e0600a7505b00b61b2a032c
theorem zk_cL_look : zkd cL_look.data.toList kn_cL_look = true := by decide +kernel
theorem zn_cL_look : cL_look.data.toList.length = 16 := by decide +kernel
theorem dL_look_0 : decode cL_look 0 = .ok (.aload_n 2, 1) := zo_44 (zkb zk_cL_look zn_cL_look rfl)
theorem dL_look_1 : decode cL_look 1 = .ok (.iconst 0, 1) := zo_3 (zkb zk_cL_look zn_cL_look rfl)
theorem dL_look_2 : decode cL_look 2 = .ok (.aload_n 0, 1) := zo_42 (zkb zk_cL_look zn_cL_look rfl)
theorem dL_look_3 : decode cL_look 3 = .ok (.iload_n 1, 1) := zo_27 (zkb zk_cL_look zn_cL_look rfl)
theorem dL_look_4 : decode cL_look 4 = .ok (.invokevirtual 91, 3) := zo_182 (b1 := 0) (b2 := 91) (zkb3 zk_cL_look zn_cL_look rfl) rfl
theorem dL_look_7 : decode cL_look 7 = .ok (.lastore, 1) := zo_80 (zkb zk_cL_look zn_cL_look rfl)
theorem dL_look_8 : decode cL_look 8 = .ok (.goto 6, 3) := zo_167 (b1 := 0) (b2 := 6) (zkb3 zk_cL_look zn_cL_look rfl) rfl
theorem dL_look_11 : decode cL_look 11 = .ok (.astore_n 3, 1) := zo_78 (zkb zk_cL_look zn_cL_look rfl)
theorem dL_look_12 : decode cL_look 12 = .ok (.iconst 1, 1) := zo_4 (zkb zk_cL_look zn_cL_look rfl)
theorem dL_look_13 : decode cL_look 13 = .ok (.ireturn, 1) := zo_172 (zkb zk_cL_look zn_cL_look rfl)
theorem dL_look_14 : decode cL_look 14 = .ok (.iconst 0, 1) := zo_3 (zkb zk_cL_look zn_cL_look rfl)
theorem dL_look_15 : decode cL_look 15 = .ok (.ireturn, 1) := zo_172 (zkb zk_cL_look zn_cL_look rfl)
noncomputable def fL_look (o : Nat → Int64) (σ : zSt) (x1 : Int32) : Option (zHs × Int32) := zbr (fX11_look σ x1) (zhl o (zh1 1))
set_option maxRecDepth 20000 in
theorem cL_look_met (st : Nat → Nat) (l : Launch) (hst : l.stackTraces = false) (D : va_G) (ad : Nat → Nat) (cy : Nat → ClassId) (ao : Nat) (co : ClassId) (o : Nat → Int64) (σ : zSt) (x1 : Int32) (res : zHs × Int32) (hf : fL_look o σ x1 = some res) (sz : Nat) : zH st l yL_look wzL_look rmL_look [.ref (ad 0), .int x1, .ref ao] D ((co, .long) :: tC cy) (fun x : zHs => zHo ao co x.1 ++ wC ad cy x.2) sz (o, σ) res := by
  obtain ⟨r, hr, hf⟩ := zbr_use hf
  refine zH.of (cc := cL_look) (maxL := 4) (by decide) rfl (Nat.le_of_ble_eq_true rfl) (fun p e s m args below meth c hC hE A hI ls hl => ?_)
  have hx := hC.1
  have hb := hC.2.1
  have hK : va_K D vwCl (tC cy) s := hI.1.sub [1, 2, 3, 4, 5, 6, 7, 8, 9, 10, 11, 12, 13, 14, 15, 16, 17, 18, 19, 20, 21, 22, 23, 24, 25, 26, 27, 28, 29, 30, 31, 32, 33, 34, 35, 36, 37] rfl
  refine lv_aload_n hx hb dL_look_0 rfl (lv_at hl 2 rfl) ?_
  refine lv_iconst (v := 0) hx hb dL_look_1 (by decide) ?_
  refine lv_aload_n hx hb dL_look_2 rfl (lv_at hl 0 rfl) ?_
  refine lv_iload_n hx hb dL_look_3 rfl (lv_at hl 1 rfl) ?_
  refine z_hcalll (u := zHo ao co o) (w := wC ad cy) (As := [.int x1]) (rest := [.int 0, .ref ao]) hC hI hK (cX11_look_met st l hst D ad cy σ x1 r hr) (zgV zw95_13 zw95_14 zw95_15 zw1_2 zw95_16) rfl ⟨rfl, rfl⟩ 1 hdX11_look ⟨Nat.le_of_ble_eq_true rfl, Nat.le_of_ble_eq_true rfl⟩ rfl rfl (wC_e0 ad cy σ) rfl hl rfl (Nat.le_of_ble_eq_true rfl) dL_look_4 ⟨Nat.le_of_ble_eq_true rfl, Nat.le_of_ble_eq_true rfl⟩ (fun k σ1 hq ce q9 H locs hI h1 h2 h3 => ?_) (fun v σ1 hq H locs hI => ?_)
  · subst hq
    obtain ⟨c1, hg⟩ := zh1_1 hf
    subst c1
    refine z_catch1 (x := ⟨0, 8, 11, 13⟩) (hp := 11) hC hI hE 1 rfl rfl (by decide) (List.mem_cons_of_mem _ zw10_20) h1 h2 h3 rfl ?_
    refine lv_astore_n hx hb dL_look_11 rfl hl (by decide) rfl (fun ls hl => ?_)
    refine lv_iconst (v := 1) hx hb dL_look_12 (by decide) ?_
    exact z_hret (w := fun x : zHs => zHo ao co x.1 ++ wC ad cy x.2) (x := (o, σ1)) hC hI hg (Nat.le_of_ble_eq_true rfl) (Nat.le_of_ble_eq_true rfl) dL_look_13
  · subst hq
    refine z_last (w1 := zHo ao co (vp_updL o 0 v) ++ wC ad cy σ1) hC hI 0 0 rfl rfl (by decide) rfl dL_look_7 (fun H locs hI => ?_)
    refine lv_goto (tgt := 14) hx hb dL_look_8 (by decide) ?_
    refine lv_iconst (v := 0) hx hb dL_look_14 (by decide) ?_
    exact z_hret (w := fun x : zHs => zHo ao co x.1 ++ wC ad cy x.2) (x := (vp_updL o 0 v, σ1)) hC hI (Option.some.inj hf) (Nat.le_of_ble_eq_true rfl) (Nat.le_of_ble_eq_true rfl) dL_look_15
theorem hdL_look : yL_look.cls ≠ "java/lang/invoke/MethodHandle" ∧ yL_look.cls ≠ "java/lang/invoke/VarHandle" ∧ (parseMethodDescriptor yL_look.desc).map (fun d => d.parameters.length) = some 3 := by decide +kernel
end ZJN1
section ZJN2
noncomputable def wzL_cell : List Cond := .code yL_cell cL_cell 2 (some .int) :: wsL_law
noncomputable def kn_cL_cell : Nat := 0xac030400a72e1b2a0900a2be2a1b
theorem zk_cL_cell : zkd cL_cell.data.toList kn_cL_cell = true := by decide +kernel
theorem zn_cL_cell : cL_cell.data.toList.length = 14 := by decide +kernel
theorem dL_cell_0 : decode cL_cell 0 = .ok (.iload_n 1, 1) := zo_27 (zkb zk_cL_cell zn_cL_cell rfl)
theorem dL_cell_1 : decode cL_cell 1 = .ok (.aload_n 0, 1) := zo_42 (zkb zk_cL_cell zn_cL_cell rfl)
theorem dL_cell_2 : decode cL_cell 2 = .ok (.arraylength, 1) := zo_190 (zkb zk_cL_cell zn_cL_cell rfl)
theorem dL_cell_3 : decode cL_cell 3 = .ok (.if_icmp .ge 9, 3) := zo_162 (b1 := 0) (b2 := 9) (zkb3 zk_cL_cell zn_cL_cell rfl) rfl
theorem dL_cell_6 : decode cL_cell 6 = .ok (.aload_n 0, 1) := zo_42 (zkb zk_cL_cell zn_cL_cell rfl)
theorem dL_cell_7 : decode cL_cell 7 = .ok (.iload_n 1, 1) := zo_27 (zkb zk_cL_cell zn_cL_cell rfl)
theorem dL_cell_8 : decode cL_cell 8 = .ok (.iaload, 1) := zo_46 (zkb zk_cL_cell zn_cL_cell rfl)
theorem dL_cell_9 : decode cL_cell 9 = .ok (.goto 4, 3) := zo_167 (b1 := 0) (b2 := 4) (zkb3 zk_cL_cell zn_cL_cell rfl) rfl
theorem dL_cell_12 : decode cL_cell 12 = .ok (.iconst 0, 1) := zo_3 (zkb zk_cL_cell zn_cL_cell rfl)
theorem dL_cell_13 : decode cL_cell 13 = .ok (.ireturn, 1) := zo_172 (zkb zk_cL_cell zn_cL_cell rfl)
noncomputable def rmL_cell : Room := { frames := 0, cells := 0, slots := 0, locals := 0 }
/-- what cell(script, 0) answers -/
noncomputable def zCell (L : Nat) (xs : Nat → Int32) : Int32 := if Int32.ofNat L ≤ 0 then 0 else xs 0
noncomputable def zXP (b L : Nat) (xs : Nat → Int32) (sz : Nat) : State → Prop := fun U => U.heap.size = sz ∧ b < sz ∧ va_X b L xs U U.heap
theorem zXP.blind {av : List Value} {b L sz : Nat} {xs : Nat → Int32} : FrameBlind (va_Pc av (zXP b L xs sz)) := fun a U g mk q => by
  obtain ⟨q0, q1, q2, qX⟩ := q
  exact ⟨q0, q1, q2, va_X.moved (u := U) (U := U.calling g mk a) (Vm.Alike.refl U.vm) qX⟩
theorem cL_cell_met (l : Launch) (b L : Nat) (xs : Nat → Int32) (sz : Nat) : Met l yL_cell wzL_cell rmL_cell (va_Pc [.ref b, .int 0] (zXP b L xs sz)) (va_Qi (fun (r : Int32) (_ : Unit) => r = zCell L xs) (fun _ _ => True) (va_A [] sz)) 0 0 (va_A [] sz) := by
  refine Met.ofW (cc := cL_cell) (maxL := 2) (ret := some .int) (by decide) rfl ?_
  intro p e s m args below meth c s₁ B hml hv
  obtain ⟨rfl, hsz, hb0, hX⟩ := hv
  have hl := lv_entry [.ref b, .int 0] (n := 2) (Nat.le_of_ble_eq_true rfl)
  rw [lg_entry_eq]
  have hx := B.exec
  have hb := B.bytes
  have hS : va_S (va_A [] sz) s.heap s.heap [] := va_S.rf
  have hbA : ¬ va_A [] sz b := fun h => by
    rcases h with ⟨k, e2, h⟩ | h
    · simp at h
    · omega
  have hbl : b < s.heap.size := by rw [hsz]; exact hb0
  refine lv_iload_n hx hb dL_cell_0 rfl (lv_at hl 1 rfl) ?_
  refine lv_aload_n hx hb dL_cell_1 rfl (lv_at hl 0 rfl) ?_
  refine va_slen hx hb hX hbl hbA hS dL_cell_2 ?_
  refine lv_icmp_ge (tgt := 12) hx hb dL_cell_3 (by decide) (fun q => ?_) (fun q => ?_)
  · refine lv_iconst (v := 0) hx hb dL_cell_12 (by decide) ?_
    exact W.iret (v := 0) hx hb B.returns (fun t ht hW => ⟨⟨0, (), rfl, (if_pos q).symm, trivial⟩, hS.F ht⟩) hS.2.2 dL_cell_13 B.notSynchronized
  · refine lv_aload_n hx hb dL_cell_6 rfl (lv_at hl 0 rfl) ?_
    refine lv_iload_n hx hb dL_cell_7 rfl (lv_at hl 1 rfl) ?_
    have hin : vp_in 0 L := fun h => by
      rcases h with h | h
      · exact absurd h (by decide)
      · have e0 : L = 0 := Nat.le_zero.mp h
        subst e0
        exact q (by decide)
    refine va_sld (i := 0) hx hb hX hbl hbA hS hin dL_cell_8 ?_
    refine lv_goto (tgt := 13) hx hb dL_cell_9 (by decide) ?_
    exact W.iret (v := xs 0) hx hb B.returns (fun t ht hW => ⟨⟨xs 0, (), rfl, (if_neg q).symm, trivial⟩, hS.F ht⟩) hS.2.2 dL_cell_13 B.notSynchronized
theorem hdL_cell : yL_cell.cls ≠ "java/lang/invoke/MethodHandle" ∧ yL_cell.cls ≠ "java/lang/invoke/VarHandle" ∧ (parseMethodDescriptor yL_cell.desc).map (fun d => d.parameters.length) = some 2 := by decide +kernel
section ZCL
variable {p : Program} {l : Launch} {e : Env} {R : Room} {s : State} {m : MethodId} {args : Array Value} {below : List Frame} {meth : Method} {c : Code} {H H1 : Heap} {locs locs1 : List Loc} {cells slots : Nat} {Q : State → Prop}
variable {st : Nat → Nat} {D : va_G} {tys : List (ClassId × FieldType)} {A : Nat → Prop} {cc : ByteArray} {nL : Nat} {Ts : List Cond} {own : String} {pc index : Nat} {ls : Array Slot} {rest st0 : List Value} {ret : Option FieldType} {w : va_W} {lv : List (Nat × Value)} {b L : Nat} {xs : Nat → Int32}
/-- what is not written stays -/
theorem z_stay (hI : zI st D tys w A s H locs) (hS : va_S A s.heap H1 locs1) (hk : ∀ q : Nat, q < H.size → H1[q]? = H[q]?) : zI st D tys w A s H1 locs1 :=
  ⟨hI.1, fun k q h => (hI.2.1 k q h).kept (hk q.1 (hI.2.1 k q h).lt), hI.2.2.1, hS, hI.2.2.2.2⟩
theorem z_cell (hC : zC p m c cc nL s args Ts own meth ret) (hI : zI st D tys w A s H locs) (hX : va_X b L xs s s.heap) (hbl : b < s.heap.size) (hbA : ¬ A b) (hT : GoodIn Ts (va_wsS own index yL_cell wzL_cell)) (hR : 1 ≤ R.frames ∧ 21 ≤ R.locals) (hl : lv_has ls nL lv) (hst : st0 = [.int 0, .ref b] ++ rest) (hW : (rest.map fun v => v.category).sum ≤ 8) (hdg : decode cc pc = .ok (.invokestatic index, 3)) (hcl : cells ≤ R.cells ∧ slots ≤ R.slots)
    (kk : ∀ (H1 : Heap) (locs1 : List Loc), zI st D tys w A s H1 locs1 → W p l e R s m args below meth c H1 locs1 cells slots Q (F0 m (pc + 3) ls (.int (zCell L xs) :: rest))) : W p l e R s m args below meth c H locs cells slots Q (F0 m pc ls st0) := by
  have hS := hI.2.2.2.1
  refine va_calli (va_runS (As := [.ref b, .int 0]) (rest := rest) ⟨hC.1, hC.2.1, hC.2.2.1, hC.2.2.2.1, hC.2.2.2.2.1⟩ (cL_cell_met l b L xs H.size) (va_cwS 2 hC.2.2.2.2.1 hT rfl rfl rfl hdL_cell ⟨hR.1, hR.2⟩) ⟨zXP.blind, fun U hU hW => ⟨rfl, by rw [hU], Nat.lt_of_lt_of_le hbl hS.1, va_X.moved hW.alike (by rw [hU]; exact hX.kept (hS.2.1 b hbl hbA))⟩⟩ rfl rfl hl.1 hst (lv_room hW) hdg hcl) hS (fun q hq h => ?_) (fun q h => ?_) (fun r' u t H1 locs1 ht hvm hw' hB _ hk1 hS1 => ?_)
  · rcases h with ⟨k, e2, h⟩ | h
    · simp at h
    · omega
  · rcases h with ⟨k, e2, h⟩ | h
    · simp at h
    · exact hI.2.2.2.2.1 _ (Nat.le_trans hS.1 h)
  · rw [hw']
    exact kk H1 locs1 (z_stay hI hS1 (fun q hq => hk1 q hq (fun h => by
      rcases h with ⟨k, e2, h⟩ | h
      · simp at h
      · omega)))
end ZCL
end ZJN2
section ZJN3
/-! Calls beside other cells -/
section ZF
variable {p : Program} {l : Launch} {e : Env} {R : Room} {s : State} {m : MethodId} {args : Array Value} {below : List Frame} {meth : Method} {c : Code} {H : Heap} {locs : List Loc} {cells slots : Nat} {Q : State → Prop}
variable {st : Nat → Nat} {D : va_G} {tys tys0 : List (ClassId × FieldType)} {A : Nat → Prop} {cc : ByteArray} {nL : Nat} {Ts : List Cond} {own : String} {pc : Nat} {ls : Array Slot} {rest st0 : List Value} {ret : Option FieldType} {u : va_W}
variable {y : MethodName} {ws ws' : List Cond} {rm : Room} {bytes : ByteArray} {maxL index : Nat} {rt : Option FieldType} {As : List Value} {lv : List (Nat × Value)} {C : String} {b : Nat}
theorem z_fcallVi (hC : zC p m c cc nL s args Ts own meth ret) {w : zSt → va_W} {σ σ1 : zSt} {r : Int32} (hI : zI st D tys0 (u ++ w σ) A s H locs) (hK : va_K D vwCl tys s) (hM : ∀ sz, zMi st l y ws rm (.ref b :: As) D tys w sz σ (σ1, r)) (hT : GoodIn Ts (wsV own index C y ws)) (hw : ws = Cond.code y bytes maxL rt :: ws') (hrm : rm.cells = 0 ∧ rm.slots = 0) (n : Nat)
    (hd : y.cls = C ∧ y.cls ≠ "java/lang/invoke/MethodHandle" ∧ y.cls ≠ "java/lang/invoke/VarHandle" ∧ (parseMethodDescriptor y.desc).map (fun d => d.parameters.length) = some n) (hR : rm.frames + 1 ≤ R.frames ∧ 8 + (maxL + 11) + rm.locals ≤ R.locals)
    {q0 ci : Nat} {q : vw_C} {fs : List Value} (hc : vwCl[ci]? = some q) (hq : q.1 = C) (he : (w σ)[q0]? = some (b, .inr (ci, fs))) (hn : As.length = n) (hl : lv_has ls nL lv) (hst : st0 = As.reverse ++ .ref b :: rest) (hW : (rest.map fun v => v.category).sum ≤ 8) (hdg : decode cc pc = .ok (.invokevirtual index, 3)) (hcl : cells ≤ R.cells ∧ slots ≤ R.slots)
    (kk : ∀ (H1 : Heap) (locs1 : List Loc), zI st D tys0 (u ++ w σ1) A s H1 locs1 → W p l e R s m args below meth c H1 locs1 cells slots Q (F0 m (pc + 3) ls (.int r :: rest))) : W p l e R s m args below meth c H locs cells slots Q (F0 m pc ls st0) := by
  subst hq
  refine va_calli (va_runV (As := As) (rest := rest) ⟨hC.1, hC.2.1, hC.2.2.1, hC.2.2.2.1, hC.2.2.2.2.1⟩ (hM H.size) (cwV n hC.2.2.2.2.1 hT hw hrm.1 hrm.2 hd hR) ⟨zP.blind, va_recv hK (z_subR hI.2.1) hc he, zP.atR hI hK⟩ rfl hn hl.1 hst (lv_room hW) hdg hcl) hI.2.2.2.1 (fun q _ h => z_freeR hI q h) (z_freeR hI) (fun r' u9 t H1 locs1 ht hvm hw' hB _ hk1 hS => ?_)
  obtain ⟨rfl, rfl⟩ := Prod.mk.inj hw'
  exact kk H1 locs1 (z_backR hI ht hB hk1 hS)
theorem z_fcallVl (hC : zC p m c cc nL s args Ts own meth ret) {w : zSt → va_W} {σ σ1 : zSt} {r : Int64} (hI : zI st D tys0 (u ++ w σ) A s H locs) (hK : va_K D vwCl tys s) (hM : ∀ sz, zMl st l y ws rm (.ref b :: As) D tys w sz σ (σ1, r)) (hT : GoodIn Ts (wsV own index C y ws)) (hw : ws = Cond.code y bytes maxL rt :: ws') (hrm : rm.cells = 0 ∧ rm.slots = 0) (n : Nat)
    (hd : y.cls = C ∧ y.cls ≠ "java/lang/invoke/MethodHandle" ∧ y.cls ≠ "java/lang/invoke/VarHandle" ∧ (parseMethodDescriptor y.desc).map (fun d => d.parameters.length) = some n) (hR : rm.frames + 1 ≤ R.frames ∧ 8 + (maxL + 11) + rm.locals ≤ R.locals)
    {q0 ci : Nat} {q : vw_C} {fs : List Value} (hc : vwCl[ci]? = some q) (hq : q.1 = C) (he : (w σ)[q0]? = some (b, .inr (ci, fs))) (hn : As.length = n) (hl : lv_has ls nL lv) (hst : st0 = As.reverse ++ .ref b :: rest) (hW : (rest.map fun v => v.category).sum ≤ 8) (hdg : decode cc pc = .ok (.invokevirtual index, 3)) (hcl : cells ≤ R.cells ∧ slots ≤ R.slots)
    (kk : ∀ (H1 : Heap) (locs1 : List Loc), zI st D tys0 (u ++ w σ1) A s H1 locs1 → W p l e R s m args below meth c H1 locs1 cells slots Q (F0 m (pc + 3) ls (.long r :: rest))) : W p l e R s m args below meth c H locs cells slots Q (F0 m pc ls st0) := by
  subst hq
  refine va_calll (va_runV (As := As) (rest := rest) ⟨hC.1, hC.2.1, hC.2.2.1, hC.2.2.2.1, hC.2.2.2.2.1⟩ (hM H.size) (cwV n hC.2.2.2.2.1 hT hw hrm.1 hrm.2 hd hR) ⟨zP.blind, va_recv hK (z_subR hI.2.1) hc he, zP.atR hI hK⟩ rfl hn hl.1 hst (lv_room hW) hdg hcl) hI.2.2.2.1 (fun q _ h => z_freeR hI q h) (z_freeR hI) (fun r' u9 t H1 locs1 ht hvm hw' hB _ hk1 hS => ?_)
  obtain ⟨rfl, rfl⟩ := Prod.mk.inj hw'
  exact kk H1 locs1 (z_backR hI ht hB hk1 hS)
theorem z_fcallVu (hC : zC p m c cc nL s args Ts own meth ret) {w : zSt → va_W} {σ σ1 : zSt} (hI : zI st D tys0 (u ++ w σ) A s H locs) (hK : va_K D vwCl tys s) (hM : ∀ sz, zMu st l y ws rm (.ref b :: As) D tys w sz σ σ1) (hT : GoodIn Ts (wsV own index C y ws)) (hw : ws = Cond.code y bytes maxL rt :: ws') (hrm : rm.cells = 0 ∧ rm.slots = 0) (n : Nat)
    (hd : y.cls = C ∧ y.cls ≠ "java/lang/invoke/MethodHandle" ∧ y.cls ≠ "java/lang/invoke/VarHandle" ∧ (parseMethodDescriptor y.desc).map (fun d => d.parameters.length) = some n) (hR : rm.frames + 1 ≤ R.frames ∧ 8 + (maxL + 11) + rm.locals ≤ R.locals)
    {q0 ci : Nat} {q : vw_C} {fs : List Value} (hc : vwCl[ci]? = some q) (hq : q.1 = C) (he : (w σ)[q0]? = some (b, .inr (ci, fs))) (hn : As.length = n) (hl : lv_has ls nL lv) (hst : st0 = As.reverse ++ .ref b :: rest) (hW : (rest.map fun v => v.category).sum ≤ 8) (hdg : decode cc pc = .ok (.invokevirtual index, 3)) (hcl : cells ≤ R.cells ∧ slots ≤ R.slots)
    (kk : ∀ (H1 : Heap) (locs1 : List Loc), zI st D tys0 (u ++ w σ1) A s H1 locs1 → W p l e R s m args below meth c H1 locs1 cells slots Q (F0 m (pc + 3) ls rest)) : W p l e R s m args below meth c H locs cells slots Q (F0 m pc ls st0) := by
  subst hq
  refine va_callv (va_runV (As := As) (rest := rest) ⟨hC.1, hC.2.1, hC.2.2.1, hC.2.2.2.1, hC.2.2.2.2.1⟩ (hM H.size) (cwV n hC.2.2.2.2.1 hT hw hrm.1 hrm.2 hd hR) ⟨zP.blind, va_recv hK (z_subR hI.2.1) hc he, zP.atR hI hK⟩ rfl hn hl.1 hst (lv_room hW) hdg hcl) hI.2.2.2.1 (fun q _ h => z_freeR hI q h) (z_freeR hI) (fun u9 t H1 locs1 ht hvm hw' hB _ hk1 hS => ?_)
  subst hw'
  exact kk H1 locs1 (z_backR hI ht hB hk1 hS)
/-- a helper of the law's -/
theorem z_fcallH (hC : zC p m c cc nL s args Ts own meth ret) {S : Type} {w : S → va_W} {x x1 : S} {r : Int32} (hI : zI st D tys0 (u ++ w x) A s H locs) (hK : va_K D vwCl tys s) (hM : ∀ sz, zH st l y ws rm As D tys w sz x (x1, r)) {hh : List (Nat × Nat × Nat × Nat)} (hT : GoodIn Ts (va_wsS own index y ws)) (hw : ws = Cond.codeWith y bytes maxL rt hh :: ws') (hrm : rm.cells = 1 ∧ rm.slots = 6) (n : Nat)
    (hd : y.cls ≠ "java/lang/invoke/MethodHandle" ∧ y.cls ≠ "java/lang/invoke/VarHandle" ∧ (parseMethodDescriptor y.desc).map (fun d => d.parameters.length) = some n) (hR : rm.frames + 1 ≤ R.frames ∧ 8 + (maxL + 11) + rm.locals ≤ R.locals)
    (hn : As.length = n) (hl : lv_has ls nL lv) (hst : st0 = As.reverse ++ rest) (hW : (rest.map fun v => v.category).sum ≤ 8) (hdg : decode cc pc = .ok (.invokestatic index, 3)) (hcl : cells + 1 ≤ R.cells ∧ slots + 6 ≤ R.slots)
    (kk : ∀ (H1 : Heap) (locs1 : List Loc), zI st D tys0 (u ++ w x1) A s H1 locs1 → W p l e R s m args below meth c H1 locs1 (cells + 1) (slots + 6) Q (F0 m (pc + 3) ls (.int r :: rest))) : W p l e R s m args below meth c H locs cells slots Q (F0 m pc ls st0) := by
  refine vx_calli (vx_runSX (As := As) (rest := rest) (hh := hh) ⟨hC.1, hC.2.1, hC.2.2.1, hC.2.2.2.1, hC.2.2.2.2.1⟩ (hM H.size) (vx_cwSW n hC.2.2.2.2.1 hT hw hrm.1 hrm.2 hd hR) ⟨zP.blind, zP.atR hI hK⟩ rfl hn hl.1 hst (lv_room hW) hdg hcl) hI.2.2.2.1 (fun q _ h => z_freeR hI q h) (z_freeR hI) (fun q _ h => z_freeR hI q h) (fun E ce q9 u9 t H1 locs1 ht hvm hF => hF.elim) (fun r' u9 t H1 locs1 ht hvm hw' hB _ hk1 hS => ?_)
  obtain ⟨rfl, rfl⟩ := Prod.mk.inj hw'
  obtain ⟨hP1, hK1, hD1⟩ := hB
  rw [ht] at hP1
  obtain ⟨hP, hD⟩ := z_seg hI.2.1 hI.2.2.1 hk1 (z_freeR hI) hP1 hD1
  exact kk H1 locs1 ⟨hI.1, hP, hD, hS, hI.2.2.2.2⟩
end ZF
end ZJN3
