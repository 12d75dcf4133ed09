/-! Methods that return or throw -/
abbrev zRi : Type := (zSt × Int32) ⊕ (zSt × Nat)
abbrev zRl : Type := (zSt × Int64) ⊕ (zSt × Nat)
abbrev zRu : Type := zSt ⊕ (zSt × Nat)
/-- where it has thrown: which exception, and the world -/
def zXX {ρ : Type} (D : va_G) (tys : List (ClassId × FieldType)) (w : zSt → va_W) (A : Nat → Prop) (res : ρ ⊕ (zSt × Nat)) : String → State → State → Prop := vx_X (fun _ : zSt => True) (fun E u t => (∃ k, Sum.inr (u, k) = res ∧ E = zEx k) ∧ zB D tys w A u t) A
def zXi (st : Nat → Nat) (l : Launch) (y : MethodName) (ws : List Cond) (rm : Room) (av : List Value) (D : va_G) (tys : List (ClassId × FieldType)) (w : zSt → va_W) (sz : Nat) (σ : zSt) (res : zRi) : Prop :=
  vx_Met l y ws rm (va_Pc av (zP st D tys (w σ) sz)) (va_Qi (fun (r : Int32) (u : zSt) => Sum.inl (u, r) = res) (zB D tys w (va_A (w σ) sz)) (va_A (w σ) sz)) (zXX D tys w (va_A (w σ) sz) res) 1 6 (va_A (w σ) sz)
def zXl (st : Nat → Nat) (l : Launch) (y : MethodName) (ws : List Cond) (rm : Room) (av : List Value) (D : va_G) (tys : List (ClassId × FieldType)) (w : zSt → va_W) (sz : Nat) (σ : zSt) (res : zRl) : Prop :=
  vx_Met l y ws rm (va_Pc av (zP st D tys (w σ) sz)) (va_Ql (fun (r : Int64) (u : zSt) => Sum.inl (u, r) = res) (zB D tys w (va_A (w σ) sz)) (va_A (w σ) sz)) (zXX D tys w (va_A (w σ) sz) res) 1 6 (va_A (w σ) sz)
def zXu (st : Nat → Nat) (l : Launch) (y : MethodName) (ws : List Cond) (rm : Room) (av : List Value) (D : va_G) (tys : List (ClassId × FieldType)) (w : zSt → va_W) (sz : Nat) (σ : zSt) (res : zRu) : Prop :=
  vx_Met l y ws rm (va_Pc av (zP st D tys (w σ) sz)) (va_Qv (fun (u : zSt) => Sum.inl u = res) (zB D tys w (va_A (w σ) sz)) (va_A (w σ) sz)) (zXX D tys w (va_A (w σ) sz) res) 1 6 (va_A (w σ) sz)
def zXQi (below : List Frame) (args : Array Value) (s : State) (D : va_G) (tys : List (ClassId × FieldType)) (w : zSt → va_W) (A : Nat → Prop) (res : zRi) : State → Prop := vx_MQ below (va_Qi (fun (r : Int32) (u : zSt) => Sum.inl (u, r) = res) (zB D tys w A) A) (zXX D tys w A res) args s 1 6 A
def zXQl (below : List Frame) (args : Array Value) (s : State) (D : va_G) (tys : List (ClassId × FieldType)) (w : zSt → va_W) (A : Nat → Prop) (res : zRl) : State → Prop := vx_MQ below (va_Ql (fun (r : Int64) (u : zSt) => Sum.inl (u, r) = res) (zB D tys w A) A) (zXX D tys w A res) args s 1 6 A
def zXQu (below : List Frame) (args : Array Value) (s : State) (D : va_G) (tys : List (ClassId × FieldType)) (w : zSt → va_W) (A : Nat → Prop) (res : zRu) : State → Prop := vx_MQ below (va_Qv (fun (u : zSt) => Sum.inl u = res) (zB D tys w A) A) (zXX D tys w A res) args s 1 6 A
section ZX
variable {p : Program} {l : Launch} {e : Env} {R : Room} {s : State} {m : MethodId} {args : Array Value} {below : List Frame} {meth : Method} {c : Code} {H : Heap} {locs : List Loc} {cells slots : Nat} {Q : State → Prop}
variable {st : Nat → Nat} {D : va_G} {tys : List (ClassId × FieldType)} {A : Nat → Prop} {cc : ByteArray} {nL : Nat} {Ts : List Cond} {own : String} {pc : Nat} {ls : Array Slot} {rest : List Value} {ret : Option FieldType} {lv0 : List (Nat × Value)}
theorem zXi.of {y : MethodName} {ws ws' : List Cond} {rm : Room} {av : List Value} {w : zSt → va_W} {sz : Nat} {σ : zSt} {res : zRi} {maxL : Nat} (hy : plainName y.cls = true) (hw : ws = Cond.code y cc maxL ret :: ws') (hle : (lg_sl av).length ≤ maxL)
    (k : ∀ (p : Program) (e : Env) (s : State) (m : MethodId) (args : Array Value) (below : List Frame) (meth : Method) (c : Code), zC p m c cc maxL s args ws y.cls meth ret → (∀ x ∈ c.exceptionTable.toList, False) → ∀ A : Nat → Prop, zI st D tys (w σ) A s s.heap [] → ∀ ls : Array Slot, lv_has ls maxL (lv_args 0 av) → W p l e (headSpec ws rm).room s m args below meth c s.heap [] 0 0 (zXQi below args s D tys w A res) (F0 m 0 ls [])) : zXi st l y ws rm av D tys w sz σ res := by
  refine vx_ofW (cc := cc) (maxL := maxL) (ret := ret) hy hw ?_
  intro p e s m args below meth c s₁ B hml hE hv
  obtain ⟨rfl, hv⟩ := hv
  have hl := lv_entry av (n := maxL) hle
  rw [lg_entry_eq]
  exact k p e s m av.toArray below meth c ⟨B.exec, B.bytes, hml, findClass_of_methodNamed B.named, atoms_spec (ws := ws) B.pre, B.returns, B.notSynchronized⟩ hE _ (zI.start hv) _ hl
theorem zXl.of {y : MethodName} {ws ws' : List Cond} {rm : Room} {av : List Value} {w : zSt → va_W} {sz : Nat} {σ : zSt} {res : zRl} {maxL : Nat} (hy : plainName y.cls = true) (hw : ws = Cond.code y cc maxL ret :: ws') (hle : (lg_sl av).length ≤ maxL)
    (k : ∀ (p : Program) (e : Env) (s : State) (m : MethodId) (args : Array Value) (below : List Frame) (meth : Method) (c : Code), zC p m c cc maxL s args ws y.cls meth ret → (∀ x ∈ c.exceptionTable.toList, False) → ∀ A : Nat → Prop, zI st D tys (w σ) A s s.heap [] → ∀ ls : Array Slot, lv_has ls maxL (lv_args 0 av) → W p l e (headSpec ws rm).room s m args below meth c s.heap [] 0 0 (zXQl below args s D tys w A res) (F0 m 0 ls [])) : zXl st l y ws rm av D tys w sz σ res := by
  refine vx_ofW (cc := cc) (maxL := maxL) (ret := ret) hy hw ?_
  intro p e s m args below meth c s₁ B hml hE hv
  obtain ⟨rfl, hv⟩ := hv
  have hl := lv_entry av (n := maxL) hle
  rw [lg_entry_eq]
  exact k p e s m av.toArray below meth c ⟨B.exec, B.bytes, hml, findClass_of_methodNamed B.named, atoms_spec (ws := ws) B.pre, B.returns, B.notSynchronized⟩ hE _ (zI.start hv) _ hl
theorem zXu.of {y : MethodName} {ws ws' : List Cond} {rm : Room} {av : List Value} {w : zSt → va_W} {sz : Nat} {σ : zSt} {res : zRu} {maxL : Nat} (hy : plainName y.cls = true) (hw : ws = Cond.code y cc maxL ret :: ws') (hle : (lg_sl av).length ≤ maxL)
    (k : ∀ (p : Program) (e : Env) (s : State) (m : MethodId) (args : Array Value) (below : List Frame) (meth : Method) (c : Code), zC p m c cc maxL s args ws y.cls meth ret → (∀ x ∈ c.exceptionTable.toList, False) → ∀ A : Nat → Prop, zI st D tys (w σ) A s s.heap [] → ∀ ls : Array Slot, lv_has ls maxL (lv_args 0 av) → W p l e (headSpec ws rm).room s m args below meth c s.heap [] 0 0 (zXQu below args s D tys w A res) (F0 m 0 ls [])) : zXu st l y ws rm av D tys w sz σ res := by
  refine vx_ofW (cc := cc) (maxL := maxL) (ret := ret) hy hw ?_
  intro p e s m args below meth c s₁ B hml hE hv
  obtain ⟨rfl, hv⟩ := hv
  have hl := lv_entry av (n := maxL) hle
  rw [lg_entry_eq]
  exact k p e s m av.toArray below meth c ⟨B.exec, B.bytes, hml, findClass_of_methodNamed B.named, atoms_spec (ws := ws) B.pre, B.returns, B.notSynchronized⟩ hE _ (zI.start hv) _ hl
theorem z_xireturn (hC : zC p m c cc nL s args Ts own meth (some .int)) {w : zSt → va_W} {σ : zSt} (hI : zI st D tys (w σ) A s H locs) {v : Int32} {res : zRi} (hf : some (Sum.inl (σ, v)) = some res) (hdg : decode cc pc = .ok (.ireturn, 1)) : W p l e R s m args below meth c H locs 0 0 (zXQi below args s D tys w A res) (F0 m pc ls [.int v]) := by
  obtain ⟨hx, hb, hml, hown, hts, hr, hlk⟩ := hC
  obtain ⟨hK, hP, hD, hS, hA, hT⟩ := hI
  refine W.widen (k := 1) (n := 6) (Nat.zero_le _) (Nat.zero_le _) (vx_ret ?_)
  exact W.iret (v := v) hx hb hr (fun t ht hW => ⟨⟨v, σ, rfl, Option.some.inj hf, by rw [ht]; exact hP, va_K.moved hW.alike hK, hD⟩, hS.F ht⟩) hS.2.2 hdg hlk
theorem z_xlreturn (hC : zC p m c cc nL s args Ts own meth (some .long)) {w : zSt → va_W} {σ : zSt} (hI : zI st D tys (w σ) A s H locs) {v : Int64} {res : zRl} (hf : some (Sum.inl (σ, v)) = some res) (hdg : decode cc pc = .ok (.lreturn, 1)) : W p l e R s m args below meth c H locs 0 0 (zXQl below args s D tys w A res) (F0 m pc ls [.long v]) := by
  obtain ⟨hx, hb, hml, hown, hts, hr, hlk⟩ := hC
  obtain ⟨hK, hP, hD, hS, hA, hT⟩ := hI
  refine W.widen (k := 1) (n := 6) (Nat.zero_le _) (Nat.zero_le _) (vx_ret ?_)
  exact W.lret (v := v) hx hb hr (fun t ht hW => ⟨⟨v, σ, rfl, Option.some.inj hf, by rw [ht]; exact hP, va_K.moved hW.alike hK, hD⟩, hS.F ht⟩) hS.2.2 hdg hlk
theorem z_xreturn (hC : zC p m c cc nL s args Ts own meth none) {w : zSt → va_W} {σ : zSt} (hI : zI st D tys (w σ) A s H locs) {res : zRu} (hf : some (Sum.inl σ) = some res) (hdg : decode cc pc = .ok (.return_, 1)) : W p l e R s m args below meth c H locs 0 0 (zXQu below args s D tys w A res) (F0 m pc ls []) := by
  obtain ⟨hx, hb, hml, hown, hts, hr, hlk⟩ := hC
  obtain ⟨hK, hP, hD, hS, hA, hT⟩ := hI
  refine W.widen (k := 1) (n := 6) (Nat.zero_le _) (Nat.zero_le _) (vx_ret ?_)
  exact W.vret hx hb hr (fun t ht hW => ⟨⟨σ, rfl, Option.some.inj hf, by rw [ht]; exact hP, va_K.moved hW.alike hK, hD⟩, hS.F ht⟩) hS.2.2 hdg hlk
/-- behind a throw: the world is as it was -/
theorem z_xx {ρ : Type} {w : zSt → va_W} {σ : zSt} (hI : zI st D tys (w σ) A s H locs) {k : Nat} {res : ρ ⊕ (zSt × Nat)} (hf : Sum.inr (σ, k) = res) : ∀ t : State, s.vm.Alike t.vm → H.size ≤ t.heap.size → (∀ q : Nat, q < H.size → t.heap[q]? = H[q]?) → zXX D tys w A res (zEx k) s t := by
  intro t hvm hsz hq
  obtain ⟨hK, hP, hD, hS, hA, hT⟩ := hI
  refine ⟨σ, trivial, ⟨⟨k, hf, rfl⟩, fun i q hi => ?_, va_K.moved hvm hK, hD⟩, Nat.le_trans hS.1 hsz, fun q h1 h2 => ?_⟩
  · exact (hP i q hi).kept (hq q.1 (hP i q hi).lt)
  · exact (hq q (Nat.lt_of_lt_of_le h1 hS.1)).trans (hS.2.1 q h1 h2)
abbrev zY0 : String := "java/lang/RuntimeException"
abbrev zNm1 : List String := ["java/lang/Exception"]
abbrev zNm : List String := ["java/lang/RuntimeException", "java/lang/Exception"]
theorem z_throw (hC : zC p m c cc nL s args Ts own meth ret) (hE : ∀ x ∈ c.exceptionTable.toList, False) (hst : l.stackTraces = false) {ρ : Type} {w : zSt → va_W} {σ : zSt} (hI : zI st D tys (w σ) A s H locs) (hl : lv_has ls nL lv0) {Qc : Array Value → State → Outcome → State → Prop} {res : ρ ⊕ (zSt × Nat)} (k : Nat) (hf : some (Sum.inr (σ, k)) = some res)
    {ik is ic : Nat} (hcls : Bundle.fit (zEx k) = true) (hk : Cond.classLink own ik (zEx k) ∈ Ts) (hini : Cond.initialized (zEx k) ∈ Ts) (i : Nat) (hi : i < zNK) (ho : zkO i = own) (hx : zkI i = is)
    (hat : ∀ w ∈ (vx_atS own ic (zEx k) zNm).filter goodWord, w ∈ Ts) (hno : ∀ w ∈ (vx_atS own ic (zEx k) zNm).filter (fun w => !goodWord w), w ∈ ([.castable (zEx k) (zEx k), .declares (zIn "java/lang/RuntimeException"), .declares (zIn "java/lang/Exception"), .declares (zIn "java/lang/Throwable")] : List Cond)) (hgood : ∀ w ∈ Cond.classLink own ik (zEx k) :: Cond.initialized (zEx k) :: vx_atS own ic (zEx k) zNm, vx_ot w = true)
    (d0 : decode cc pc = .ok (.new ik, 3)) (d3 : decode cc (pc + 3) = .ok (.dup, 1)) (d4 : decode cc (pc + 4) = .ok (.ldc is, 2)) (d6 : decode cc (pc + 6) = .ok (.invokespecial ic, 3)) (d9 : decode cc (pc + 9) = .ok (.athrow, 1))
    (hRf : 5 < R.frames) (hRl : (rest.map fun v => v.category).sum + 82 ≤ R.locals) (hRc : 1 ≤ R.cells) (hRs : 6 ≤ R.slots) : W p l e R s m args below meth c H locs 0 0 (vx_MQ below Qc (zXX D tys w A res) args s 1 6 A) (F0 m pc ls rest) := by
  subst ho hx
  obtain ⟨hxx, hb, hml, hown, hts, hr, hlk⟩ := id hC
  have hT := hI.2.2.2.2.2
  exact vx_throwS (names := zNm) hxx hb hst hown hcls (by decide) (hts _ hk) (hts _ hini) (hT.2.2.1 i hi) (vx_hat (fun w hw => hts w (hat w hw)) hno (vx_c (va_Nw.use rfl (hT.2.2.2.2.2.2.2.1 k)) (vx_c (va_Nw.use rfl (hT.2.2.2.2.2.2.2.2.2.1 _ (by decide))) (vx_c (va_Nw.use rfl (hT.2.2.2.2.2.2.2.2.2.1 _ (by decide))) (vx_c (va_Nw.use rfl (hT.2.2.2.2.2.2.2.2.2.1 _ (by decide))) vx_n))))) hgood hT.2.2.2.2.2.1 hT.2.2.2.2.2.2.1 hI.2.2.2.1 (hl.1.trans hml.symm) d0 d3 d4 d6 d9 (fun x h => (hE x h).elim) hRf hRl (by omega) (by omega) hlk (z_xx hI (Option.some.inj hf)) hI.2.2.2.1.2.2 (by omega) (by omega)
theorem z_throwW (hC : zC p m c cc nL s args Ts own meth ret) (hE : ∀ x ∈ c.exceptionTable.toList, False) (hst : l.stackTraces = false) {ρ : Type} {w : zSt → va_W} {σ : zSt} (hI : zI st D tys (w σ) A s H locs) (hl : lv_has ls nL lv0) {Qc : Array Value → State → Outcome → State → Prop} {res : ρ ⊕ (zSt × Nat)} (k : Nat) (hf : some (Sum.inr (σ, k)) = some res)
    {ik is ic : Nat} (hcls : Bundle.fit (zEx k) = true) (hk : Cond.classLink own ik (zEx k) ∈ Ts) (hini : Cond.initialized (zEx k) ∈ Ts) (i : Nat) (hi : i < zNK) (ho : zkO i = own) (hx : zkI i = is)
    (hat : ∀ w ∈ (vx_atS own ic (zEx k) zNm).filter goodWord, w ∈ Ts) (hno : ∀ w ∈ (vx_atS own ic (zEx k) zNm).filter (fun w => !goodWord w), w ∈ ([.castable (zEx k) (zEx k), .declares (zIn "java/lang/RuntimeException"), .declares (zIn "java/lang/Exception"), .declares (zIn "java/lang/Throwable")] : List Cond)) (hgood : ∀ w ∈ Cond.classLink own ik (zEx k) :: Cond.initialized (zEx k) :: vx_atS own ic (zEx k) zNm, vx_ot w = true)
    (d0 : decode cc pc = .ok (.new ik, 3)) (d3 : decode cc (pc + 3) = .ok (.dup, 1)) (d4 : decode cc (pc + 4) = .ok (.ldc_w is, 3)) (d7 : decode cc (pc + 7) = .ok (.invokespecial ic, 3)) (d10 : decode cc (pc + 10) = .ok (.athrow, 1))
    (hRf : 5 < R.frames) (hRl : (rest.map fun v => v.category).sum + 82 ≤ R.locals) (hRc : 1 ≤ R.cells) (hRs : 6 ≤ R.slots) : W p l e R s m args below meth c H locs 0 0 (vx_MQ below Qc (zXX D tys w A res) args s 1 6 A) (F0 m pc ls rest) := by
  subst ho hx
  obtain ⟨hxx, hb, hml, hown, hts, hr, hlk⟩ := id hC
  have hT := hI.2.2.2.2.2
  exact vx_throwSW (names := zNm) hxx hb hst hown hcls (by decide) (hts _ hk) (hts _ hini) (hT.2.2.1 i hi) (vx_hat (fun w hw => hts w (hat w hw)) hno (vx_c (va_Nw.use rfl (hT.2.2.2.2.2.2.2.1 k)) (vx_c (va_Nw.use rfl (hT.2.2.2.2.2.2.2.2.2.1 _ (by decide))) (vx_c (va_Nw.use rfl (hT.2.2.2.2.2.2.2.2.2.1 _ (by decide))) (vx_c (va_Nw.use rfl (hT.2.2.2.2.2.2.2.2.2.1 _ (by decide))) vx_n))))) hgood hT.2.2.2.2.2.1 hT.2.2.2.2.2.2.1 hI.2.2.2.1 (hl.1.trans hml.symm) d0 d3 d4 d7 d10 (fun x h => (hE x h).elim) hRf hRl (by omega) (by omega) hlk (z_xx hI (Option.some.inj hf)) hI.2.2.2.1.2.2 (by omega) (by omega)
theorem z_throw3 (hC : zC p m c cc nL s args Ts own meth ret) (hE : ∀ x ∈ c.exceptionTable.toList, False) (hst : l.stackTraces = false) {ρ : Type} {w : zSt → va_W} {σ : zSt} (hI : zI st D tys (w σ) A s H locs) (hl : lv_has ls nL lv0) {Qc : Array Value → State → Outcome → State → Prop} {res : ρ ⊕ (zSt × Nat)} (k : Nat) (hf : some (Sum.inr (σ, k)) = some res)
    {ik is ic : Nat} (hcls : Bundle.fit (zEx k) = true) (hk : Cond.classLink own ik (zEx k) ∈ Ts) (hini : Cond.initialized (zEx k) ∈ Ts) (i : Nat) (hi : i < zNK) (ho : zkO i = own) (hx : zkI i = is)
    (hat : ∀ w ∈ (zx_at own ic (zEx k) zY0 13 zx_bs zNm1).filter goodWord, w ∈ Ts) (hno : ∀ w ∈ (zx_at own ic (zEx k) zY0 13 zx_bs zNm1).filter (fun w => !goodWord w), w ∈ ([.castable (zEx k) (zEx k), .declares (zIn "java/lang/RuntimeException"), .declares (zIn "java/lang/Exception"), .declares (zIn "java/lang/Throwable")] : List Cond)) (hgood : ∀ w ∈ Cond.classLink own ik (zEx k) :: Cond.initialized (zEx k) :: zx_at own ic (zEx k) zY0 13 zx_bs zNm1, vx_ot w = true)
    (d0 : decode cc pc = .ok (.new ik, 3)) (d3 : decode cc (pc + 3) = .ok (.dup, 1)) (d4 : decode cc (pc + 4) = .ok (.ldc is, 2)) (d6 : decode cc (pc + 6) = .ok (.invokespecial ic, 3)) (d9 : decode cc (pc + 9) = .ok (.athrow, 1))
    (hRf : 5 < R.frames) (hRl : (rest.map fun v => v.category).sum + 82 ≤ R.locals) (hRc : 1 ≤ R.cells) (hRs : 6 ≤ R.slots) : W p l e R s m args below meth c H locs 0 0 (vx_MQ below Qc (zXX D tys w A res) args s 1 6 A) (F0 m pc ls rest) := by
  subst ho hx
  obtain ⟨hxx, hb, hml, hown, hts, hr, hlk⟩ := id hC
  have hT := hI.2.2.2.2.2
  exact zx_throwS (names := zNm1) hxx hb hst hown hcls (by decide) (by decide) (by decide +kernel) (by decide +kernel) (by decide +kernel) (by decide +kernel) (hts _ hk) (hts _ hini) (hT.2.2.1 i hi) (vx_hat (fun w hw => hts w (hat w hw)) hno (vx_c (va_Nw.use rfl (hT.2.2.2.2.2.2.2.1 k)) (vx_c (va_Nw.use rfl (hT.2.2.2.2.2.2.2.2.2.1 _ (by decide))) (vx_c (va_Nw.use rfl (hT.2.2.2.2.2.2.2.2.2.1 _ (by decide))) (vx_c (va_Nw.use rfl (hT.2.2.2.2.2.2.2.2.2.1 _ (by decide))) vx_n))))) hgood hT.2.2.2.2.2.1 hT.2.2.2.2.2.2.1 hI.2.2.2.1 (hl.1.trans hml.symm) d0 d3 d4 d6 d9 (fun x h => (hE x h).elim) hRf hRl (by omega) (by omega) hlk (z_xx hI (Option.some.inj hf)) hI.2.2.2.1.2.2 (by omega) (by omega)
theorem z_throw3W (hC : zC p m c cc nL s args Ts own meth ret) (hE : ∀ x ∈ c.exceptionTable.toList, False) (hst : l.stackTraces = false) {ρ : Type} {w : zSt → va_W} {σ : zSt} (hI : zI st D tys (w σ) A s H locs) (hl : lv_has ls nL lv0) {Qc : Array Value → State → Outcome → State → Prop} {res : ρ ⊕ (zSt × Nat)} (k : Nat) (hf : some (Sum.inr (σ, k)) = some res)
    {ik is ic : Nat} (hcls : Bundle.fit (zEx k) = true) (hk : Cond.classLink own ik (zEx k) ∈ Ts) (hini : Cond.initialized (zEx k) ∈ Ts) (i : Nat) (hi : i < zNK) (ho : zkO i = own) (hx : zkI i = is)
    (hat : ∀ w ∈ (zx_at own ic (zEx k) zY0 13 zx_bs zNm1).filter goodWord, w ∈ Ts) (hno : ∀ w ∈ (zx_at own ic (zEx k) zY0 13 zx_bs zNm1).filter (fun w => !goodWord w), w ∈ ([.castable (zEx k) (zEx k), .declares (zIn "java/lang/RuntimeException"), .declares (zIn "java/lang/Exception"), .declares (zIn "java/lang/Throwable")] : List Cond)) (hgood : ∀ w ∈ Cond.classLink own ik (zEx k) :: Cond.initialized (zEx k) :: zx_at own ic (zEx k) zY0 13 zx_bs zNm1, vx_ot w = true)
    (d0 : decode cc pc = .ok (.new ik, 3)) (d3 : decode cc (pc + 3) = .ok (.dup, 1)) (d4 : decode cc (pc + 4) = .ok (.ldc_w is, 3)) (d7 : decode cc (pc + 7) = .ok (.invokespecial ic, 3)) (d10 : decode cc (pc + 10) = .ok (.athrow, 1))
    (hRf : 5 < R.frames) (hRl : (rest.map fun v => v.category).sum + 82 ≤ R.locals) (hRc : 1 ≤ R.cells) (hRs : 6 ≤ R.slots) : W p l e R s m args below meth c H locs 0 0 (vx_MQ below Qc (zXX D tys w A res) args s 1 6 A) (F0 m pc ls rest) := by
  subst ho hx
  obtain ⟨hxx, hb, hml, hown, hts, hr, hlk⟩ := id hC
  have hT := hI.2.2.2.2.2
  exact zx_throwSW (names := zNm1) hxx hb hst hown hcls (by decide) (by decide) (by decide +kernel) (by decide +kernel) (by decide +kernel) (by decide +kernel) (hts _ hk) (hts _ hini) (hT.2.2.1 i hi) (vx_hat (fun w hw => hts w (hat w hw)) hno (vx_c (va_Nw.use rfl (hT.2.2.2.2.2.2.2.1 k)) (vx_c (va_Nw.use rfl (hT.2.2.2.2.2.2.2.2.2.1 _ (by decide))) (vx_c (va_Nw.use rfl (hT.2.2.2.2.2.2.2.2.2.1 _ (by decide))) (vx_c (va_Nw.use rfl (hT.2.2.2.2.2.2.2.2.2.1 _ (by decide))) vx_n))))) hgood hT.2.2.2.2.2.1 hT.2.2.2.2.2.2.1 hI.2.2.2.1 (hl.1.trans hml.symm) d0 d3 d4 d7 d10 (fun x h => (hE x h).elim) hRf hRl (by omega) (by omega) hlk (z_xx hI (Option.some.inj hf)) hI.2.2.2.1.2.2 (by omega) (by omega)
end ZX
theorem zXg1 : ∀ w ∈ Cond.classLink RX11 95 (zEx 1) :: Cond.initialized (zEx 1) :: vx_atS RX11 99 (zEx 1) zNm, vx_ot w = true := by decide +kernel
theorem zXn1 : ∀ w ∈ (vx_atS RX11 99 (zEx 1) zNm).filter (fun w => !goodWord w), w ∈ ([.castable (zEx 1) (zEx 1), .declares (zIn "java/lang/RuntimeException"), .declares (zIn "java/lang/Exception"), .declares (zIn "java/lang/Throwable")] : List Cond) := by decide +kernel
theorem zXg2 : ∀ w ∈ Cond.classLink RX11 107 (zEx 2) :: Cond.initialized (zEx 2) :: vx_atS RX11 111 (zEx 2) zNm, vx_ot w = true := by decide +kernel
theorem zXn2 : ∀ w ∈ (vx_atS RX11 111 (zEx 2) zNm).filter (fun w => !goodWord w), w ∈ ([.castable (zEx 2) (zEx 2), .declares (zIn "java/lang/RuntimeException"), .declares (zIn "java/lang/Exception"), .declares (zIn "java/lang/Throwable")] : List Cond) := by decide +kernel
theorem zXg3 : ∀ w ∈ Cond.classLink RX11 200 (zEx 3) :: Cond.initialized (zEx 3) :: zx_at RX11 204 (zEx 3) zY0 13 zx_bs zNm1, vx_ot w = true := by decide +kernel
theorem zXn3 : ∀ w ∈ (zx_at RX11 204 (zEx 3) zY0 13 zx_bs zNm1).filter (fun w => !goodWord w), w ∈ ([.castable (zEx 3) (zEx 3), .declares (zIn "java/lang/RuntimeException"), .declares (zIn "java/lang/Exception"), .declares (zIn "java/lang/Throwable")] : List Cond) := by decide +kernel
theorem zx1 : ∀ w ∈ (vx_atS RX11 99 (zEx 1) zNm).filter goodWord, w ∈ wsL_law := fun _ h => List.mem_append_left _ (List.mem_append_left _ (List.mem_append_right _ h))
theorem zx2 : ∀ w ∈ (vx_atS RX11 111 (zEx 2) zNm).filter goodWord, w ∈ wsL_law := fun _ h => List.mem_append_left _ (List.mem_append_right _ h)
theorem zx3 : ∀ w ∈ (zx_at RX11 204 (zEx 3) zY0 13 zx_bs zNm1).filter goodWord, w ∈ wsL_law := fun _ h => List.mem_append_right _ h
