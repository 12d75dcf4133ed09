/-! BASE: states as two tables of numbers (cell, place), steps of pure functions, and the kit's rows over one world -/
abbrev zSt : Type := (Nat → Nat → Int32) × (Nat → Nat → Int64)
def zgi (σ : zSt) (k j : Nat) : Int32 := σ.1 k j
def zgl (σ : zSt) (k j : Nat) : Int64 := σ.2 k j
def zsi (σ : zSt) (k j : Nat) (v : Int32) : zSt := (fun a => bif Nat.beq a k then upd (σ.1 a) j v else σ.1 a, σ.2)
def zsl (σ : zSt) (k j : Nat) (v : Int64) : zSt := (σ.1, fun a => bif Nat.beq a k then vp_updL (σ.2 a) j v else σ.2 a)
def zbv {α β : Type} (x : α) (f : α → β) : β := f x
def zck {α : Type} (b : Bool) (x : Option α) : Option α := bif b then x else none
def zbi {α : Type} (o : Option (zSt × Int32)) (f : zSt → Int32 → Option α) : Option α := match o with | none => none | some r => f r.1 r.2
def zbl {α : Type} (o : Option (zSt × Int64)) (f : zSt → Int64 → Option α) : Option α := match o with | none => none | some r => f r.1 r.2
def zbu {α : Type} (o : Option zSt) (f : zSt → Option α) : Option α := match o with | none => none | some r => f r
def zin (i : Int32) (n : Nat) : Bool := !(decide (i < 0) || decide (n ≤ i.toNatClampNeg))
def zmax (x y : Int32) : Int32 := if x < y then y else x
def zmin (x y : Int32) : Int32 := if y < x then y else x
def zbo (x : Int32) : Bool := decide (x = 0) || decide (x = 1)
def zfuel : Nat := 2000000
theorem zin_in {i : Int32} {n : Nat} (h : zin i n = true) : vp_in i n := by
  intro q
  rcases q with q | q <;> simp [zin, q] at h
theorem zbv_use {α β : Type} {x y : α} {f : α → β} {r : β} (e : y = x) (h : zbv x f = r) : f y = r := by subst e; exact h
theorem zck_use {α : Type} {b : Bool} {x : Option α} {r : α} (h : zck b x = some r) : b = true ∧ x = some r := by
  cases b
  · cases h
  · exact ⟨rfl, h⟩
theorem zbi_use {α : Type} {o : Option (zSt × Int32)} {f : zSt → Int32 → Option α} {r : α} (h : zbi o f = some r) : ∃ σ1 v, o = some (σ1, v) ∧ f σ1 v = some r := by
  cases o with
  | none => cases h
  | some q => exact ⟨q.1, q.2, rfl, h⟩
theorem zbl_use {α : Type} {o : Option (zSt × Int64)} {f : zSt → Int64 → Option α} {r : α} (h : zbl o f = some r) : ∃ σ1 v, o = some (σ1, v) ∧ f σ1 v = some r := by
  cases o with
  | none => cases h
  | some q => exact ⟨q.1, q.2, rfl, h⟩
def zbk {α : Type} (o : Option (zSt × Nat)) (f : zSt → Nat → Option α) : Option α := match o with | none => none | some r => f r.1 r.2
theorem zbk_use {α : Type} {o : Option (zSt × Nat)} {f : zSt → Nat → Option α} {r : α} (h : zbk o f = some r) : ∃ σ1 v, o = some (σ1, v) ∧ f σ1 v = some r := by
  cases o with
  | none => cases h
  | some q => exact ⟨q.1, q.2, rfl, h⟩
theorem zbu_use {α : Type} {o : Option zSt} {f : zSt → Option α} {r : α} (h : zbu o f = some r) : ∃ σ1, o = some σ1 ∧ f σ1 = some r := by
  cases o with
  | none => cases h
  | some q => exact ⟨q, rfl, h⟩
theorem zif_t {α : Type} {P : Prop} {d : Decidable P} {x y r : α} (c : P) (h : @ite α P d x y = r) : x = r := by rw [if_pos c] at h; exact h
theorem zif_f {α : Type} {P : Prop} {d : Decidable P} {x y r : α} (c : ¬ P) (h : @ite α P d x y = r) : y = r := by rw [if_neg c] at h; exact h
def zDl : List String := ["java/lang/RuntimeException", "java/lang/Exception", "java/lang/Throwable"]
def zIn (n : String) : MethodName := ⟨n, "<init>", "(Ljava/lang/String;)V"⟩
/-- links to the constructors of nest mates -/
def zNe : List (String × Nat × MethodName × String) := [(RX11, 15, yX2_init, "PadConsole"), (RX0, 9, yX6_init, "PadConsole")]
/-- the exceptions of the face, by number -/
def zEx : Nat → String := fun k => match k with
  | 1 => "java/lang/IllegalArgumentException"
  | 2 => "java/lang/IllegalStateException"
  | _ => "java/util/NoSuchElementException"
/-- what stands outside the worlds and is never written: static rows, the String constants, statics of the JDK -/
def zKs (st : Nat → Nat) (A : Nat → Prop) (U : State) (H : Heap) (i : Nat) : Prop := va_O "java/lang/String" (st (100 + i)) A U H ∧ va_OF "java/lang/String" "coder" "B" (.int 0) (st (100 + i)) A U H ∧ va_OF "java/lang/String" "value" "[B" (.ref (st (400 + i))) (st (100 + i)) A U H ∧ va_T .byte (st (400 + i)) (zkL i) (fun j => .int (zkB i j)) A U H
def zT (st : Nat → Nat) (A : Nat → Prop) (U : State) (H : Heap) : Prop :=
  (∀ k, k < zNS → va_Z (zsC k) (zsN k) (zsD k) (.ref (st k)) A U H ∧ va_T (zsY k) (st k) (zsL k) (zsF k) A U H) ∧
  (∀ i, i < zNK → zKs st A U H i) ∧ (∀ i, i < zNK → vk_R (zkO i) (zkI i) (zkT i) (st (100 + i)) U) ∧
  va_Z "java/lang/String" "COMPACT_STRINGS" "Z" (.int 1) A U H ∧ va_Zq "jdk/internal/util/Preconditions" "SIOOBE_FORMATTER" "Ljava/util/function/BiFunction;" A U H ∧
  vx_Zq Bundle.tN "UNASSIGNED_STACK" Bundle.steD A U H ∧ vx_Zq Bundle.tN "SUPPRESSED_SENTINEL" Bundle.listD A U H ∧
  (∀ k, va_Nw (.castable (zEx k) (zEx k)) U) ∧ va_Nc (zEx 2) (zEx 1) U ∧ (∀ n ∈ zDl, va_Nw (.declares (zIn n)) U) ∧ (∀ q ∈ zNe, va_Nw (.methodLinkNest q.1 q.2.1 q.2.2.1 q.2.2.2) U)
theorem zT.alike {st : Nat → Nat} {A : Nat → Prop} {u U : State} {H : Heap} (hvm : u.vm.Alike U.vm) (hR : ∀ i, i < zNK → vk_R (zkO i) (zkI i) (zkT i) (st (100 + i)) u → vk_R (zkO i) (zkI i) (zkT i) (st (100 + i)) U) (hN : ∀ k, va_Nw (.castable (zEx k) (zEx k)) u → va_Nw (.castable (zEx k) (zEx k)) U) (hDn : ∀ x, va_Nw (.declares x) u → va_Nw (.declares x) U) (hMn : ∀ a i x h, va_Nw (.methodLinkNest a i x h) u → va_Nw (.methodLinkNest a i x h) U) (h : zT st A u H) : zT st A U H := by
  obtain ⟨h1, h2, h3, h4, h5, h6, h7, h8, h9, h10, h11⟩ := h
  exact ⟨fun k hk => ⟨va_Z.moved hvm (h1 k hk).1, va_T.moved hvm (h1 k hk).2⟩, fun i hi => ⟨va_O.moved hvm (h2 i hi).1, va_OF.moved hvm (h2 i hi).2.1, va_OF.moved hvm (h2 i hi).2.2.1, va_T.moved hvm (h2 i hi).2.2.2⟩, fun i hi => hR i hi (h3 i hi), va_Z.moved hvm h4, va_Zq.moved hvm h5, vx_Zq.moved hvm h6, vx_Zq.moved hvm h7, fun k => hN k (h8 k), va_Nc.moved hvm h9, fun n hn => hDn _ (h10 n hn), fun q hq => hMn _ _ _ _ (h11 q hq)⟩
theorem zT.warm {st : Nat → Nat} {A : Nat → Prop} {u U : State} {H : Heap} (hW : u.WarmedH U.vm) (h : zT st A u H) : zT st A U H := zT.alike hW.alike (fun _ _ q => vk_R.warm hW q) (fun _ q => va_Nw.warmC hW q) (fun _ q => va_Nw.warmD hW q) (fun _ _ _ _ q => va_Nw.warmM hW q) h
theorem zT.same {st : Nat → Nat} {A : Nat → Prop} {u U : State} {H : Heap} (hv : U.vm = u.vm) (h : zT st A u H) : zT st A U H := zT.alike (by rw [hv]; exact Vm.Alike.refl _) (fun _ _ q => vk_R.same hv q) (fun _ q => va_Nw.same rfl hv.symm q) (fun _ q => va_Nw.same rfl hv.symm q) (fun _ _ _ _ q => va_Nw.same rfl hv.symm q) h
theorem zT.kept {st : Nat → Nat} {A : Nat → Prop} {U : State} {H H1 : Heap} (h : zT st A U H) (hq : ∀ a : Nat, a < H.size → ¬ A a → H1[a]? = H[a]?) : zT st A U H1 := by
  obtain ⟨h1, h2, h3, h4, h5, h6, h7, h8, h9, h10, h11⟩ := h
  exact ⟨fun k hk => ⟨(h1 k hk).1.kept hq, (h1 k hk).2.kept hq⟩, fun i hi => ⟨(h2 i hi).1.kept hq, (h2 i hi).2.1.kept hq, (h2 i hi).2.2.1.kept hq, (h2 i hi).2.2.2.kept hq⟩, h3, h4.kept hq, h5.kept hq, h6.kept hq, h7.kept hq, h8, h9, h10, h11⟩
theorem zT.narrow {st : Nat → Nat} {A B : Nat → Prop} {U : State} {H : Heap} (h : zT st A U H) (hAB : ∀ q, B q → A q) : zT st B U H := by
  obtain ⟨h1, h2, h3, h4, h5, h6, h7, h8, h9, h10, h11⟩ := h
  exact ⟨fun k hk => ⟨(h1 k hk).1.narrow hAB, (h1 k hk).2.narrow hAB⟩, fun i hi => ⟨(h2 i hi).1.narrow hAB, (h2 i hi).2.1.narrow hAB, (h2 i hi).2.2.1.narrow hAB, (h2 i hi).2.2.2.narrow hAB⟩, h3, h4.narrow hAB, h5.narrow hAB, h6.narrow hAB, h7.narrow hAB, h8, h9, h10, h11⟩
/-- the world at a moment of a method: the tables, the cells, apart, and what has changed since its entry -/
def zI (st : Nat → Nat) (D : va_G) (tys : List (ClassId × FieldType)) (w : va_W) (A : Nat → Prop) (s : State) (H : Heap) (locs : List Loc) : Prop :=
  va_K D vwCl tys s ∧ va_P D vwCl w H ∧ va_D A w ∧ va_S A s.heap H locs ∧ (∀ q, s.heap.size ≤ q → A q) ∧ zT st A s s.heap
/-- what stays through a method's body -/
def zC (p : Program) (m : MethodId) (c : Code) (cc : ByteArray) (nL : Nat) (s : State) (args : Array Value) (Ts : List Cond) (own : String) (meth : Method) (ret : Option FieldType) : Prop :=
  p.tables.exec = Jvm.exec ∧ c.code = cc ∧ c.maxLocals = nL ∧ s.vm.findClass own = some m.cls ∧ (∀ w ∈ Ts, w.before args s = true) ∧ meth.sig.returnType = ret ∧ meth.locks = false
def zP (st : Nat → Nat) (D : va_G) (tys : List (ClassId × FieldType)) (w : va_W) (sz : Nat) : State → Prop := fun U => U.heap.size = sz ∧ va_P D vwCl w U.heap ∧ va_K D vwCl tys U ∧ va_D (fun _ => True) w ∧ zT st (va_A w sz) U U.heap
def zB (D : va_G) (tys : List (ClassId × FieldType)) (w : zSt → va_W) (A : Nat → Prop) (u : zSt) (t : State) : Prop := va_P D vwCl (w u) t.heap ∧ va_K D vwCl tys t ∧ va_D A (w u)
/-- contracts: an int, a long, nothing comes back -/
def zMi (st : Nat → Nat) (l : Launch) (y : MethodName) (ws : List Cond) (rm : Room) (av : List Value) (D : va_G) (tys : List (ClassId × FieldType)) (w : zSt → va_W) (sz : Nat) (σ : zSt) (res : zSt × Int32) : Prop :=
  Met l y ws rm (va_Pc av (zP st D tys (w σ) sz)) (va_Qi (fun (r : Int32) (u : zSt) => (u, r) = res) (zB D tys w (va_A (w σ) sz)) (va_A (w σ) sz)) 0 0 (va_A (w σ) sz)
def zMl (st : Nat → Nat) (l : Launch) (y : MethodName) (ws : List Cond) (rm : Room) (av : List Value) (D : va_G) (tys : List (ClassId × FieldType)) (w : zSt → va_W) (sz : Nat) (σ : zSt) (res : zSt × Int64) : Prop :=
  Met l y ws rm (va_Pc av (zP st D tys (w σ) sz)) (va_Ql (fun (r : Int64) (u : zSt) => (u, r) = res) (zB D tys w (va_A (w σ) sz)) (va_A (w σ) sz)) 0 0 (va_A (w σ) sz)
def zMu (st : Nat → Nat) (l : Launch) (y : MethodName) (ws : List Cond) (rm : Room) (av : List Value) (D : va_G) (tys : List (ClassId × FieldType)) (w : zSt → va_W) (sz : Nat) (σ : zSt) (res : zSt) : Prop :=
  Met l y ws rm (va_Pc av (zP st D tys (w σ) sz)) (va_Qv (fun (u : zSt) => u = res) (zB D tys w (va_A (w σ) sz)) (va_A (w σ) sz)) 0 0 (va_A (w σ) sz)
/-- a String constant comes back, by its number -/
def zMk (st : Nat → Nat) (l : Launch) (y : MethodName) (ws : List Cond) (rm : Room) (av : List Value) (D : va_G) (tys : List (ClassId × FieldType)) (w : zSt → va_W) (sz : Nat) (σ : zSt) (res : zSt × Nat) : Prop :=
  Met l y ws rm (va_Pc av (zP st D tys (w σ) sz)) (va_Qr (fun (u : zSt) => u = res.1) (fun u a t => a = st (100 + res.2) ∧ zB D tys w (va_A (w σ) sz) u t) (va_A (w σ) sz)) 0 0 (va_A (w σ) sz)
def zQk (st : Nat → Nat) (below : List Frame) (args : Array Value) (s : State) (D : va_G) (tys : List (ClassId × FieldType)) (w : zSt → va_W) (A : Nat → Prop) (res : zSt × Nat) : State → Prop := MQ below (va_Qr (fun (u : zSt) => u = res.1) (fun u a t => a = st (100 + res.2) ∧ zB D tys w A u t) A) args s 0 0 A
/-- what a body must come to -/
def zQi (below : List Frame) (args : Array Value) (s : State) (D : va_G) (tys : List (ClassId × FieldType)) (w : zSt → va_W) (A : Nat → Prop) (res : zSt × Int32) : State → Prop := MQ below (va_Qi (fun (r : Int32) (u : zSt) => (u, r) = res) (zB D tys w A) A) args s 0 0 A
def zQl (below : List Frame) (args : Array Value) (s : State) (D : va_G) (tys : List (ClassId × FieldType)) (w : zSt → va_W) (A : Nat → Prop) (res : zSt × Int64) : State → Prop := MQ below (va_Ql (fun (r : Int64) (u : zSt) => (u, r) = res) (zB D tys w A) A) args s 0 0 A
def zQu (below : List Frame) (args : Array Value) (s : State) (D : va_G) (tys : List (ClassId × FieldType)) (w : zSt → va_W) (A : Nat → Prop) (res : zSt) : State → Prop := MQ below (va_Qv (fun (u : zSt) => u = res) (zB D tys w A) A) args s 0 0 A
section ZR
variable {p : Program} {l : Launch} {e : Env} {R : Room} {s : State} {m : MethodId} {args : Array Value} {below : List Frame} {meth : Method} {c : Code} {H : Heap} {locs : List Loc} {cells slots : Nat} {Q : State → Prop}
variable {st : Nat → Nat} {D : va_G} {tys : List (ClassId × FieldType)} {A : Nat → Prop} {cc : ByteArray} {nL : Nat} {Ts : List Cond} {own : String} {pc : Nat} {ls : Array Slot} {rest : List Value} {a : Nat} {ret : Option FieldType} {lv0 : List (Nat × Value)}
theorem zI.start {w : zSt → va_W} {σ : zSt} {sz : Nat} (h : zP st D tys (w σ) sz s) : zI st D tys (w σ) (va_A (w σ) sz) s s.heap [] := by
  obtain ⟨hsz, hP, hK, hD, hT⟩ := h
  exact ⟨hK, hP, hD.self, va_S.rf, fun q h => by rw [hsz] at h; exact Or.inr h, hT⟩
/-- a method out of its body -/
theorem zMi.of {y : MethodName} {ws ws' : List Cond} {rm : Room} {av : List Value} {w : zSt → va_W} {sz : Nat} {σ : zSt} {res : zSt × Int32} {maxL : Nat} (hy : plainName y.cls = true) (hw : ws = Cond.code y cc maxL ret :: ws') (hle : (lg_sl av).length ≤ maxL)
    (k : ∀ (p : Program) (e : Env) (s : State) (m : MethodId) (args : Array Value) (below : List Frame) (meth : Method) (c : Code), zC p m c cc maxL s args ws y.cls meth ret → ∀ A : Nat → Prop, zI st D tys (w σ) A s s.heap [] → ∀ ls : Array Slot, lv_has ls maxL (lv_args 0 av) → W p l e (headSpec ws rm).room s m args below meth c s.heap [] 0 0 (zQi below args s D tys w A res) (F0 m 0 ls [])) : zMi st l y ws rm av D tys w sz σ res := by
  refine Met.ofW (cc := cc) (maxL := maxL) (ret := ret) hy hw ?_
  intro p e s m args below meth c s₁ B hml hv
  obtain ⟨rfl, hv⟩ := hv
  have hl := lv_entry av (n := maxL) hle
  rw [lg_entry_eq]
  exact k p e s m av.toArray below meth c ⟨B.exec, B.bytes, hml, findClass_of_methodNamed B.named, atoms_spec (ws := ws) B.pre, B.returns, B.notSynchronized⟩ _ (zI.start hv) _ hl
theorem zMl.of {y : MethodName} {ws ws' : List Cond} {rm : Room} {av : List Value} {w : zSt → va_W} {sz : Nat} {σ : zSt} {res : zSt × Int64} {maxL : Nat} (hy : plainName y.cls = true) (hw : ws = Cond.code y cc maxL ret :: ws') (hle : (lg_sl av).length ≤ maxL)
    (k : ∀ (p : Program) (e : Env) (s : State) (m : MethodId) (args : Array Value) (below : List Frame) (meth : Method) (c : Code), zC p m c cc maxL s args ws y.cls meth ret → ∀ A : Nat → Prop, zI st D tys (w σ) A s s.heap [] → ∀ ls : Array Slot, lv_has ls maxL (lv_args 0 av) → W p l e (headSpec ws rm).room s m args below meth c s.heap [] 0 0 (zQl below args s D tys w A res) (F0 m 0 ls [])) : zMl st l y ws rm av D tys w sz σ res := by
  refine Met.ofW (cc := cc) (maxL := maxL) (ret := ret) hy hw ?_
  intro p e s m args below meth c s₁ B hml hv
  obtain ⟨rfl, hv⟩ := hv
  have hl := lv_entry av (n := maxL) hle
  rw [lg_entry_eq]
  exact k p e s m av.toArray below meth c ⟨B.exec, B.bytes, hml, findClass_of_methodNamed B.named, atoms_spec (ws := ws) B.pre, B.returns, B.notSynchronized⟩ _ (zI.start hv) _ hl
theorem zMu.of {y : MethodName} {ws ws' : List Cond} {rm : Room} {av : List Value} {w : zSt → va_W} {sz : Nat} {σ : zSt} {res : zSt} {maxL : Nat} (hy : plainName y.cls = true) (hw : ws = Cond.code y cc maxL ret :: ws') (hle : (lg_sl av).length ≤ maxL)
    (k : ∀ (p : Program) (e : Env) (s : State) (m : MethodId) (args : Array Value) (below : List Frame) (meth : Method) (c : Code), zC p m c cc maxL s args ws y.cls meth ret → ∀ A : Nat → Prop, zI st D tys (w σ) A s s.heap [] → ∀ ls : Array Slot, lv_has ls maxL (lv_args 0 av) → W p l e (headSpec ws rm).room s m args below meth c s.heap [] 0 0 (zQu below args s D tys w A res) (F0 m 0 ls [])) : zMu st l y ws rm av D tys w sz σ res := by
  refine Met.ofW (cc := cc) (maxL := maxL) (ret := ret) hy hw ?_
  intro p e s m args below meth c s₁ B hml hv
  obtain ⟨rfl, hv⟩ := hv
  have hl := lv_entry av (n := maxL) hle
  rw [lg_entry_eq]
  exact k p e s m av.toArray below meth c ⟨B.exec, B.bytes, hml, findClass_of_methodNamed B.named, atoms_spec (ws := ws) B.pre, B.returns, B.notSynchronized⟩ _ (zI.start hv) _ hl
theorem zMk.of {y : MethodName} {ws ws' : List Cond} {rm : Room} {av : List Value} {w : zSt → va_W} {sz : Nat} {σ : zSt} {res : zSt × Nat} {maxL : Nat} (hy : plainName y.cls = true) (hw : ws = Cond.code y cc maxL ret :: ws') (hle : (lg_sl av).length ≤ maxL)
    (k : ∀ (p : Program) (e : Env) (s : State) (m : MethodId) (args : Array Value) (below : List Frame) (meth : Method) (c : Code), zC p m c cc maxL s args ws y.cls meth ret → ∀ A : Nat → Prop, zI st D tys (w σ) A s s.heap [] → ∀ ls : Array Slot, lv_has ls maxL (lv_args 0 av) → W p l e (headSpec ws rm).room s m args below meth c s.heap [] 0 0 (zQk st below args s D tys w A res) (F0 m 0 ls [])) : zMk st l y ws rm av D tys w sz σ res := by
  refine Met.ofW (cc := cc) (maxL := maxL) (ret := ret) hy hw ?_
  intro p e s m args below meth c s₁ B hml hv
  obtain ⟨rfl, hv⟩ := hv
  have hl := lv_entry av (n := maxL) hle
  rw [lg_entry_eq]
  exact k p e s m av.toArray below meth c ⟨B.exec, B.bytes, hml, findClass_of_methodNamed B.named, atoms_spec (ws := ws) B.pre, B.returns, B.notSynchronized⟩ _ (zI.start hv) _ hl
/-- ends -/
theorem z_areturn {cn : String} (hC : zC p m c cc nL s args Ts own meth (some (.object cn))) {w : zSt → va_W} {σ : zSt} (hI : zI st D tys (w σ) A s H locs) {i : Nat} {res : zSt × Nat} (hf : some (σ, i) = some res) (hdg : decode cc pc = .ok (.areturn, 1)) : W p l e R s m args below meth c H locs 0 0 (zQk st below args s D tys w A res) (F0 m pc ls [.ref (st (100 + i))]) := by
  obtain ⟨hx, hb, hml, hown, hts, hr, hlk⟩ := hC
  obtain ⟨hK, hP, hD, hS, hA, hT⟩ := hI
  cases Option.some.inj hf
  exact W.aret (v := .ref (st (100 + i))) hx hb hr (Or.inl ⟨cn, rfl⟩) (Or.inr ⟨_, rfl⟩) (fun t ht hW => ⟨⟨σ, st (100 + i), rfl, rfl, rfl, by rw [ht]; exact hP, va_K.moved hW.alike hK, hD⟩, hS.F ht⟩) hS.2.2 hdg hlk

theorem z_ireturn (hC : zC p m c cc nL s args Ts own meth (some .int)) {w : zSt → va_W} {σ : zSt} (hI : zI st D tys (w σ) A s H locs) {v : Int32} {res : zSt × Int32} (hf : some (σ, v) = some res) (hdg : decode cc pc = .ok (.ireturn, 1)) : W p l e R s m args below meth c H locs 0 0 (zQi below args s D tys w A res) (F0 m pc ls [.int v]) := by
  obtain ⟨hx, hb, hml, hown, hts, hr, hlk⟩ := hC
  obtain ⟨hK, hP, hD, hS, hA, hT⟩ := hI
  exact W.iret (v := v) hx hb hr (fun t ht hW => ⟨⟨v, σ, rfl, Option.some.inj hf, by rw [ht]; exact hP, va_K.moved hW.alike hK, hD⟩, hS.F ht⟩) hS.2.2 hdg hlk
theorem z_zreturn (hC : zC p m c cc nL s args Ts own meth (some .boolean)) {w : zSt → va_W} {σ : zSt} (hI : zI st D tys (w σ) A s H locs) {v : Int32} {res : zSt × Int32} (hn : narrow .boolean (.int v) = .int v) (hf : some (σ, v) = some res) (hdg : decode cc pc = .ok (.ireturn, 1)) : W p l e R s m args below meth c H locs 0 0 (zQi below args s D tys w A res) (F0 m pc ls [.int v]) := by
  obtain ⟨hx, hb, hml, hown, hts, hr, hlk⟩ := hC
  obtain ⟨hK, hP, hD, hS, hA, hT⟩ := hI
  exact W.zret (v := v) hx hb hr hn (fun t ht hW => ⟨⟨v, σ, rfl, Option.some.inj hf, by rw [ht]; exact hP, va_K.moved hW.alike hK, hD⟩, hS.F ht⟩) hS.2.2 hdg hlk
theorem z_lreturn (hC : zC p m c cc nL s args Ts own meth (some .long)) {w : zSt → va_W} {σ : zSt} (hI : zI st D tys (w σ) A s H locs) {v : Int64} {res : zSt × Int64} (hf : some (σ, v) = some res) (hdg : decode cc pc = .ok (.lreturn, 1)) : W p l e R s m args below meth c H locs 0 0 (zQl below args s D tys w A res) (F0 m pc ls [.long v]) := by
  obtain ⟨hx, hb, hml, hown, hts, hr, hlk⟩ := hC
  obtain ⟨hK, hP, hD, hS, hA, hT⟩ := hI
  exact W.lret (v := v) hx hb hr (fun t ht hW => ⟨⟨v, σ, rfl, Option.some.inj hf, by rw [ht]; exact hP, va_K.moved hW.alike hK, hD⟩, hS.F ht⟩) hS.2.2 hdg hlk
theorem z_return (hC : zC p m c cc nL s args Ts own meth none) {w : zSt → va_W} {σ : zSt} (hI : zI st D tys (w σ) A s H locs) {res : zSt} (hf : some σ = some res) (hdg : decode cc pc = .ok (.return_, 1)) : W p l e R s m args below meth c H locs 0 0 (zQu below args s D tys w A res) (F0 m pc ls []) := by
  obtain ⟨hx, hb, hml, hown, hts, hr, hlk⟩ := hC
  obtain ⟨hK, hP, hD, hS, hA, hT⟩ := hI
  exact W.vret hx hb hr (fun t ht hW => ⟨⟨σ, rfl, Option.some.inj hf, by rw [ht]; exact hP, va_K.moved hW.alike hK, hD⟩, hS.F ht⟩) hS.2.2 hdg hlk
/-- fields -/
theorem z_get (hC : zC p m c cc nL s args Ts own meth ret) {w : va_W} (hI : zI st D tys w A s H locs) {C : String} {T : u_T} {N ci index : Nat} (hin : ∀ w ∈ u_ws C T N, w ∈ Ts) (q0 : Nat) {fs : List Value} (he : w[q0]? = some (a, .inr (ci, fs))) (hc : vwCl[ci]? = some (C, T, N)) (k : Nat) (hk : k < N) (hlink : Cond.fieldLink own index (T k).1 (T k).2.1 (T k).2.2.1 ∈ Ts) {v : Value} (hv : fs[k]? = some v) (hdg : decode cc pc = .ok (.getfield index, 3))
    (kk : W p l e R s m args below meth c H locs cells slots Q (F0 m (pc + 3) ls (v :: rest))) : W p l e R s m args below meth c H locs cells slots Q (F0 m pc ls (.ref a :: rest)) :=
  va_get hC.1 hC.2.1 hC.2.2.2.2.1 hin hC.2.2.2.1 hI.1 hI.2.1 q0 he hc k hk (hC.2.2.2.2.1 _ hlink) (fun _ h => h) hv hdg kk
theorem z_put (hC : zC p m c cc nL s args Ts own meth ret) {w w1 : va_W} (hI : zI st D tys w A s H locs) {C : String} {T : u_T} {N ci index : Nat} (hin : ∀ w ∈ u_ws C T N, w ∈ Ts) {ty0 : Nat → FieldType} (hty : ∀ k, k < N → parseFieldDescriptor (T k).2.2.1 = some (ty0 k)) (hnm : ∀ a, a < N → ∀ b, b < N → a ≠ b → (T a).2.1 ≠ (T b).2.1) (q0 : Nat) {fs : List Value} (he : w[q0]? = some (a, .inr (ci, fs))) (hc : vwCl[ci]? = some (C, T, N)) (k : Nat) (hk : k < N) (hlink : Cond.fieldLink own index (T k).1 (T k).2.1 (T k).2.2.1 ∈ Ts) (hfin : (T k).2.2.2 = false) {v : Value} (hn : narrow (ty0 k) v = v) (hfit : fits (ty0 k) v = true) (hl : k < fs.length) (hs : w.set q0 (a, .inr (ci, fs.set k v)) = w1) (hdg : decode cc pc = .ok (.putfield index, 3))
    (kk : ∀ (H1 : Heap) (locs1 : List Loc), zI st D tys w1 A s H1 locs1 → W p l e R s m args below meth c H1 locs1 cells slots Q (F0 m (pc + 3) ls rest)) : W p l e R s m args below meth c H locs cells slots Q (F0 m pc ls (v :: .ref a :: rest)) := by
  subst hs
  exact va_put hC.1 hC.2.1 hC.2.2.2.2.1 hin ty0 hty hnm hC.2.2.2.1 hI.1 hI.2.1 hI.2.2.1 hI.2.2.2.1 q0 he hc k hk (hC.2.2.2.2.1 _ hlink) (fun _ h => h) hfin (hty k hk) hn hfit hl hdg (fun H1 locs1 h1 h2 h3 => kk H1 locs1 ⟨hI.1, h1, h2, h3, hI.2.2.2.2⟩)
/-- arrays -/
theorem z_iald (hC : zC p m c cc nL s args Ts own meth ret) {w : va_W} (hI : zI st D tys w A s H locs) (q0 t0 : Nat) {cA : ClassId} {n : Nat} {f : Nat → Int32} (ha : w[q0]? = some (a, .inl (cA, n, .inl f))) (ht : tys[t0]? = some (cA, .int)) {i : Int32} (hin : zin i n = true) (hdg : decode cc pc = .ok (.iaload, 1))
    (kk : W p l e R s m args below meth c H locs cells slots Q (F0 m (pc + 1) ls (.int (f i.toNatClampNeg) :: rest))) : W p l e R s m args below meth c H locs cells slots Q (F0 m pc ls (.int i :: .ref a :: rest)) :=
  va_iald hC.1 hC.2.1 hI.1 hI.2.1 q0 t0 ha ht (zin_in hin) hdg kk
theorem z_iast (hC : zC p m c cc nL s args Ts own meth ret) {w w1 : va_W} (hI : zI st D tys w A s H locs) (q0 t0 : Nat) {cA : ClassId} {n : Nat} {f : Nat → Int32} (ha : w[q0]? = some (a, .inl (cA, n, .inl f))) (ht : tys[t0]? = some (cA, .int)) {i x : Int32} (hin : zin i n = true) (hs : w.set q0 (a, .inl (cA, n, .inl (upd f i.toNatClampNeg x))) = w1) (hdg : decode cc pc = .ok (.iastore, 1))
    (kk : ∀ (H1 : Heap) (locs1 : List Loc), zI st D tys w1 A s H1 locs1 → W p l e R s m args below meth c H1 locs1 cells slots Q (F0 m (pc + 1) ls rest)) : W p l e R s m args below meth c H locs cells slots Q (F0 m pc ls (.int x :: .int i :: .ref a :: rest)) := by
  subst hs
  exact va_iast hC.1 hC.2.1 hI.1 hI.2.1 hI.2.2.1 hI.2.2.2.1 q0 t0 ha ht (zin_in hin) hdg (fun H1 locs1 h1 h2 h3 => kk H1 locs1 ⟨hI.1, h1, h2, h3, hI.2.2.2.2⟩)
theorem z_gets (hC : zC p m c cc nL s args Ts own meth ret) {w : va_W} (hI : zI st D tys w A s H locs) (k : Nat) (hk : k < zNS) {index : Nat} (hlink : Cond.fieldLink own index (zsC k) (zsN k) (zsD k) ∈ Ts) (hdg : decode cc pc = .ok (.getstatic index, 3))
    (kk : W p l e R s m args below meth c H locs cells slots Q (F0 m (pc + 3) ls (.ref (st k) :: rest))) : W p l e R s m args below meth c H locs cells slots Q (F0 m pc ls rest) :=
  va_gets hC.1 hC.2.1 (hI.2.2.2.2.2.1 k hk).1 hI.2.2.2.1 hC.2.2.2.1 (hC.2.2.2.2.1 _ hlink) (fun _ h => h) hdg kk
theorem z_ldcS (hC : zC p m c cc nL s args Ts own meth ret) {w : va_W} (hI : zI st D tys w A s H locs) (i : Nat) (hi : i < zNK) {index : Nat} (ho : zkO i = own) (hx : zkI i = index) (hdg : decode cc pc = .ok (.ldc index, 2))
    (kk : W p l e R s m args below meth c H locs cells slots Q (F0 m (pc + 2) ls (.ref (st (100 + i)) :: rest))) : W p l e R s m args below meth c H locs cells slots Q (F0 m pc ls rest) := by
  subst ho hx
  exact va_ldcS hC.1 hC.2.1 hC.2.2.2.1 (hI.2.2.2.2.2.2.2.1 i hi) hdg kk
theorem z_ldcSW (hC : zC p m c cc nL s args Ts own meth ret) {w : va_W} (hI : zI st D tys w A s H locs) (i : Nat) (hi : i < zNK) {index : Nat} (ho : zkO i = own) (hx : zkI i = index) (hdg : decode cc pc = .ok (.ldc_w index, 3))
    (kk : W p l e R s m args below meth c H locs cells slots Q (F0 m (pc + 3) ls (.ref (st (100 + i)) :: rest))) : W p l e R s m args below meth c H locs cells slots Q (F0 m pc ls rest) := by
  subst ho hx
  have hZ := hI.2.2.2.2.2.2.2.1 i hi
  intro T hT X
  obtain ⟨t, a1, b1⟩ := kk T hT X
  exact ⟨t, X.ldcStringW hC.1 hC.2.2.2.1 (text := zkT i) (a := st (100 + i)) hZ.1 hZ.2 (g := F0 m pc ls rest) rfl (by rw [hC.2.1]; exact hdg) t a1, b1⟩
theorem z_ti (hC : zC p m c cc nL s args Ts own meth ret) {w : va_W} (hI : zI st D tys w A s H locs) (k : Nat) (hk : k < zNS) (hy : zsY k = .int) {i v : Int32} {N : Nat} (hN : zsL k = N) (hin : zin i N = true) (hv : zsF k i.toNatClampNeg = .int v) (hdg : decode cc pc = .ok (.iaload, 1))
    (kk : W p l e R s m args below meth c H locs cells slots Q (F0 m (pc + 1) ls (.int v :: rest))) : W p l e R s m args below meth c H locs cells slots Q (F0 m pc ls (.int i :: .ref (st k) :: rest)) := by
  subst hN
  exact va_ti hC.1 hC.2.1 (hy ▸ (hI.2.2.2.2.2.1 k hk).2) hI.2.2.2.1 (zin_in hin) hv hdg kk
theorem z_tl (hC : zC p m c cc nL s args Ts own meth ret) {w : va_W} (hI : zI st D tys w A s H locs) (k : Nat) (hk : k < zNS) (hy : zsY k = .long) {i : Int32} {v : Int64} {N : Nat} (hN : zsL k = N) (hin : zin i N = true) (hv : zsF k i.toNatClampNeg = .long v) (hdg : decode cc pc = .ok (.laload, 1))
    (kk : W p l e R s m args below meth c H locs cells slots Q (F0 m (pc + 1) ls (.long v :: rest))) : W p l e R s m args below meth c H locs cells slots Q (F0 m pc ls (.int i :: .ref (st k) :: rest)) := by
  subst hN
  exact va_tl hC.1 hC.2.1 (hy ▸ (hI.2.2.2.2.2.1 k hk).2) hI.2.2.2.1 (zin_in hin) hv hdg kk
theorem z_tlen (hC : zC p m c cc nL s args Ts own meth ret) {w : va_W} (hI : zI st D tys w A s H locs) (k : Nat) (hk : k < zNS) {v : Int32} (hv : Int32.ofNat (zsL k) = v) (hdg : decode cc pc = .ok (.arraylength, 1))
    (kk : W p l e R s m args below meth c H locs cells slots Q (F0 m (pc + 1) ls (.int v :: rest))) : W p l e R s m args below meth c H locs cells slots Q (F0 m pc ls (.ref (st k) :: rest)) :=
  va_tlen hC.1 hC.2.1 (hI.2.2.2.2.2.1 k hk).2 hI.2.2.2.1 hv hdg kk
theorem z_alen (hC : zC p m c cc nL s args Ts own meth ret) {w : va_W} (hI : zI st D tys w A s H locs) (q0 t0 : Nat) {cA : ClassId} {x : vp_A} (ha : w[q0]? = some (a, .inl (cA, x))) {ty : FieldType} (ht : tys[t0]? = some (cA, ty)) {v : Int32} (hv : Int32.ofNat x.1 = v) (hdg : decode cc pc = .ok (.arraylength, 1))
    (kk : W p l e R s m args below meth c H locs cells slots Q (F0 m (pc + 1) ls (.int v :: rest))) : W p l e R s m args below meth c H locs cells slots Q (F0 m pc ls (.ref a :: rest)) :=
  va_alen hC.1 hC.2.1 hI.1 hI.2.1 q0 t0 ha ht hv hdg kk
theorem z_lald (hC : zC p m c cc nL s args Ts own meth ret) {w : va_W} (hI : zI st D tys w A s H locs) (q0 t0 : Nat) {cA : ClassId} {n : Nat} {f : Nat → Int64} (ha : w[q0]? = some (a, .inl (cA, n, .inr (.inl f)))) (ht : tys[t0]? = some (cA, .long)) {i : Int32} (hin : zin i n = true) (hdg : decode cc pc = .ok (.laload, 1))
    (kk : W p l e R s m args below meth c H locs cells slots Q (F0 m (pc + 1) ls (.long (f i.toNatClampNeg) :: rest))) : W p l e R s m args below meth c H locs cells slots Q (F0 m pc ls (.int i :: .ref a :: rest)) :=
  va_lald hC.1 hC.2.1 hI.1 hI.2.1 q0 t0 ha ht (zin_in hin) hdg kk
theorem z_last (hC : zC p m c cc nL s args Ts own meth ret) {w w1 : va_W} (hI : zI st D tys w A s H locs) (q0 t0 : Nat) {cA : ClassId} {n : Nat} {f : Nat → Int64} (ha : w[q0]? = some (a, .inl (cA, n, .inr (.inl f)))) (ht : tys[t0]? = some (cA, .long)) {i : Int32} {x : Int64} (hin : zin i n = true) (hs : w.set q0 (a, .inl (cA, n, .inr (.inl (vp_updL f i.toNatClampNeg x)))) = w1) (hdg : decode cc pc = .ok (.lastore, 1))
    (kk : ∀ (H1 : Heap) (locs1 : List Loc), zI st D tys w1 A s H1 locs1 → W p l e R s m args below meth c H1 locs1 cells slots Q (F0 m (pc + 1) ls rest)) : W p l e R s m args below meth c H locs cells slots Q (F0 m pc ls (.long x :: .int i :: .ref a :: rest)) := by
  subst hs
  exact va_last hC.1 hC.2.1 hI.1 hI.2.1 hI.2.2.1 hI.2.2.2.1 q0 t0 ha ht (zin_in hin) hdg (fun H1 locs1 h1 h2 h3 => kk H1 locs1 ⟨hI.1, h1, h2, h3, hI.2.2.2.2⟩)
theorem z_bald (hC : zC p m c cc nL s args Ts own meth ret) {w : va_W} (hI : zI st D tys w A s H locs) (q0 t0 : Nat) {cA : ClassId} {n : Nat} {f : Nat → Int32} (ha : w[q0]? = some (a, .inl (cA, n, .inl f))) (ht : tys[t0]? = some (cA, .byte)) {i : Int32} (hin : zin i n = true) (hdg : decode cc pc = .ok (.baload, 1))
    (kk : W p l e R s m args below meth c H locs cells slots Q (F0 m (pc + 1) ls (.int (f i.toNatClampNeg) :: rest))) : W p l e R s m args below meth c H locs cells slots Q (F0 m pc ls (.int i :: .ref a :: rest)) :=
  va_bald hC.1 hC.2.1 hI.1 hI.2.1 q0 t0 ha ht (zin_in hin) hdg kk
theorem z_zald (hC : zC p m c cc nL s args Ts own meth ret) {w : va_W} (hI : zI st D tys w A s H locs) (q0 t0 : Nat) {cA : ClassId} {n : Nat} {f : Nat → Int32} (ha : w[q0]? = some (a, .inl (cA, n, .inl f))) (ht : tys[t0]? = some (cA, .boolean)) {i : Int32} (hin : zin i n = true) (hdg : decode cc pc = .ok (.baload, 1))
    (kk : W p l e R s m args below meth c H locs cells slots Q (F0 m (pc + 1) ls (.int (f i.toNatClampNeg) :: rest))) : W p l e R s m args below meth c H locs cells slots Q (F0 m pc ls (.int i :: .ref a :: rest)) :=
  va_zald hC.1 hC.2.1 hI.1 hI.2.1 q0 t0 ha ht (zin_in hin) hdg kk
theorem z_bast (hC : zC p m c cc nL s args Ts own meth ret) {w w1 : va_W} (hI : zI st D tys w A s H locs) (q0 t0 : Nat) {cA : ClassId} {n : Nat} {f : Nat → Int32} (ha : w[q0]? = some (a, .inl (cA, n, .inl f))) (ht : tys[t0]? = some (cA, .byte)) {i x : Int32} (hin : zin i n = true) (hs : w.set q0 (a, .inl (cA, n, .inl (upd f i.toNatClampNeg (vp_nar .byte x)))) = w1) (hdg : decode cc pc = .ok (.bastore, 1))
    (kk : ∀ (H1 : Heap) (locs1 : List Loc), zI st D tys w1 A s H1 locs1 → W p l e R s m args below meth c H1 locs1 cells slots Q (F0 m (pc + 1) ls rest)) : W p l e R s m args below meth c H locs cells slots Q (F0 m pc ls (.int x :: .int i :: .ref a :: rest)) := by
  subst hs
  exact va_bast hC.1 hC.2.1 hI.1 hI.2.1 hI.2.2.1 hI.2.2.2.1 q0 t0 ha ht (zin_in hin) hdg (fun H1 locs1 h1 h2 h3 => kk H1 locs1 ⟨hI.1, h1, h2, h3, hI.2.2.2.2⟩)
theorem z_zast (hC : zC p m c cc nL s args Ts own meth ret) {w w1 : va_W} (hI : zI st D tys w A s H locs) (q0 t0 : Nat) {cA : ClassId} {n : Nat} {f : Nat → Int32} (ha : w[q0]? = some (a, .inl (cA, n, .inl f))) (ht : tys[t0]? = some (cA, .boolean)) {i x : Int32} (hin : zin i n = true) (hs : w.set q0 (a, .inl (cA, n, .inl (upd f i.toNatClampNeg (vp_nar .boolean x)))) = w1) (hdg : decode cc pc = .ok (.bastore, 1))
    (kk : ∀ (H1 : Heap) (locs1 : List Loc), zI st D tys w1 A s H1 locs1 → W p l e R s m args below meth c H1 locs1 cells slots Q (F0 m (pc + 1) ls rest)) : W p l e R s m args below meth c H locs cells slots Q (F0 m pc ls (.int x :: .int i :: .ref a :: rest)) := by
  subst hs
  exact va_zast hC.1 hC.2.1 hI.1 hI.2.1 hI.2.2.1 hI.2.2.2.1 q0 t0 ha ht (zin_in hin) hdg (fun H1 locs1 h1 h2 h3 => kk H1 locs1 ⟨hI.1, h1, h2, h3, hI.2.2.2.2⟩)
theorem z_mmax (hC : zC p m c cc nL s args Ts own meth ret) {index : Nat} (hlink : Cond.methodLink own index Lib.Math.max.name ∈ Ts) (hstat : Cond.static Lib.Math.max.name ∈ Ts) (hini : Cond.initialized "java/lang/Math" ∈ Ts) (hcode : Cond.code Lib.Math.max.name Lib.Math.max.code 2 (some .int) ∈ Ts) (hls : lv_has ls nL lv0) (hframes : 1 ≤ R.frames) (hlocals : (rest.map fun v => v.category).sum + 13 ≤ R.locals) (hcl : cells ≤ R.cells ∧ slots ≤ R.slots) {x y : Int32} (hdg : decode cc pc = .ok (.invokestatic index, 3))
    (kk : W p l e R s m args below meth c H locs cells slots Q (F0 m (pc + 3) ls (.int (zmax x y) :: rest))) : W p l e R s m args below meth c H locs cells slots Q (F0 m pc ls (.int y :: .int x :: rest)) :=
  va_mmax hC.1 hC.2.1 (hC.2.2.1.trans hls.1.symm) hC.2.2.2.1 (hC.2.2.2.2.1 _ hlink) (hC.2.2.2.2.1 _ hstat) (hC.2.2.2.2.1 _ hini) (hC.2.2.2.2.1 _ hcode) hframes hlocals hcl.1 hcl.2 hdg kk
theorem z_mmin (hC : zC p m c cc nL s args Ts own meth ret) {index : Nat} (hlink : Cond.methodLink own index Lib.Math.min.name ∈ Ts) (hstat : Cond.static Lib.Math.min.name ∈ Ts) (hini : Cond.initialized "java/lang/Math" ∈ Ts) (hcode : Cond.code Lib.Math.min.name Lib.Math.min.code 2 (some .int) ∈ Ts) (hls : lv_has ls nL lv0) (hframes : 1 ≤ R.frames) (hlocals : (rest.map fun v => v.category).sum + 13 ≤ R.locals) (hcl : cells ≤ R.cells ∧ slots ≤ R.slots) {x y : Int32} (hdg : decode cc pc = .ok (.invokestatic index, 3))
    (kk : W p l e R s m args below meth c H locs cells slots Q (F0 m (pc + 3) ls (.int (zmin x y) :: rest))) : W p l e R s m args below meth c H locs cells slots Q (F0 m pc ls (.int y :: .int x :: rest)) :=
  va_mmin hC.1 hC.2.1 (hC.2.2.1.trans hls.1.symm) hC.2.2.2.1 (hC.2.2.2.2.1 _ hlink) (hC.2.2.2.2.1 _ hstat) (hC.2.2.2.2.1 _ hini) (hC.2.2.2.2.1 _ hcode) hframes hlocals hcl.1 hcl.2 hdg kk
/-- calls of a method of an object of the world -/
theorem z_back {w : zSt → va_W} {σ σ1 : zSt} {H1 : Heap} {locs1 : List Loc} {t : State} (hI : zI st D tys (w σ) A s H locs) (ht : t.heap = H1) (hvm : s.vm.Alike t.vm) (hB : zB D tys w (va_A (w σ) H.size) σ1 t) (hS : va_S A s.heap H1 locs1) : zI st D tys (w σ1) A s H1 locs1 := by
  obtain ⟨hP1, hK1, hD1⟩ := hB
  rw [ht] at hP1
  exact ⟨hI.1, hP1, hD1.weaken (fun k q _ h => by
    rcases h with ⟨k2, e2, h⟩ | h
    · exact hI.2.2.1.2 k2 (q.1, e2) h
    · exact hI.2.2.2.2.1 _ (Nat.le_trans hI.2.2.2.1.1 h)), hS, hI.2.2.2.2⟩
theorem z_free {w : va_W} (hI : zI st D tys w A s H locs) : ∀ q, va_A w H.size q → A q := by
  intro q h
  rcases h with ⟨k2, e2, h⟩ | h
  · exact hI.2.2.1.2 k2 (q, e2) h
  · exact hI.2.2.2.2.1 _ (Nat.le_trans hI.2.2.2.1.1 h)
theorem zP.blind {av : List Value} {w : va_W} {sz : Nat} : FrameBlind (va_Pc av (zP st D tys w sz)) := fun a U g mk q => by
  obtain ⟨q0, q1, qP, qK, qD, qT⟩ := q
  exact ⟨q0, q1, qP, va_K.moved (u := U) (U := U.calling g mk a) (Vm.Alike.refl U.vm) qK, qD, zT.same (u := U) (U := U.calling g mk a) rfl qT⟩
theorem zP.at {av : List Value} {w : va_W} (hI : zI st D tys w A s H locs) : ∀ U : State, U.heap = H → s.WarmedH U.vm → va_Pc av (zP st D tys w H.size) av.toArray U := fun U hU hW =>
  ⟨rfl, by rw [hU], by rw [hU]; exact hI.2.1, va_K.moved hW.alike hI.1, hI.2.2.1.weaken (fun _ _ _ _ => trivial), by rw [hU]; exact zT.warm hW ((hI.2.2.2.2.2.kept hI.2.2.2.1.2.1).narrow (z_free hI))⟩
variable {y : MethodName} {ws ws' : List Cond} {rm : Room} {bytes : ByteArray} {maxL index n : Nat} {rt : Option FieldType} {C : String} {b : Nat} {As : List Value} {lv : List (Nat × Value)} {st0 : List Value}
theorem z_callVi (hC : zC p m c cc nL s args Ts own meth ret) {w : zSt → va_W} {σ σ1 : zSt} {r : Int32} (hI : zI st D tys (w σ) A s H locs) (hM : ∀ sz, zMi st l y ws rm (.ref b :: As) D tys w sz σ (σ1, r)) (hT : GoodIn Ts (wsV own index C y ws)) (hw : ws = Cond.code y bytes maxL rt :: ws') (hrm : rm.cells = 0 ∧ rm.slots = 0) (n : Nat)
    (hd : y.cls = C ∧ y.cls ≠ "java/lang/invoke/MethodHandle" ∧ y.cls ≠ "java/lang/invoke/VarHandle" ∧ (parseMethodDescriptor y.desc).map (fun d => d.parameters.length) = some n) (hR : rm.frames + 1 ≤ R.frames ∧ 8 + (maxL + 11) + rm.locals ≤ R.locals)
    {q0 ci : Nat} {q : vw_C} {fs : List Value} (hc : vwCl[ci]? = some q) (hq : q.1 = C) (he : (w σ)[q0]? = some (b, .inr (ci, fs))) (hn : As.length = n) (hl : lv_has ls nL lv) (hst : st0 = As.reverse ++ .ref b :: rest) (hW : (rest.map fun v => v.category).sum ≤ 8) (hdg : decode cc pc = .ok (.invokevirtual index, 3)) (hcl : cells ≤ R.cells ∧ slots ≤ R.slots)
    (kk : ∀ (H1 : Heap) (locs1 : List Loc), zI st D tys (w σ1) A s H1 locs1 → W p l e R s m args below meth c H1 locs1 cells slots Q (F0 m (pc + 3) ls (.int r :: rest))) : W p l e R s m args below meth c H locs cells slots Q (F0 m pc ls st0) := by
  subst hq
  refine va_calli (va_runV (As := As) (rest := rest) ⟨hC.1, hC.2.1, hC.2.2.1, hC.2.2.2.1, hC.2.2.2.2.1⟩ (hM H.size) (cwV n hC.2.2.2.2.1 hT hw hrm.1 hrm.2 hd hR) ⟨zP.blind, va_recv hI.1 hI.2.1 hc he, zP.at hI⟩ rfl hn hl.1 hst (lv_room hW) hdg hcl) hI.2.2.2.1 (fun q _ h => z_free hI q h) (z_free hI) (fun r' u t H1 locs1 ht hvm hw' hB _ _ hS => ?_)
  obtain ⟨rfl, rfl⟩ := Prod.mk.inj hw'
  exact kk H1 locs1 (z_back hI ht hvm hB hS)
theorem z_callVl (hC : zC p m c cc nL s args Ts own meth ret) {w : zSt → va_W} {σ σ1 : zSt} {r : Int64} (hI : zI st D tys (w σ) A s H locs) (hM : ∀ sz, zMl st l y ws rm (.ref b :: As) D tys w sz σ (σ1, r)) (hT : GoodIn Ts (wsV own index C y ws)) (hw : ws = Cond.code y bytes maxL rt :: ws') (hrm : rm.cells = 0 ∧ rm.slots = 0) (n : Nat)
    (hd : y.cls = C ∧ y.cls ≠ "java/lang/invoke/MethodHandle" ∧ y.cls ≠ "java/lang/invoke/VarHandle" ∧ (parseMethodDescriptor y.desc).map (fun d => d.parameters.length) = some n) (hR : rm.frames + 1 ≤ R.frames ∧ 8 + (maxL + 11) + rm.locals ≤ R.locals)
    {q0 ci : Nat} {q : vw_C} {fs : List Value} (hc : vwCl[ci]? = some q) (hq : q.1 = C) (he : (w σ)[q0]? = some (b, .inr (ci, fs))) (hn : As.length = n) (hl : lv_has ls nL lv) (hst : st0 = As.reverse ++ .ref b :: rest) (hW : (rest.map fun v => v.category).sum ≤ 8) (hdg : decode cc pc = .ok (.invokevirtual index, 3)) (hcl : cells ≤ R.cells ∧ slots ≤ R.slots)
    (kk : ∀ (H1 : Heap) (locs1 : List Loc), zI st D tys (w σ1) A s H1 locs1 → W p l e R s m args below meth c H1 locs1 cells slots Q (F0 m (pc + 3) ls (.long r :: rest))) : W p l e R s m args below meth c H locs cells slots Q (F0 m pc ls st0) := by
  subst hq
  refine va_calll (va_runV (As := As) (rest := rest) ⟨hC.1, hC.2.1, hC.2.2.1, hC.2.2.2.1, hC.2.2.2.2.1⟩ (hM H.size) (cwV n hC.2.2.2.2.1 hT hw hrm.1 hrm.2 hd hR) ⟨zP.blind, va_recv hI.1 hI.2.1 hc he, zP.at hI⟩ rfl hn hl.1 hst (lv_room hW) hdg hcl) hI.2.2.2.1 (fun q _ h => z_free hI q h) (z_free hI) (fun r' u t H1 locs1 ht hvm hw' hB _ _ hS => ?_)
  obtain ⟨rfl, rfl⟩ := Prod.mk.inj hw'
  exact kk H1 locs1 (z_back hI ht hvm hB hS)
theorem z_callVu (hC : zC p m c cc nL s args Ts own meth ret) {w : zSt → va_W} {σ σ1 : zSt} (hI : zI st D tys (w σ) A s H locs) (hM : ∀ sz, zMu st l y ws rm (.ref b :: As) D tys w sz σ σ1) (hT : GoodIn Ts (wsV own index C y ws)) (hw : ws = Cond.code y bytes maxL rt :: ws') (hrm : rm.cells = 0 ∧ rm.slots = 0) (n : Nat)
    (hd : y.cls = C ∧ y.cls ≠ "java/lang/invoke/MethodHandle" ∧ y.cls ≠ "java/lang/invoke/VarHandle" ∧ (parseMethodDescriptor y.desc).map (fun d => d.parameters.length) = some n) (hR : rm.frames + 1 ≤ R.frames ∧ 8 + (maxL + 11) + rm.locals ≤ R.locals)
    {q0 ci : Nat} {q : vw_C} {fs : List Value} (hc : vwCl[ci]? = some q) (hq : q.1 = C) (he : (w σ)[q0]? = some (b, .inr (ci, fs))) (hn : As.length = n) (hl : lv_has ls nL lv) (hst : st0 = As.reverse ++ .ref b :: rest) (hW : (rest.map fun v => v.category).sum ≤ 8) (hdg : decode cc pc = .ok (.invokevirtual index, 3)) (hcl : cells ≤ R.cells ∧ slots ≤ R.slots)
    (kk : ∀ (H1 : Heap) (locs1 : List Loc), zI st D tys (w σ1) A s H1 locs1 → W p l e R s m args below meth c H1 locs1 cells slots Q (F0 m (pc + 3) ls rest)) : W p l e R s m args below meth c H locs cells slots Q (F0 m pc ls st0) := by
  subst hq
  refine va_callv (va_runV (As := As) (rest := rest) ⟨hC.1, hC.2.1, hC.2.2.1, hC.2.2.2.1, hC.2.2.2.2.1⟩ (hM H.size) (cwV n hC.2.2.2.2.1 hT hw hrm.1 hrm.2 hd hR) ⟨zP.blind, va_recv hI.1 hI.2.1 hc he, zP.at hI⟩ rfl hn hl.1 hst (lv_room hW) hdg hcl) hI.2.2.2.1 (fun q _ h => z_free hI q h) (z_free hI) (fun u t H1 locs1 ht hvm hw' hB _ _ hS => ?_)
  subst hw'
  exact kk H1 locs1 (z_back hI ht hvm hB hS)
theorem z_recvK {w : va_W} (hI : zI st D tys w A s H locs) (i : Nat) (hi : i < zNK) : ∃ cell : Cell, H[st (100 + i)]? = some cell ∧ cell.vm.isStatics = false ∧ s.vm.findClass "java/lang/String" = some cell.cls := by
  obtain ⟨cell, h1, h2, h3, -⟩ := (hI.2.2.2.2.2.2.1 i hi).1.kept hI.2.2.2.1.2.1
  exact ⟨cell, h1, h2, h3⟩
theorem z_callVk (hC : zC p m c cc nL s args Ts own meth ret) {w : zSt → va_W} {σ σ1 : zSt} {r : Nat} (hI : zI st D tys (w σ) A s H locs) (hM : ∀ sz, zMk st l y ws rm (.ref b :: As) D tys w sz σ (σ1, r)) (hT : GoodIn Ts (wsV own index C y ws)) (hw : ws = Cond.code y bytes maxL rt :: ws') (hrm : rm.cells = 0 ∧ rm.slots = 0) (n : Nat)
    (hd : y.cls = C ∧ y.cls ≠ "java/lang/invoke/MethodHandle" ∧ y.cls ≠ "java/lang/invoke/VarHandle" ∧ (parseMethodDescriptor y.desc).map (fun d => d.parameters.length) = some n) (hR : rm.frames + 1 ≤ R.frames ∧ 8 + (maxL + 11) + rm.locals ≤ R.locals)
    {q0 ci : Nat} {q : vw_C} {fs : List Value} (hc : vwCl[ci]? = some q) (hq : q.1 = C) (he : (w σ)[q0]? = some (b, .inr (ci, fs))) (hn : As.length = n) (hl : lv_has ls nL lv) (hst : st0 = As.reverse ++ .ref b :: rest) (hW : (rest.map fun v => v.category).sum ≤ 8) (hdg : decode cc pc = .ok (.invokevirtual index, 3)) (hcl : cells ≤ R.cells ∧ slots ≤ R.slots)
    (kk : ∀ (H1 : Heap) (locs1 : List Loc), zI st D tys (w σ1) A s H1 locs1 → W p l e R s m args below meth c H1 locs1 cells slots Q (F0 m (pc + 3) ls (.ref (st (100 + r)) :: rest))) : W p l e R s m args below meth c H locs cells slots Q (F0 m pc ls st0) := by
  subst hq
  refine va_callr (va_runV (As := As) (rest := rest) ⟨hC.1, hC.2.1, hC.2.2.1, hC.2.2.2.1, hC.2.2.2.2.1⟩ (hM H.size) (cwV n hC.2.2.2.2.1 hT hw hrm.1 hrm.2 hd hR) ⟨zP.blind, va_recv hI.1 hI.2.1 hc he, zP.at hI⟩ rfl hn hl.1 hst (lv_room hW) hdg hcl) hI.2.2.2.1 (fun q _ h => z_free hI q h) (z_free hI) (fun u ra t H1 locs1 ht hvm hw' hB _ _ hS => ?_)
  obtain ⟨rfl, hB⟩ := hB
  subst hw'
  exact kk H1 locs1 (z_back hI ht hvm hB hS)
theorem z_callKi (hC : zC p m c cc nL s args Ts own meth ret) {w : zSt → va_W} {σ σ1 : zSt} {r : Int32} (hI : zI st D tys (w σ) A s H locs) {i : Nat} (hM : ∀ sz, zMi st l y ws rm (.ref (st (100 + i)) :: As) D tys w sz σ (σ1, r)) (hT : GoodIn Ts (wsV own index C y ws)) (hw : ws = Cond.code y bytes maxL rt :: ws') (hrm : rm.cells = 0 ∧ rm.slots = 0) (n : Nat)
    (hd : y.cls = C ∧ y.cls ≠ "java/lang/invoke/MethodHandle" ∧ y.cls ≠ "java/lang/invoke/VarHandle" ∧ (parseMethodDescriptor y.desc).map (fun d => d.parameters.length) = some n) (hR : rm.frames + 1 ≤ R.frames ∧ 8 + (maxL + 11) + rm.locals ≤ R.locals)
    (hi : i < zNK) (hq : "java/lang/String" = C) (hn : As.length = n) (hl : lv_has ls nL lv) (hst : st0 = As.reverse ++ .ref (st (100 + i)) :: rest) (hW : (rest.map fun v => v.category).sum ≤ 8) (hdg : decode cc pc = .ok (.invokevirtual index, 3)) (hcl : cells ≤ R.cells ∧ slots ≤ R.slots)
    (kk : ∀ (H1 : Heap) (locs1 : List Loc), zI st D tys (w σ1) A s H1 locs1 → W p l e R s m args below meth c H1 locs1 cells slots Q (F0 m (pc + 3) ls (.int r :: rest))) : W p l e R s m args below meth c H locs cells slots Q (F0 m pc ls st0) := by
  subst hq
  refine va_calli (va_runV (As := As) (rest := rest) ⟨hC.1, hC.2.1, hC.2.2.1, hC.2.2.2.1, hC.2.2.2.2.1⟩ (hM H.size) (cwV n hC.2.2.2.2.1 hT hw hrm.1 hrm.2 hd hR) ⟨zP.blind, z_recvK hI i hi, zP.at hI⟩ rfl hn hl.1 hst (lv_room hW) hdg hcl) hI.2.2.2.1 (fun q _ h => z_free hI q h) (z_free hI) (fun r' u t H1 locs1 ht hvm hw' hB _ _ hS => ?_)
  obtain ⟨rfl, rfl⟩ := Prod.mk.inj hw'
  exact kk H1 locs1 (z_back hI ht hvm hB hS)
theorem z_callSi (hC : zC p m c cc nL s args Ts own meth ret) {w : zSt → va_W} {σ σ1 : zSt} {r : Int32} (hI : zI st D tys (w σ) A s H locs) (hM : ∀ sz, zMi st l y ws rm As D tys w sz σ (σ1, r)) (hT : GoodIn Ts (va_wsS own index y ws)) (hw : ws = Cond.code y bytes maxL rt :: ws') (hrm : rm.cells = 0 ∧ rm.slots = 0) (n : Nat)
    (hd : y.cls ≠ "java/lang/invoke/MethodHandle" ∧ y.cls ≠ "java/lang/invoke/VarHandle" ∧ (parseMethodDescriptor y.desc).map (fun d => d.parameters.length) = some n) (hR : rm.frames + 1 ≤ R.frames ∧ 8 + (maxL + 11) + rm.locals ≤ R.locals)
    (hn : As.length = n) (hl : lv_has ls nL lv) (hst : st0 = As.reverse ++ rest) (hW : (rest.map fun v => v.category).sum ≤ 8) (hdg : decode cc pc = .ok (.invokestatic index, 3)) (hcl : cells ≤ R.cells ∧ slots ≤ R.slots)
    (kk : ∀ (H1 : Heap) (locs1 : List Loc), zI st D tys (w σ1) A s H1 locs1 → W p l e R s m args below meth c H1 locs1 cells slots Q (F0 m (pc + 3) ls (.int r :: rest))) : W p l e R s m args below meth c H locs cells slots Q (F0 m pc ls st0) := by
  refine va_calli (va_runS (As := As) (rest := rest) ⟨hC.1, hC.2.1, hC.2.2.1, hC.2.2.2.1, hC.2.2.2.2.1⟩ (hM H.size) (va_cwS n hC.2.2.2.2.1 hT hw hrm.1 hrm.2 hd hR) ⟨zP.blind, zP.at hI⟩ rfl hn hl.1 hst (lv_room hW) hdg hcl) hI.2.2.2.1 (fun q _ h => z_free hI q h) (z_free hI) (fun r' u t H1 locs1 ht hvm hw' hB _ _ hS => ?_)
  obtain ⟨rfl, rfl⟩ := Prod.mk.inj hw'
  exact kk H1 locs1 (z_back hI ht hvm hB hS)
theorem z_callSl (hC : zC p m c cc nL s args Ts own meth ret) {w : zSt → va_W} {σ σ1 : zSt} {r : Int64} (hI : zI st D tys (w σ) A s H locs) (hM : ∀ sz, zMl st l y ws rm As D tys w sz σ (σ1, r)) (hT : GoodIn Ts (va_wsS own index y ws)) (hw : ws = Cond.code y bytes maxL rt :: ws') (hrm : rm.cells = 0 ∧ rm.slots = 0) (n : Nat)
    (hd : y.cls ≠ "java/lang/invoke/MethodHandle" ∧ y.cls ≠ "java/lang/invoke/VarHandle" ∧ (parseMethodDescriptor y.desc).map (fun d => d.parameters.length) = some n) (hR : rm.frames + 1 ≤ R.frames ∧ 8 + (maxL + 11) + rm.locals ≤ R.locals)
    (hn : As.length = n) (hl : lv_has ls nL lv) (hst : st0 = As.reverse ++ rest) (hW : (rest.map fun v => v.category).sum ≤ 8) (hdg : decode cc pc = .ok (.invokestatic index, 3)) (hcl : cells ≤ R.cells ∧ slots ≤ R.slots)
    (kk : ∀ (H1 : Heap) (locs1 : List Loc), zI st D tys (w σ1) A s H1 locs1 → W p l e R s m args below meth c H1 locs1 cells slots Q (F0 m (pc + 3) ls (.long r :: rest))) : W p l e R s m args below meth c H locs cells slots Q (F0 m pc ls st0) := by
  refine va_calll (va_runS (As := As) (rest := rest) ⟨hC.1, hC.2.1, hC.2.2.1, hC.2.2.2.1, hC.2.2.2.2.1⟩ (hM H.size) (va_cwS n hC.2.2.2.2.1 hT hw hrm.1 hrm.2 hd hR) ⟨zP.blind, zP.at hI⟩ rfl hn hl.1 hst (lv_room hW) hdg hcl) hI.2.2.2.1 (fun q _ h => z_free hI q h) (z_free hI) (fun r' u t H1 locs1 ht hvm hw' hB _ _ hS => ?_)
  obtain ⟨rfl, rfl⟩ := Prod.mk.inj hw'
  exact kk H1 locs1 (z_back hI ht hvm hB hS)
theorem z_callSu (hC : zC p m c cc nL s args Ts own meth ret) {w : zSt → va_W} {σ σ1 : zSt} (hI : zI st D tys (w σ) A s H locs) (hM : ∀ sz, zMu st l y ws rm As D tys w sz σ σ1) (hT : GoodIn Ts (va_wsS own index y ws)) (hw : ws = Cond.code y bytes maxL rt :: ws') (hrm : rm.cells = 0 ∧ rm.slots = 0) (n : Nat)
    (hd : y.cls ≠ "java/lang/invoke/MethodHandle" ∧ y.cls ≠ "java/lang/invoke/VarHandle" ∧ (parseMethodDescriptor y.desc).map (fun d => d.parameters.length) = some n) (hR : rm.frames + 1 ≤ R.frames ∧ 8 + (maxL + 11) + rm.locals ≤ R.locals)
    (hn : As.length = n) (hl : lv_has ls nL lv) (hst : st0 = As.reverse ++ rest) (hW : (rest.map fun v => v.category).sum ≤ 8) (hdg : decode cc pc = .ok (.invokestatic index, 3)) (hcl : cells ≤ R.cells ∧ slots ≤ R.slots)
    (kk : ∀ (H1 : Heap) (locs1 : List Loc), zI st D tys (w σ1) A s H1 locs1 → W p l e R s m args below meth c H1 locs1 cells slots Q (F0 m (pc + 3) ls rest)) : W p l e R s m args below meth c H locs cells slots Q (F0 m pc ls st0) := by
  refine va_callv (va_runS (As := As) (rest := rest) ⟨hC.1, hC.2.1, hC.2.2.1, hC.2.2.2.1, hC.2.2.2.2.1⟩ (hM H.size) (va_cwS n hC.2.2.2.2.1 hT hw hrm.1 hrm.2 hd hR) ⟨zP.blind, zP.at hI⟩ rfl hn hl.1 hst (lv_room hW) hdg hcl) hI.2.2.2.1 (fun q _ h => z_free hI q h) (z_free hI) (fun u t H1 locs1 ht hvm hw' hB _ _ hS => ?_)
  subst hw'
  exact kk H1 locs1 (z_back hI ht hvm hB hS)
end ZR
