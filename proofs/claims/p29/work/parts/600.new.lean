section ZJN0
theorem zw1_6 : Cond.arrayClass .long ∈ wsL_law := zr1 _ (List.mem_of_getElem? (i := 6) rfl)
theorem zw1_15 : Cond.methodLink RX11 1 objectInit ∈ wsL_law := zr1 _ (List.mem_of_getElem? (i := 15) rfl)
theorem zw1_16 : Cond.instanceMethod objectInit ∈ wsL_law := zr1 _ (List.mem_of_getElem? (i := 16) rfl)
theorem zw1_17 : Cond.code objectInit ⟨#[0xb1]⟩ 1 none ∈ wsL_law := zr1 _ (List.mem_of_getElem? (i := 17) rfl)
theorem zw1_19 : Cond.classLink RX11 13 RX2 ∈ wsL_law := zr1 _ (List.mem_of_getElem? (i := 19) rfl)
theorem zw1_20 : Cond.instantiable RX2 14 ∈ wsL_law := zr1 _ (List.mem_of_getElem? (i := 20) rfl)
theorem zw1_23 : Cond.classLink RX11 20 RX9 ∈ wsL_law := zr1 _ (List.mem_of_getElem? (i := 23) rfl)
theorem zw2_0 : Cond.instantiable RX9 6 ∈ wsL_law := zr2 _ (List.mem_of_getElem? (i := 0) rfl)
theorem zw2_3 : Cond.classLink RX11 29 RX3 ∈ wsL_law := zr2 _ (List.mem_of_getElem? (i := 3) rfl)
theorem zw2_4 : Cond.instantiable RX3 9 ∈ wsL_law := zr2 _ (List.mem_of_getElem? (i := 4) rfl)
theorem zw2_7 : Cond.classLink RX11 38 RX7 ∈ wsL_law := zr2 _ (List.mem_of_getElem? (i := 7) rfl)
theorem zw2_8 : Cond.instantiable RX7 2 ∈ wsL_law := zr2 _ (List.mem_of_getElem? (i := 8) rfl)
theorem zw2_11 : Cond.classLink RX11 45 RX10 ∈ wsL_law := zr2 _ (List.mem_of_getElem? (i := 11) rfl)
theorem zw2_12 : Cond.instantiable RX10 8 ∈ wsL_law := zr2 _ (List.mem_of_getElem? (i := 12) rfl)
theorem zw2_15 : Cond.classLink RX11 52 RX4 ∈ wsL_law := zr2 _ (List.mem_of_getElem? (i := 15) rfl)
theorem zw2_16 : Cond.instantiable RX4 6 ∈ wsL_law := zr2 _ (List.mem_of_getElem? (i := 16) rfl)
theorem zw2_19 : Cond.classLink RX11 61 RX5 ∈ wsL_law := zr2 _ (List.mem_of_getElem? (i := 19) rfl)
theorem zw2_20 : Cond.instantiable RX5 6 ∈ wsL_law := zr2 _ (List.mem_of_getElem? (i := 20) rfl)
theorem zw2_23 : Cond.classLink RX11 70 RX0 ∈ wsL_law := zr2 _ (List.mem_of_getElem? (i := 23) rfl)
theorem zw3_0 : Cond.instantiable RX0 6 ∈ wsL_law := zr3 _ (List.mem_of_getElem? (i := 0) rfl)
theorem zw3_3 : Cond.classLink RX11 79 RX1 ∈ wsL_law := zr3 _ (List.mem_of_getElem? (i := 3) rfl)
theorem zw3_4 : Cond.instantiable RX1 6 ∈ wsL_law := zr3 _ (List.mem_of_getElem? (i := 4) rfl)
theorem zw3_7 : Cond.classLink RX11 86 RX8 ∈ wsL_law := zr3 _ (List.mem_of_getElem? (i := 7) rfl)
theorem zw3_8 : Cond.instantiable RX8 11 ∈ wsL_law := zr3 _ (List.mem_of_getElem? (i := 8) rfl)
theorem zw3_11 : Cond.instanceMethod yX2_init ∈ wsL_law := zr3 _ (List.mem_of_getElem? (i := 11) rfl)
theorem zw3_12 : Cond.code yX2_init cX2_init 1 none ∈ wsL_law := zr3 _ (List.mem_of_getElem? (i := 12) rfl)
theorem zw3_13 : Cond.methodLink RX2 1 objectInit ∈ wsL_law := zr3 _ (List.mem_of_getElem? (i := 13) rfl)
theorem zw3_15 : Cond.arrayClass .int ∈ wsL_law := zr3 _ (List.mem_of_getElem? (i := 15) rfl)
theorem zw4_2 : Cond.methodLink RX11 22 yX9_init ∈ wsL_law := zr4 _ (List.mem_of_getElem? (i := 2) rfl)
theorem zw4_3 : Cond.instanceMethod yX9_init ∈ wsL_law := zr4 _ (List.mem_of_getElem? (i := 3) rfl)
theorem zw4_4 : Cond.code yX9_init cX9_init 3 none ∈ wsL_law := zr4 _ (List.mem_of_getElem? (i := 4) rfl)
theorem zw4_5 : Cond.methodLink RX9 1 objectInit ∈ wsL_law := zr4 _ (List.mem_of_getElem? (i := 5) rfl)
theorem zw4_12 : Cond.methodLink RX11 31 yX3_init ∈ wsL_law := zr4 _ (List.mem_of_getElem? (i := 12) rfl)
theorem zw4_13 : Cond.instanceMethod yX3_init ∈ wsL_law := zr4 _ (List.mem_of_getElem? (i := 13) rfl)
theorem zw4_14 : Cond.code yX3_init cX3_init 3 none ∈ wsL_law := zr4 _ (List.mem_of_getElem? (i := 14) rfl)
theorem zw4_15 : Cond.methodLink RX3 1 objectInit ∈ wsL_law := zr4 _ (List.mem_of_getElem? (i := 15) rfl)
theorem zw4_16 : Cond.constant RX3 9 (61440) ∈ wsL_law := zr4 _ (List.mem_of_getElem? (i := 16) rfl)
theorem zw5_0 : Cond.methodLink RX11 40 yX7_init ∈ wsL_law := zr5 _ (List.mem_of_getElem? (i := 0) rfl)
theorem zw5_1 : Cond.instanceMethod yX7_init ∈ wsL_law := zr5 _ (List.mem_of_getElem? (i := 1) rfl)
theorem zw5_2 : Cond.code yX7_init cX7_init 1 none ∈ wsL_law := zr5 _ (List.mem_of_getElem? (i := 2) rfl)
theorem zw5_3 : Cond.methodLink RX7 1 objectInit ∈ wsL_law := zr5 _ (List.mem_of_getElem? (i := 3) rfl)
theorem zw5_6 : Cond.methodLink RX7 16 yX7_clear ∈ wsL_law := zr5 _ (List.mem_of_getElem? (i := 6) rfl)
theorem zw6_0 : Cond.methodLink RX11 47 yX10_init ∈ wsL_law := zr6 _ (List.mem_of_getElem? (i := 0) rfl)
theorem zw6_1 : Cond.instanceMethod yX10_init ∈ wsL_law := zr6 _ (List.mem_of_getElem? (i := 1) rfl)
theorem zw6_2 : Cond.code yX10_init cX10_init 1 none ∈ wsL_law := zr6 _ (List.mem_of_getElem? (i := 2) rfl)
theorem zw6_3 : Cond.methodLink RX10 1 objectInit ∈ wsL_law := zr6 _ (List.mem_of_getElem? (i := 3) rfl)
theorem zw6_6 : Cond.methodLink RX10 16 yX10_clear ∈ wsL_law := zr6 _ (List.mem_of_getElem? (i := 6) rfl)
theorem zw6_11 : Cond.methodLink RX11 54 yX4_init ∈ wsL_law := zr6 _ (List.mem_of_getElem? (i := 11) rfl)
theorem zw6_12 : Cond.instanceMethod yX4_init ∈ wsL_law := zr6 _ (List.mem_of_getElem? (i := 12) rfl)
theorem zw6_13 : Cond.code yX4_init cX4_init 5 none ∈ wsL_law := zr6 _ (List.mem_of_getElem? (i := 13) rfl)
theorem zw6_14 : Cond.methodLink RX4 1 objectInit ∈ wsL_law := zr6 _ (List.mem_of_getElem? (i := 14) rfl)
theorem zw6_21 : Cond.methodLink RX4 32 yX4_clear ∈ wsL_law := zr6 _ (List.mem_of_getElem? (i := 21) rfl)
theorem zw7_1 : Cond.methodLink RX11 63 yX5_init ∈ wsL_law := zr7 _ (List.mem_of_getElem? (i := 1) rfl)
theorem zw7_2 : Cond.instanceMethod yX5_init ∈ wsL_law := zr7 _ (List.mem_of_getElem? (i := 2) rfl)
theorem zw7_3 : Cond.code yX5_init cX5_init 3 none ∈ wsL_law := zr7 _ (List.mem_of_getElem? (i := 3) rfl)
theorem zw7_4 : Cond.methodLink RX5 1 objectInit ∈ wsL_law := zr7 _ (List.mem_of_getElem? (i := 4) rfl)
theorem zw7_11 : Cond.methodLink RX11 72 yX0_init ∈ wsL_law := zr7 _ (List.mem_of_getElem? (i := 11) rfl)
theorem zw7_12 : Cond.instanceMethod yX0_init ∈ wsL_law := zr7 _ (List.mem_of_getElem? (i := 12) rfl)
theorem zw7_13 : Cond.code yX0_init cX0_init 3 none ∈ wsL_law := zr7 _ (List.mem_of_getElem? (i := 13) rfl)
theorem zw7_14 : Cond.methodLink RX0 1 objectInit ∈ wsL_law := zr7 _ (List.mem_of_getElem? (i := 14) rfl)
theorem zw7_15 : Cond.classLink RX0 7 RX6 ∈ wsL_law := zr7 _ (List.mem_of_getElem? (i := 15) rfl)
theorem zw7_16 : Cond.instantiable RX6 6 ∈ wsL_law := zr7 _ (List.mem_of_getElem? (i := 16) rfl)
theorem zw8_0 : Cond.instanceMethod yX6_init ∈ wsL_law := zr8 _ (List.mem_of_getElem? (i := 0) rfl)
theorem zw8_1 : Cond.code yX6_init cX6_init 1 none ∈ wsL_law := zr8 _ (List.mem_of_getElem? (i := 1) rfl)
theorem zw8_2 : Cond.methodLink RX6 1 objectInit ∈ wsL_law := zr8 _ (List.mem_of_getElem? (i := 2) rfl)
theorem zw8_5 : Cond.methodLink RX11 81 yX1_init ∈ wsL_law := zr8 _ (List.mem_of_getElem? (i := 5) rfl)
theorem zw8_6 : Cond.instanceMethod yX1_init ∈ wsL_law := zr8 _ (List.mem_of_getElem? (i := 6) rfl)
theorem zw8_7 : Cond.code yX1_init cX1_init 1 none ∈ wsL_law := zr8 _ (List.mem_of_getElem? (i := 7) rfl)
theorem zw8_8 : Cond.methodLink RX1 1 objectInit ∈ wsL_law := zr8 _ (List.mem_of_getElem? (i := 8) rfl)
theorem zw8_14 : Cond.methodLink RX1 25 yJ7_fill_53178 ∈ wsL_law := zr8 _ (List.mem_of_getElem? (i := 14) rfl)
theorem zw8_15 : Cond.methodLink RX11 88 yX8_init ∈ wsL_law := zr8 _ (List.mem_of_getElem? (i := 15) rfl)
theorem zw8_16 : Cond.instanceMethod yX8_init ∈ wsL_law := zr8 _ (List.mem_of_getElem? (i := 16) rfl)
theorem zw8_17 : Cond.code yX8_init cX8_init 2 none ∈ wsL_law := zr8 _ (List.mem_of_getElem? (i := 17) rfl)
theorem zw8_18 : Cond.methodLink RX8 1 objectInit ∈ wsL_law := zr8 _ (List.mem_of_getElem? (i := 18) rfl)
/-! Constructors: worlds that grow -/
/-- one look at the cells serves both what they hold and that they differ -/
theorem z_fmap {α β : Type} (f : α → Option β) : ∀ (l : List α) (r : List β), l.map f = r.map some → l.filterMap f = r
  | [], [], _ => rfl
  | [], _ :: _, h => by cases h
  | _ :: _, [], h => by cases h
  | a :: l, b :: r, h => by
    have h1 : f a = some b := (List.cons.inj h).1
    have h2 := z_fmap f l r (List.cons.inj h).2
    rw [List.filterMap_cons, h1]
    exact congrArg (fun x => b :: x) h2
theorem z_resub {st : Nat → Nat} {D : va_G} {tys tys' : List (ClassId × FieldType)} {w w' : va_W} {A : Nat → Prop} {s : State} {H : Heap} {locs : List Loc} (h : zI st D tys w A s H locs) (it is : List Nat) (ht : it.filterMap (fun i => tys[i]?) = tys') (hn : va_nd is = true) (hs : is.map (fun i => w[i]?) = w'.map some) : zI st D tys' w' A s H locs :=
  ⟨h.1.sub it ht, h.2.1.sub is (z_fmap _ _ _ hs), h.2.2.1.sub is hn hs, h.2.2.2⟩
section ZN
variable {p : Program} {l : Launch} {e : Env} {R : Room} {s : State} {m : MethodId} {args : Array Value} {below : List Frame} {meth : Method} {c : Code} {H : Heap} {locs : List Loc} {cells slots : Nat} {Q : State → Prop}
variable {st : Nat → Nat} {D : va_G} {tys : List (ClassId × FieldType)} {A : Nat → Prop} {cc : ByteArray} {nL : Nat} {Ts : List Cond} {own : String} {pc : Nat} {ls : Array Slot} {rest : List Value} {ret : Option FieldType} {a : Nat} {w w1 : va_W}
theorem z_newa (hC : zC p m c cc nL s args Ts own meth ret) (hI : zI st D tys w A s H locs) {atype : ArrayType} {ty : FieldType} (hty : newarray.typeOf atype = ty) (harr : Cond.arrayClass ty ∈ Ts) {n : Int32} (N' : Nat) {a0 : vp_A} (ha : ∀ cA : ClassId, vp_cell cA a0 = arrV cA N' (fun _ => defaultValue ty)) (hn : ¬ n < 0) (hN : n.toNatClampNeg = N') (hbytes : N' * componentBytes ty ≤ 536870912) (hcells : cells + 1 ≤ R.cells) (hslots : slots + N' ≤ R.slots) (hdg : decode cc pc = .ok (.newarray atype, 2))
    (kk : ∀ (q : Nat) (cA : ClassId) (H1 : Heap), zI st D (tys ++ [(cA, ty)]) (w ++ [(q, .inl (cA, a0))]) A s H1 locs → W p l e R s m args below meth c H1 locs (cells + 1) (slots + N') Q (F0 m (pc + 2) ls (.ref q :: rest))) : W p l e R s m args below meth c H locs cells slots Q (F0 m pc ls (.int n :: rest)) := by
  subst hty
  exact va_newa hC.1 hC.2.1 (hC.2.2.2.2.1 _ harr) rfl hI.1 hI.2.1 hI.2.2.1 hI.2.2.2.1 hI.2.2.2.2.1 ha hn hN hbytes hcells hslots hdg (fun q cA H1 hK hP hD hS => kk q cA H1 ⟨hK, hP, hD, hS, hI.2.2.2.2⟩)
theorem z_new (hC : zC p m c cc nL s args Ts own meth ret) (hI : zI st D tys w A s H locs) {C : String} {T : u_T} {N ci index : Nat} (hin : ∀ w ∈ u_ws C T N, w ∈ Ts) {ty0 : Nat → FieldType} (hty : ∀ k, k < N → parseFieldDescriptor (T k).2.2.1 = some (ty0 k)) (hcl : Cond.classLink own index C ∈ Ts) (hinst : Cond.instantiable C N ∈ Ts) (hini : Cond.initialized C ∈ Ts) (hc : vwCl[ci]? = some (C, T, N)) (fs : List Value) (hfs : ∀ j, j < N → defaultValue (ty0 j) = vp_V fs j) (hcells : cells + 1 ≤ R.cells) (hslots : slots + N ≤ R.slots) (hdg : decode cc pc = .ok (.new index, 3))
    (kk : ∀ (q : Nat) (H1 : Heap), zI st D tys (w ++ [(q, .inr (ci, fs))]) A s H1 locs → W p l e R s m args below meth c H1 locs (cells + 1) (slots + N) Q (F0 m (pc + 3) ls (.ref q :: rest))) : W p l e R s m args below meth c H locs cells slots Q (F0 m pc ls rest) :=
  va_new hC.1 hC.2.1 hC.2.2.2.2.1 hin ty0 hty hC.2.2.2.1 (hC.2.2.2.2.1 _ hcl) (hC.2.2.2.2.1 _ hinst) (hC.2.2.2.2.1 _ hini) hI.1 hI.2.1 hI.2.2.1 hI.2.2.2.1 hI.2.2.2.2.1 hc hfs hcells hslots hdg (fun q H1 hP hD hS => kk q H1 ⟨hI.1, hP, hD, hS, hI.2.2.2.2⟩)
theorem z_putF (hC : zC p m c cc nL s args Ts own meth ret) (hnm0 : meth.name = "<init>") (hI : zI st D tys w A s H locs) {C : String} {T : u_T} {N ci index : Nat} (hin : ∀ w ∈ u_ws C T N, w ∈ Ts) {ty0 : Nat → FieldType} (hty : ∀ k, k < N → parseFieldDescriptor (T k).2.2.1 = some (ty0 k)) (hnm : ∀ a, a < N → ∀ b, b < N → a ≠ b → (T a).2.1 ≠ (T b).2.1) (q0 : Nat) {fs : List Value} (he : w[q0]? = some (a, .inr (ci, fs))) (hc : vwCl[ci]? = some (C, T, N)) (k : Nat) (hk : k < N) (hlink : Cond.fieldLink own index (T k).1 (T k).2.1 (T k).2.2.1 ∈ Ts) (hfin : (T k).2.2.2 = true) (hdecl : (T k).1 = own) {v : Value} (hn : narrow (ty0 k) v = v) (hfit : fits (ty0 k) v = true) (hl : k < fs.length) (hs : w.set q0 (a, .inr (ci, fs.set k v)) = w1) (hdg : decode cc pc = .ok (.putfield index, 3))
    (kk : ∀ (H1 : Heap) (locs1 : List Loc), zI st D tys w1 A s H1 locs1 → W p l e R s m args below meth c H1 locs1 cells slots Q (F0 m (pc + 3) ls rest)) : W p l e R s m args below meth c H locs cells slots Q (F0 m pc ls (v :: .ref a :: rest)) := by
  subst hs
  exact va_putF hC.1 hC.2.1 hC.2.2.2.2.1 hin ty0 hty hnm hC.2.2.2.1 hI.1 hI.2.1 hI.2.2.1 hI.2.2.2.1 q0 he hc k hk (hC.2.2.2.2.1 _ hlink) (fun _ h => h) hfin hnm0 hdecl (hty k hk) hn hfit hl hdg (fun H1 locs1 h1 h2 h3 => kk H1 locs1 ⟨hI.1, h1, h2, h3, hI.2.2.2.2⟩)
theorem z_objInit (hC : zC p m c cc nL s args Ts own meth ret) {lv : List (Nat × Value)} (hl : lv_has ls nL lv) {idx : Nat} (hlink : Cond.methodLink own idx Lib.objectInit ∈ Ts) (hinst : Cond.instanceMethod Lib.objectInit ∈ Ts) (hcode : Cond.code Lib.objectInit ⟨#[0xb1]⟩ 1 none ∈ Ts) (hd : decode cc pc = .ok (.invokespecial idx, 3)) (hframes : 1 ≤ R.frames) (hlocals : (rest.map fun v => v.category).sum + 12 ≤ R.locals)
    (kk : W p l e R s m args below meth c H locs cells slots Q (F0 m (pc + 3) ls rest)) : W p l e R s m args below meth c H locs cells slots Q (F0 m pc ls (.ref a :: rest)) :=
  W.objInit (g := F0 m pc ls (.ref a :: rest)) hC.1 hC.2.1 hC.2.2.2.1 (hC.2.2.2.2.1 _ hlink) (hC.2.2.2.2.1 _ hinst) (hC.2.2.2.2.1 _ hcode) rfl (hl.1.trans hC.2.2.1.symm) rfl hd hframes (by show 2 * 0 + _ + 12 ≤ _; omega) kk
/-- a constructor's contract: its own cell as it was made; behind it the cells of its part of the world -/
noncomputable def zN (st : Nat → Nat) (l : Launch) (y : MethodName) (ws : List Cond) (rm : Room) (av : List Value) (D : va_G) (w0 : va_W) (sz : Nat) (wn : (Nat → Nat) → (Nat → ClassId) → va_W) (tn : (Nat → ClassId) → List (ClassId × FieldType)) (ex : (Nat → Nat) → Prop) (mc ms : Nat) : Prop :=
  Met l y ws rm (va_Pc av (zP st D [] w0 sz)) (va_Qv (fun (u : (Nat → Nat) × (Nat → ClassId)) => ex u.1) (fun u t => va_P D vwCl (wn u.1 u.2) t.heap ∧ va_K D vwCl (tn u.2) t ∧ va_D (va_A w0 sz) (wn u.1 u.2)) (va_A w0 sz)) mc ms (va_A w0 sz)
theorem zN.of {y : MethodName} {ws ws' : List Cond} {rm : Room} {av : List Value} {w0 : va_W} {sz : Nat} {wn : (Nat → Nat) → (Nat → ClassId) → va_W} {tn : (Nat → ClassId) → List (ClassId × FieldType)} {ex : (Nat → Nat) → Prop} {mc ms maxL : Nat} (hy : plainName y.cls = true) (hyn : y.name = "<init>") (hw : ws = Cond.code y cc maxL none :: ws') (hle : (lg_sl av).length ≤ maxL)
    (kk : ∀ (p : Program) (e : Env) (s : State) (m : MethodId) (args : Array Value) (below : List Frame) (meth : Method) (c : Code), zC p m c cc maxL s args ws y.cls meth none → meth.name = "<init>" → ∀ A : Nat → Prop, zI st D [] w0 A s s.heap [] → ∀ ls : Array Slot, lv_has ls maxL (lv_args 0 av) → W p l e (headSpec ws rm).room s m args below meth c s.heap [] 0 0 (MQ below (va_Qv (fun (u : (Nat → Nat) × (Nat → ClassId)) => ex u.1) (fun u t => va_P D vwCl (wn u.1 u.2) t.heap ∧ va_K D vwCl (tn u.2) t ∧ va_D A (wn u.1 u.2)) A) args s mc ms A) (F0 m 0 ls [])) : zN st l y ws rm av D w0 sz wn tn ex mc ms := by
  refine Met.ofW (cc := cc) (maxL := maxL) (ret := none) hy hw ?_
  intro p e s m args below meth c s₁ B hml hv
  obtain ⟨rfl, hsz, hP, hK, hD, hT⟩ := hv
  have hl := lv_entry av (n := maxL) hle
  rw [lg_entry_eq]
  exact kk p e s m av.toArray below meth c ⟨B.exec, B.bytes, hml, findClass_of_methodNamed B.named, atoms_spec (ws := ws) B.pre, B.returns, B.notSynchronized⟩ ((name_of_methodNamed B.named B.method).1.trans hyn) _ ⟨hK, hP, hD.self, va_S.rf, fun q h => by rw [hsz] at h; exact Or.inr h, hT⟩ _ hl
theorem z_nreturn0 (hC : zC p m c cc nL s args Ts own meth none) {wn : (Nat → Nat) → (Nat → ClassId) → va_W} {tn : (Nat → ClassId) → List (ClassId × FieldType)} {ex : (Nat → Nat) → Prop} {mc ms : Nat} (ad : Nat → Nat) (cy : Nat → ClassId) (hI : zI st D (tn cy) (wn ad cy) A s H locs) (hh : ex ad) (hc : cells ≤ mc) (hs : slots ≤ ms) (hdg : decode cc pc = .ok (.return_, 1)) : W p l e R s m args below meth c H locs cells slots (MQ below (va_Qv (fun (u : (Nat → Nat) × (Nat → ClassId)) => ex u.1) (fun u t => va_P D vwCl (wn u.1 u.2) t.heap ∧ va_K D vwCl (tn u.2) t ∧ va_D A (wn u.1 u.2)) A) args s mc ms A) (F0 m pc ls []) := by
  obtain ⟨hx, hb, hml, hown, hts, hr, hlk⟩ := hC
  obtain ⟨hK, hP, hD, hS, hA, hT⟩ := hI
  refine W.widen (k := mc) (n := ms) hc hs ?_
  exact W.vret hx hb hr (fun t ht hW => ⟨⟨(ad, cy), rfl, hh, by rw [ht]; exact hP, va_K.moved hW.alike hK, hD⟩, hS.F ht⟩) hS.2.2 hdg hlk
/-- what is ahead of the last cell, and the last cell -/
theorem z_sub_last {x : Nat × va_E} (hP : va_P D vwCl (w ++ [x]) H) (hD : va_D A (w ++ [x])) : va_P D vwCl [x] H ∧ va_D A [x] := by
  have e : (w ++ [x])[w.length]? = some x := by simp
  refine ⟨fun k q hk => ?_, ⟨fun i j p q hi hj _ => ?_, fun k q hk => ?_⟩⟩
  · cases k with
    | zero => cases hk; exact hP _ _ e
    | succ k => simp at hk
  · cases i with
    | zero => cases j with
      | zero => rfl
      | succ j => simp at hj
    | succ i => simp at hi
  · cases k with
    | zero => cases hk; exact hD.2 _ _ e
    | succ k => simp at hk
theorem z_range_map (w : va_W) (x : Nat × va_E) : (List.range w.length).map (fun i => (w ++ [x])[i]?) = w.map some := by
  apply List.ext_getElem?
  intro i
  by_cases h : i < w.length
  · simp only [List.getElem?_map, List.getElem?_range h, Option.map_some, List.getElem?_append_left h]
    rw [List.getElem?_eq_getElem h]
    rfl
  · simp [List.getElem?_map, List.getElem?_eq_none (Nat.le_of_not_lt h), List.getElem?_eq_none (show (List.range w.length).length ≤ i by simpa using Nat.le_of_not_lt h)]
theorem va_nd_nodup : ∀ l : List Nat, l.Nodup → va_nd l = true
  | [], _ => rfl
  | a :: l, h => by
    have h := List.nodup_cons.mp h
    simp only [va_nd, Bool.and_eq_true, decide_eq_true_eq]
    exact ⟨h.1, va_nd_nodup l h.2⟩
theorem z_joinL {x : Nat × va_E} {w2 : va_W} {H1 : Heap} (hP : va_P D vwCl (w ++ [x]) H) (hD : va_D A (w ++ [x])) (hk : ∀ q : Nat, q < H.size → ¬ va_A [x] H.size q → H1[q]? = H[q]?) (hF : ∀ q, va_A [x] H.size q → A q) (hP1 : va_P D vwCl w2 H1) (hD1 : va_D (va_A [x] H.size) w2) : va_P D vwCl (w ++ w2) H1 ∧ va_D A (w ++ w2) :=
  va_join hP hD [w.length] (List.range w.length) (by simp) (z_range_map w x) (va_nd_nodup _ List.nodup_range) (fun i hi h => by simp at hi h; omega) hk hF hP1 hD1
theorem z_freeL {x : Nat × va_E} (hI : zI st D tys (w ++ [x]) A s H locs) : ∀ q, va_A [x] H.size q → A q := by
  intro q h
  rcases h with ⟨k2, e2, h⟩ | h
  · exact (z_sub_last hI.2.1 hI.2.2.1).2.2 k2 (q, e2) h
  · exact hI.2.2.2.2.1 _ (Nat.le_trans hI.2.2.2.1.1 h)
theorem zP.atL {av : List Value} {x : Nat × va_E} (hI : zI st D tys (w ++ [x]) A s H locs) : ∀ U : State, U.heap = H → s.WarmedH U.vm → va_Pc av (zP st D [] [x] H.size) av.toArray U := fun U hU hW =>
  ⟨rfl, by rw [hU], by rw [hU]; exact (z_sub_last hI.2.1 hI.2.2.1).1, va_K.moved hW.alike (hI.1.sub [] rfl), (z_sub_last hI.2.1 hI.2.2.1).2.weaken (fun _ _ _ _ => trivial), by rw [hU]; exact zT.warm hW ((hI.2.2.2.2.2.kept hI.2.2.2.1.2.1).narrow (z_freeL hI))⟩
variable {y : MethodName} {ws ws' : List Cond} {rm : Room} {bytes : ByteArray} {maxL index n : Nat} {As : List Value} {lv : List (Nat × Value)} {st0 : List Value} {q0 : Nat} {e0 : va_E}
theorem z_callI (hC : zC p m c cc nL s args Ts own meth ret) (hI : zI st D tys (w ++ [(q0, e0)]) A s H locs) {wn : (Nat → Nat) → (Nat → ClassId) → va_W} {tn : (Nat → ClassId) → List (ClassId × FieldType)} {ex : (Nat → Nat) → Prop} {mc ms : Nat} (hM : ∀ sz, zN st l y ws rm (.ref q0 :: As) D [(q0, e0)] sz wn tn ex mc ms) (hG : GoodIn Ts ws) (hw : ws = Cond.code y bytes maxL none :: ws') (hrc : rm.cells = mc) (hrs : rm.slots = ms) (hini : Cond.initialized y.cls ∈ Ts) (hlk : Cond.methodLink own index y ∈ Ts) (hin : Cond.instanceMethod y ∈ Ts) (hy1 : y.name = "<init>") (n : Nat)
    (hd : y.cls ≠ "java/lang/invoke/MethodHandle" ∧ y.cls ≠ "java/lang/invoke/VarHandle" ∧ (parseMethodDescriptor y.desc).map (fun d => d.parameters.length) = some n) (hR : rm.frames + 1 ≤ R.frames ∧ 8 + (maxL + 11) + rm.locals ≤ R.locals) (hn : As.length = n) (hl : lv_has ls nL lv) (hst : st0 = As.reverse ++ .ref q0 :: rest) (hW : (rest.map fun v => v.category).sum ≤ 8) (hdg : decode cc pc = .ok (.invokespecial index, 3)) (hf : cells + mc ≤ R.cells ∧ slots + ms ≤ R.slots)
    (kk : ∀ (ad : Nat → Nat) (cy : Nat → ClassId) (H1 : Heap) (locs1 : List Loc), ex ad → zI st D (tys ++ tn cy) (w ++ wn ad cy) A s H1 locs1 → W p l e R s m args below meth c H1 locs1 (cells + mc) (slots + ms) Q (F0 m (pc + 3) ls rest)) : W p l e R s m args below meth c H locs cells slots Q (F0 m pc ls st0) := by
  refine va_callv (va_runI (As := As) (rest := rest) ⟨hC.1, hC.2.1, hC.2.2.1, hC.2.2.2.1, hC.2.2.2.2.1⟩ (hM H.size) (cwI n hC.2.2.2.2.1 hG hw hrc hrs (hC.2.2.2.2.1 _ hini) (hC.2.2.2.2.1 _ hlk) (hC.2.2.2.2.1 _ hin) hy1 hd hR) ⟨zP.blind, zP.atL hI⟩ rfl hn hl.1 hst (lv_room hW) hdg hf) hI.2.2.2.1 (fun q _ h => z_freeL hI q h) (z_freeL hI) (fun u t H1 locs1 ht hvm hw' hB _ hk1 hS => ?_)
  obtain ⟨hP1, hK1, hD1⟩ := hB
  rw [ht] at hP1
  obtain ⟨hP, hD⟩ := z_joinL hI.2.1 hI.2.2.1 hk1 (z_freeL hI) hP1 hD1
  exact kk u.1 u.2 H1 locs1 hw' ⟨hI.1.app (va_K.moved hvm.symm hK1), hP, hD, hS, hI.2.2.2.2⟩
theorem z_callIN (hC : zC p m c cc nL s args Ts own meth ret) (hI : zI st D tys (w ++ [(q0, e0)]) A s H locs) {wn : (Nat → Nat) → (Nat → ClassId) → va_W} {tn : (Nat → ClassId) → List (ClassId × FieldType)} {ex : (Nat → Nat) → Prop} {mc ms : Nat} (hM : ∀ sz, zN st l y ws rm (.ref q0 :: As) D [(q0, e0)] sz wn tn ex mc ms) (hG : GoodIn Ts ws) (hw : ws = Cond.code y bytes maxL none :: ws') (hrc : rm.cells = mc) (hrs : rm.slots = ms) (hini : Cond.initialized y.cls ∈ Ts) {host : String} (hlk : (own, index, y, host) ∈ zNe) (hin : Cond.instanceMethod y ∈ Ts) (hy1 : y.name = "<init>") (n : Nat)
    (hd : y.cls ≠ "java/lang/invoke/MethodHandle" ∧ y.cls ≠ "java/lang/invoke/VarHandle" ∧ (parseMethodDescriptor y.desc).map (fun d => d.parameters.length) = some n) (hR : rm.frames + 1 ≤ R.frames ∧ 8 + (maxL + 11) + rm.locals ≤ R.locals) (hn : As.length = n) (hl : lv_has ls nL lv) (hst : st0 = As.reverse ++ .ref q0 :: rest) (hW : (rest.map fun v => v.category).sum ≤ 8) (hdg : decode cc pc = .ok (.invokespecial index, 3)) (hf : cells + mc ≤ R.cells ∧ slots + ms ≤ R.slots)
    (kk : ∀ (ad : Nat → Nat) (cy : Nat → ClassId) (H1 : Heap) (locs1 : List Loc), ex ad → zI st D (tys ++ tn cy) (w ++ wn ad cy) A s H1 locs1 → W p l e R s m args below meth c H1 locs1 (cells + mc) (slots + ms) Q (F0 m (pc + 3) ls rest)) : W p l e R s m args below meth c H locs cells slots Q (F0 m pc ls st0) := by
  refine va_callv (va_runIN (As := As) (rest := rest) ⟨hC.1, hC.2.1, hC.2.2.1, hC.2.2.2.1, hC.2.2.2.2.1⟩ (hM H.size) ⟨va_cnB n hC.2.2.2.2.1 hG hw hrc hrs (hI.2.2.2.2.2.2.2.2.2.2.2.2.2.2.2 _ hlk) (hC.2.2.2.2.1 _ hini) hd hR, hy1, hC.2.2.2.2.1 _ hin⟩ ⟨zP.blind, zP.atL hI⟩ rfl hn hl.1 hst (lv_room hW) hdg hf) hI.2.2.2.1 (fun q _ h => z_freeL hI q h) (z_freeL hI) (fun u t H1 locs1 ht hvm hw' hB _ hk1 hS => ?_)
  obtain ⟨hP1, hK1, hD1⟩ := hB
  rw [ht] at hP1
  obtain ⟨hP, hD⟩ := z_joinL hI.2.1 hI.2.2.1 hk1 (z_freeL hI) hP1 hD1
  exact kk u.1 u.2 H1 locs1 hw' ⟨hI.1.app (va_K.moved hvm.symm hK1), hP, hD, hS, hI.2.2.2.2⟩
end ZN
theorem zgI {cd cd1 : Cond} (h5 : cd1 ∈ wsL_law) : GoodIn (cd :: wsL_law) (cd1 :: wsL_law) := fun w hw => by
  rcases List.mem_cons.mp hw with rfl | h
  · exact ⟨List.mem_cons_of_mem _ h5, zgood_all _ h5⟩
  · exact ⟨List.mem_cons_of_mem _ h, zgood_all _ h⟩
/-- all zeros -/
noncomputable def zS0 : zSt := (fun _ _ => 0, fun _ _ => 0)
noncomputable def wN1 (ad : Nat → Nat) (cy : Nat → ClassId) (σ : zSt) : va_W := [(ad 1, .inr (4, wCf1 ad σ)), (ad 13, .inl (cy 13, 262656, .inl (zgi σ 13))), (ad 14, .inl (cy 14, 262656, .inl (zgi σ 14))), (ad 15, .inl (cy 15, 8192, .inl (zgi σ 15))), (ad 16, .inl (cy 16, 8192, .inl (zgi σ 16))), (ad 17, .inl (cy 17, 32768, .inl (zgi σ 17))), (ad 18, .inl (cy 18, 32768, .inl (zgi σ 18))), (ad 19, .inl (cy 19, 4, .inl (zgi σ 19))), (ad 20, .inl (cy 20, 4, .inl (zgi σ 20)))]
noncomputable def tN1 (cy : Nat → ClassId) : List (ClassId × FieldType) := [(cy 13, .int), (cy 14, .int), (cy 15, .int), (cy 16, .int), (cy 17, .int), (cy 18, .int), (cy 19, .int), (cy 20, .int)]
theorem wN1_e1 (ad : Nat → Nat) (cy : Nat → ClassId) (σ : zSt) : (wN1 ad cy σ)[0]? = some (ad 1, .inr (4, wCf1 ad σ)) := rfl
theorem wN1_s1_2 (ad : Nat → Nat) (cy : Nat → ClassId) (σ : zSt) (v : Int32) : (wN1 ad cy σ).set 0 (ad 1, .inr (4, (wCf1 ad σ).set 2 (.int v))) = wN1 ad cy (zsi σ 1 2 v) := rfl
theorem wN1_s1_3 (ad : Nat → Nat) (cy : Nat → ClassId) (σ : zSt) (v : Int32) : (wN1 ad cy σ).set 0 (ad 1, .inr (4, (wCf1 ad σ).set 3 (.int v))) = wN1 ad cy (zsi σ 1 3 v) := rfl
theorem wN1_s1_4 (ad : Nat → Nat) (cy : Nat → ClassId) (σ : zSt) (v : Int32) : (wN1 ad cy σ).set 0 (ad 1, .inr (4, (wCf1 ad σ).set 4 (.int v))) = wN1 ad cy (zsi σ 1 4 v) := rfl
theorem wN1_s1_5 (ad : Nat → Nat) (cy : Nat → ClassId) (σ : zSt) (v : Int32) : (wN1 ad cy σ).set 0 (ad 1, .inr (4, (wCf1 ad σ).set 5 (.int v))) = wN1 ad cy (zsi σ 1 5 v) := rfl
theorem wN1_s1_6 (ad : Nat → Nat) (cy : Nat → ClassId) (σ : zSt) (v : Int32) : (wN1 ad cy σ).set 0 (ad 1, .inr (4, (wCf1 ad σ).set 6 (.int v))) = wN1 ad cy (zsi σ 1 6 v) := rfl
theorem wN1_s1_7 (ad : Nat → Nat) (cy : Nat → ClassId) (σ : zSt) (v : Int32) : (wN1 ad cy σ).set 0 (ad 1, .inr (4, (wCf1 ad σ).set 7 (.int v))) = wN1 ad cy (zsi σ 1 7 v) := rfl
theorem wN1_e13 (ad : Nat → Nat) (cy : Nat → ClassId) (σ : zSt) : (wN1 ad cy σ)[1]? = some (ad 13, .inl (cy 13, 262656, .inl (zgi σ 13))) := rfl
theorem wN1_s13 (ad : Nat → Nat) (cy : Nat → ClassId) (σ : zSt) (j : Nat) (v : Int32) : (wN1 ad cy σ).set 1 (ad 13, .inl (cy 13, 262656, .inl (upd (zgi σ 13) j v))) = wN1 ad cy (zsi σ 13 j v) := rfl
theorem tN1_t13 (cy : Nat → ClassId) : (tN1 cy)[0]? = some (cy 13, .int) := rfl
theorem wN1_e14 (ad : Nat → Nat) (cy : Nat → ClassId) (σ : zSt) : (wN1 ad cy σ)[2]? = some (ad 14, .inl (cy 14, 262656, .inl (zgi σ 14))) := rfl
theorem wN1_s14 (ad : Nat → Nat) (cy : Nat → ClassId) (σ : zSt) (j : Nat) (v : Int32) : (wN1 ad cy σ).set 2 (ad 14, .inl (cy 14, 262656, .inl (upd (zgi σ 14) j v))) = wN1 ad cy (zsi σ 14 j v) := rfl
theorem tN1_t14 (cy : Nat → ClassId) : (tN1 cy)[1]? = some (cy 14, .int) := rfl
theorem wN1_e15 (ad : Nat → Nat) (cy : Nat → ClassId) (σ : zSt) : (wN1 ad cy σ)[3]? = some (ad 15, .inl (cy 15, 8192, .inl (zgi σ 15))) := rfl
theorem wN1_s15 (ad : Nat → Nat) (cy : Nat → ClassId) (σ : zSt) (j : Nat) (v : Int32) : (wN1 ad cy σ).set 3 (ad 15, .inl (cy 15, 8192, .inl (upd (zgi σ 15) j v))) = wN1 ad cy (zsi σ 15 j v) := rfl
theorem tN1_t15 (cy : Nat → ClassId) : (tN1 cy)[2]? = some (cy 15, .int) := rfl
theorem wN1_e16 (ad : Nat → Nat) (cy : Nat → ClassId) (σ : zSt) : (wN1 ad cy σ)[4]? = some (ad 16, .inl (cy 16, 8192, .inl (zgi σ 16))) := rfl
theorem wN1_s16 (ad : Nat → Nat) (cy : Nat → ClassId) (σ : zSt) (j : Nat) (v : Int32) : (wN1 ad cy σ).set 4 (ad 16, .inl (cy 16, 8192, .inl (upd (zgi σ 16) j v))) = wN1 ad cy (zsi σ 16 j v) := rfl
theorem tN1_t16 (cy : Nat → ClassId) : (tN1 cy)[3]? = some (cy 16, .int) := rfl
theorem wN1_e17 (ad : Nat → Nat) (cy : Nat → ClassId) (σ : zSt) : (wN1 ad cy σ)[5]? = some (ad 17, .inl (cy 17, 32768, .inl (zgi σ 17))) := rfl
theorem wN1_s17 (ad : Nat → Nat) (cy : Nat → ClassId) (σ : zSt) (j : Nat) (v : Int32) : (wN1 ad cy σ).set 5 (ad 17, .inl (cy 17, 32768, .inl (upd (zgi σ 17) j v))) = wN1 ad cy (zsi σ 17 j v) := rfl
theorem tN1_t17 (cy : Nat → ClassId) : (tN1 cy)[4]? = some (cy 17, .int) := rfl
theorem wN1_e18 (ad : Nat → Nat) (cy : Nat → ClassId) (σ : zSt) : (wN1 ad cy σ)[6]? = some (ad 18, .inl (cy 18, 32768, .inl (zgi σ 18))) := rfl
theorem wN1_s18 (ad : Nat → Nat) (cy : Nat → ClassId) (σ : zSt) (j : Nat) (v : Int32) : (wN1 ad cy σ).set 6 (ad 18, .inl (cy 18, 32768, .inl (upd (zgi σ 18) j v))) = wN1 ad cy (zsi σ 18 j v) := rfl
theorem tN1_t18 (cy : Nat → ClassId) : (tN1 cy)[5]? = some (cy 18, .int) := rfl
theorem wN1_e19 (ad : Nat → Nat) (cy : Nat → ClassId) (σ : zSt) : (wN1 ad cy σ)[7]? = some (ad 19, .inl (cy 19, 4, .inl (zgi σ 19))) := rfl
theorem wN1_s19 (ad : Nat → Nat) (cy : Nat → ClassId) (σ : zSt) (j : Nat) (v : Int32) : (wN1 ad cy σ).set 7 (ad 19, .inl (cy 19, 4, .inl (upd (zgi σ 19) j v))) = wN1 ad cy (zsi σ 19 j v) := rfl
theorem tN1_t19 (cy : Nat → ClassId) : (tN1 cy)[6]? = some (cy 19, .int) := rfl
theorem wN1_e20 (ad : Nat → Nat) (cy : Nat → ClassId) (σ : zSt) : (wN1 ad cy σ)[8]? = some (ad 20, .inl (cy 20, 4, .inl (zgi σ 20))) := rfl
theorem wN1_s20 (ad : Nat → Nat) (cy : Nat → ClassId) (σ : zSt) (j : Nat) (v : Int32) : (wN1 ad cy σ).set 8 (ad 20, .inl (cy 20, 4, .inl (upd (zgi σ 20) j v))) = wN1 ad cy (zsi σ 20 j v) := rfl
theorem tN1_t20 (cy : Nat → ClassId) : (tN1 cy)[7]? = some (cy 20, .int) := rfl
noncomputable def wN2 (ad : Nat → Nat) (cy : Nat → ClassId) (σ : zSt) : va_W := [(ad 2, .inr (11, wCf2 ad σ)), (ad 21, .inl (cy 21, 16384, .inl (zgi σ 21))), (ad 22, .inl (cy 22, 16384, .inl (zgi σ 22))), (ad 23, .inl (cy 23, 96, .inl (zgi σ 23))), (ad 24, .inl (cy 24, 96, .inl (zgi σ 24)))]
noncomputable def tN2 (cy : Nat → ClassId) : List (ClassId × FieldType) := [(cy 21, .int), (cy 22, .int), (cy 23, .int), (cy 24, .int)]
theorem wN2_e2 (ad : Nat → Nat) (cy : Nat → ClassId) (σ : zSt) : (wN2 ad cy σ)[0]? = some (ad 2, .inr (11, wCf2 ad σ)) := rfl
theorem wN2_e21 (ad : Nat → Nat) (cy : Nat → ClassId) (σ : zSt) : (wN2 ad cy σ)[1]? = some (ad 21, .inl (cy 21, 16384, .inl (zgi σ 21))) := rfl
theorem wN2_s21 (ad : Nat → Nat) (cy : Nat → ClassId) (σ : zSt) (j : Nat) (v : Int32) : (wN2 ad cy σ).set 1 (ad 21, .inl (cy 21, 16384, .inl (upd (zgi σ 21) j v))) = wN2 ad cy (zsi σ 21 j v) := rfl
theorem tN2_t21 (cy : Nat → ClassId) : (tN2 cy)[0]? = some (cy 21, .int) := rfl
theorem wN2_e22 (ad : Nat → Nat) (cy : Nat → ClassId) (σ : zSt) : (wN2 ad cy σ)[2]? = some (ad 22, .inl (cy 22, 16384, .inl (zgi σ 22))) := rfl
theorem wN2_s22 (ad : Nat → Nat) (cy : Nat → ClassId) (σ : zSt) (j : Nat) (v : Int32) : (wN2 ad cy σ).set 2 (ad 22, .inl (cy 22, 16384, .inl (upd (zgi σ 22) j v))) = wN2 ad cy (zsi σ 22 j v) := rfl
theorem tN2_t22 (cy : Nat → ClassId) : (tN2 cy)[1]? = some (cy 22, .int) := rfl
theorem wN2_e23 (ad : Nat → Nat) (cy : Nat → ClassId) (σ : zSt) : (wN2 ad cy σ)[3]? = some (ad 23, .inl (cy 23, 96, .inl (zgi σ 23))) := rfl
theorem wN2_s23 (ad : Nat → Nat) (cy : Nat → ClassId) (σ : zSt) (j : Nat) (v : Int32) : (wN2 ad cy σ).set 3 (ad 23, .inl (cy 23, 96, .inl (upd (zgi σ 23) j v))) = wN2 ad cy (zsi σ 23 j v) := rfl
theorem tN2_t23 (cy : Nat → ClassId) : (tN2 cy)[2]? = some (cy 23, .int) := rfl
theorem wN2_e24 (ad : Nat → Nat) (cy : Nat → ClassId) (σ : zSt) : (wN2 ad cy σ)[4]? = some (ad 24, .inl (cy 24, 96, .inl (zgi σ 24))) := rfl
theorem wN2_s24 (ad : Nat → Nat) (cy : Nat → ClassId) (σ : zSt) (j : Nat) (v : Int32) : (wN2 ad cy σ).set 4 (ad 24, .inl (cy 24, 96, .inl (upd (zgi σ 24) j v))) = wN2 ad cy (zsi σ 24 j v) := rfl
theorem tN2_t24 (cy : Nat → ClassId) : (tN2 cy)[3]? = some (cy 24, .int) := rfl
noncomputable def wN3 (ad : Nat → Nat) (cy : Nat → ClassId) (σ : zSt) : va_W := [(ad 3, .inr (5, wCf3 ad σ)), (ad 25, .inl (cy 25, 61440, .inl (zgi σ 25))), (ad 26, .inl (cy 26, 61440, .inl (zgi σ 26))), (ad 27, .inl (cy 27, 256, .inl (zgi σ 27))), (ad 28, .inl (cy 28, 256, .inl (zgi σ 28))), (ad 29, .inl (cy 29, 32, .inl (zgi σ 29)))]
noncomputable def tN3 (cy : Nat → ClassId) : List (ClassId × FieldType) := [(cy 25, .int), (cy 26, .int), (cy 27, .int), (cy 28, .int), (cy 29, .int)]
theorem wN3_e3 (ad : Nat → Nat) (cy : Nat → ClassId) (σ : zSt) : (wN3 ad cy σ)[0]? = some (ad 3, .inr (5, wCf3 ad σ)) := rfl
theorem wN3_s3_7 (ad : Nat → Nat) (cy : Nat → ClassId) (σ : zSt) (v : Int32) : (wN3 ad cy σ).set 0 (ad 3, .inr (5, (wCf3 ad σ).set 7 (.int v))) = wN3 ad cy (zsi σ 3 7 v) := rfl
theorem wN3_s3_8 (ad : Nat → Nat) (cy : Nat → ClassId) (σ : zSt) (v : Int32) : (wN3 ad cy σ).set 0 (ad 3, .inr (5, (wCf3 ad σ).set 8 (.int v))) = wN3 ad cy (zsi σ 3 8 v) := rfl
theorem wN3_e25 (ad : Nat → Nat) (cy : Nat → ClassId) (σ : zSt) : (wN3 ad cy σ)[1]? = some (ad 25, .inl (cy 25, 61440, .inl (zgi σ 25))) := rfl
theorem wN3_s25 (ad : Nat → Nat) (cy : Nat → ClassId) (σ : zSt) (j : Nat) (v : Int32) : (wN3 ad cy σ).set 1 (ad 25, .inl (cy 25, 61440, .inl (upd (zgi σ 25) j v))) = wN3 ad cy (zsi σ 25 j v) := rfl
theorem tN3_t25 (cy : Nat → ClassId) : (tN3 cy)[0]? = some (cy 25, .int) := rfl
theorem wN3_e26 (ad : Nat → Nat) (cy : Nat → ClassId) (σ : zSt) : (wN3 ad cy σ)[2]? = some (ad 26, .inl (cy 26, 61440, .inl (zgi σ 26))) := rfl
theorem wN3_s26 (ad : Nat → Nat) (cy : Nat → ClassId) (σ : zSt) (j : Nat) (v : Int32) : (wN3 ad cy σ).set 2 (ad 26, .inl (cy 26, 61440, .inl (upd (zgi σ 26) j v))) = wN3 ad cy (zsi σ 26 j v) := rfl
theorem tN3_t26 (cy : Nat → ClassId) : (tN3 cy)[1]? = some (cy 26, .int) := rfl
theorem wN3_e27 (ad : Nat → Nat) (cy : Nat → ClassId) (σ : zSt) : (wN3 ad cy σ)[3]? = some (ad 27, .inl (cy 27, 256, .inl (zgi σ 27))) := rfl
theorem wN3_s27 (ad : Nat → Nat) (cy : Nat → ClassId) (σ : zSt) (j : Nat) (v : Int32) : (wN3 ad cy σ).set 3 (ad 27, .inl (cy 27, 256, .inl (upd (zgi σ 27) j v))) = wN3 ad cy (zsi σ 27 j v) := rfl
theorem tN3_t27 (cy : Nat → ClassId) : (tN3 cy)[2]? = some (cy 27, .int) := rfl
theorem wN3_e28 (ad : Nat → Nat) (cy : Nat → ClassId) (σ : zSt) : (wN3 ad cy σ)[4]? = some (ad 28, .inl (cy 28, 256, .inl (zgi σ 28))) := rfl
theorem wN3_s28 (ad : Nat → Nat) (cy : Nat → ClassId) (σ : zSt) (j : Nat) (v : Int32) : (wN3 ad cy σ).set 4 (ad 28, .inl (cy 28, 256, .inl (upd (zgi σ 28) j v))) = wN3 ad cy (zsi σ 28 j v) := rfl
theorem tN3_t28 (cy : Nat → ClassId) : (tN3 cy)[3]? = some (cy 28, .int) := rfl
theorem wN3_e29 (ad : Nat → Nat) (cy : Nat → ClassId) (σ : zSt) : (wN3 ad cy σ)[5]? = some (ad 29, .inl (cy 29, 32, .inl (zgi σ 29))) := rfl
theorem wN3_s29 (ad : Nat → Nat) (cy : Nat → ClassId) (σ : zSt) (j : Nat) (v : Int32) : (wN3 ad cy σ).set 5 (ad 29, .inl (cy 29, 32, .inl (upd (zgi σ 29) j v))) = wN3 ad cy (zsi σ 29 j v) := rfl
theorem tN3_t29 (cy : Nat → ClassId) : (tN3 cy)[4]? = some (cy 29, .int) := rfl
noncomputable def wN4 (ad : Nat → Nat) (cy : Nat → ClassId) (σ : zSt) : va_W := [(ad 4, .inr (9, wCf4 ad σ)), (ad 30, .inl (cy 30, 19, .inl (zgi σ 30))), (ad 31, .inl (cy 31, 19, .inl (zgi σ 31)))]
noncomputable def tN4 (cy : Nat → ClassId) : List (ClassId × FieldType) := [(cy 30, .int), (cy 31, .int)]
theorem wN4_e4 (ad : Nat → Nat) (cy : Nat → ClassId) (σ : zSt) : (wN4 ad cy σ)[0]? = some (ad 4, .inr (9, wCf4 ad σ)) := rfl
theorem wN4_e30 (ad : Nat → Nat) (cy : Nat → ClassId) (σ : zSt) : (wN4 ad cy σ)[1]? = some (ad 30, .inl (cy 30, 19, .inl (zgi σ 30))) := rfl
theorem wN4_s30 (ad : Nat → Nat) (cy : Nat → ClassId) (σ : zSt) (j : Nat) (v : Int32) : (wN4 ad cy σ).set 1 (ad 30, .inl (cy 30, 19, .inl (upd (zgi σ 30) j v))) = wN4 ad cy (zsi σ 30 j v) := rfl
theorem tN4_t30 (cy : Nat → ClassId) : (tN4 cy)[0]? = some (cy 30, .int) := rfl
theorem wN4_e31 (ad : Nat → Nat) (cy : Nat → ClassId) (σ : zSt) : (wN4 ad cy σ)[2]? = some (ad 31, .inl (cy 31, 19, .inl (zgi σ 31))) := rfl
theorem wN4_s31 (ad : Nat → Nat) (cy : Nat → ClassId) (σ : zSt) (j : Nat) (v : Int32) : (wN4 ad cy σ).set 2 (ad 31, .inl (cy 31, 19, .inl (upd (zgi σ 31) j v))) = wN4 ad cy (zsi σ 31 j v) := rfl
theorem tN4_t31 (cy : Nat → ClassId) : (tN4 cy)[1]? = some (cy 31, .int) := rfl
noncomputable def wN5 (ad : Nat → Nat) (cy : Nat → ClassId) (σ : zSt) : va_W := [(ad 5, .inr (12, wCf5 ad σ)), (ad 32, .inl (cy 32, 272, .inl (zgi σ 32))), (ad 33, .inl (cy 33, 272, .inl (zgi σ 33)))]
noncomputable def tN5 (cy : Nat → ClassId) : List (ClassId × FieldType) := [(cy 32, .int), (cy 33, .int)]
theorem wN5_e5 (ad : Nat → Nat) (cy : Nat → ClassId) (σ : zSt) : (wN5 ad cy σ)[0]? = some (ad 5, .inr (12, wCf5 ad σ)) := rfl
theorem wN5_s5_2 (ad : Nat → Nat) (cy : Nat → ClassId) (σ : zSt) (v : Int32) : (wN5 ad cy σ).set 0 (ad 5, .inr (12, (wCf5 ad σ).set 2 (.int v))) = wN5 ad cy (zsi σ 5 2 v) := rfl
theorem wN5_s5_3 (ad : Nat → Nat) (cy : Nat → ClassId) (σ : zSt) (v : Int32) : (wN5 ad cy σ).set 0 (ad 5, .inr (12, (wCf5 ad σ).set 3 (.int v))) = wN5 ad cy (zsi σ 5 3 v) := rfl
theorem wN5_s5_4 (ad : Nat → Nat) (cy : Nat → ClassId) (σ : zSt) (v : Int32) : (wN5 ad cy σ).set 0 (ad 5, .inr (12, (wCf5 ad σ).set 4 (.int v))) = wN5 ad cy (zsi σ 5 4 v) := rfl
theorem wN5_s5_5 (ad : Nat → Nat) (cy : Nat → ClassId) (σ : zSt) (v : Int32) : (wN5 ad cy σ).set 0 (ad 5, .inr (12, (wCf5 ad σ).set 5 (.int v))) = wN5 ad cy (zsi σ 5 5 v) := rfl
theorem wN5_s5_6 (ad : Nat → Nat) (cy : Nat → ClassId) (σ : zSt) (v : Int64) : (wN5 ad cy σ).set 0 (ad 5, .inr (12, (wCf5 ad σ).set 6 (.long v))) = wN5 ad cy (zsl σ 5 6 v) := rfl
theorem wN5_s5_7 (ad : Nat → Nat) (cy : Nat → ClassId) (σ : zSt) (v : Int64) : (wN5 ad cy σ).set 0 (ad 5, .inr (12, (wCf5 ad σ).set 7 (.long v))) = wN5 ad cy (zsl σ 5 7 v) := rfl
theorem wN5_e32 (ad : Nat → Nat) (cy : Nat → ClassId) (σ : zSt) : (wN5 ad cy σ)[1]? = some (ad 32, .inl (cy 32, 272, .inl (zgi σ 32))) := rfl
theorem wN5_s32 (ad : Nat → Nat) (cy : Nat → ClassId) (σ : zSt) (j : Nat) (v : Int32) : (wN5 ad cy σ).set 1 (ad 32, .inl (cy 32, 272, .inl (upd (zgi σ 32) j v))) = wN5 ad cy (zsi σ 32 j v) := rfl
theorem tN5_t32 (cy : Nat → ClassId) : (tN5 cy)[0]? = some (cy 32, .int) := rfl
theorem wN5_e33 (ad : Nat → Nat) (cy : Nat → ClassId) (σ : zSt) : (wN5 ad cy σ)[2]? = some (ad 33, .inl (cy 33, 272, .inl (zgi σ 33))) := rfl
theorem wN5_s33 (ad : Nat → Nat) (cy : Nat → ClassId) (σ : zSt) (j : Nat) (v : Int32) : (wN5 ad cy σ).set 2 (ad 33, .inl (cy 33, 272, .inl (upd (zgi σ 33) j v))) = wN5 ad cy (zsi σ 33 j v) := rfl
theorem tN5_t33 (cy : Nat → ClassId) : (tN5 cy)[1]? = some (cy 33, .int) := rfl
noncomputable def wN6 (ad : Nat → Nat) (cy : Nat → ClassId) (σ : zSt) : va_W := [(ad 6, .inr (6, wCf6 ad σ)), (ad 34, .inl (cy 34, 12, .inl (zgi σ 34))), (ad 35, .inl (cy 35, 12, .inl (zgi σ 35)))]
noncomputable def tN6 (cy : Nat → ClassId) : List (ClassId × FieldType) := [(cy 34, .int), (cy 35, .int)]
theorem wN6_e6 (ad : Nat → Nat) (cy : Nat → ClassId) (σ : zSt) : (wN6 ad cy σ)[0]? = some (ad 6, .inr (6, wCf6 ad σ)) := rfl
theorem wN6_e34 (ad : Nat → Nat) (cy : Nat → ClassId) (σ : zSt) : (wN6 ad cy σ)[1]? = some (ad 34, .inl (cy 34, 12, .inl (zgi σ 34))) := rfl
theorem wN6_s34 (ad : Nat → Nat) (cy : Nat → ClassId) (σ : zSt) (j : Nat) (v : Int32) : (wN6 ad cy σ).set 1 (ad 34, .inl (cy 34, 12, .inl (upd (zgi σ 34) j v))) = wN6 ad cy (zsi σ 34 j v) := rfl
theorem tN6_t34 (cy : Nat → ClassId) : (tN6 cy)[0]? = some (cy 34, .int) := rfl
theorem wN6_e35 (ad : Nat → Nat) (cy : Nat → ClassId) (σ : zSt) : (wN6 ad cy σ)[2]? = some (ad 35, .inl (cy 35, 12, .inl (zgi σ 35))) := rfl
theorem wN6_s35 (ad : Nat → Nat) (cy : Nat → ClassId) (σ : zSt) (j : Nat) (v : Int32) : (wN6 ad cy σ).set 2 (ad 35, .inl (cy 35, 12, .inl (upd (zgi σ 35) j v))) = wN6 ad cy (zsi σ 35 j v) := rfl
theorem tN6_t35 (cy : Nat → ClassId) : (tN6 cy)[1]? = some (cy 35, .int) := rfl
noncomputable def wN7 (ad : Nat → Nat) (cy : Nat → ClassId) (σ : zSt) : va_W := [(ad 7, .inr (7, wCf7 ad σ)), (ad 36, .inl (cy 36, 29, .inl (zgi σ 36))), (ad 37, .inl (cy 37, 29, .inl (zgi σ 37)))]
noncomputable def tN7 (cy : Nat → ClassId) : List (ClassId × FieldType) := [(cy 36, .int), (cy 37, .int)]
theorem wN7_e7 (ad : Nat → Nat) (cy : Nat → ClassId) (σ : zSt) : (wN7 ad cy σ)[0]? = some (ad 7, .inr (7, wCf7 ad σ)) := rfl
theorem wN7_s7_4 (ad : Nat → Nat) (cy : Nat → ClassId) (σ : zSt) (v : Int32) : (wN7 ad cy σ).set 0 (ad 7, .inr (7, (wCf7 ad σ).set 4 (.int v))) = wN7 ad cy (zsi σ 7 4 v) := rfl
theorem wN7_s7_5 (ad : Nat → Nat) (cy : Nat → ClassId) (σ : zSt) (v : Int32) : (wN7 ad cy σ).set 0 (ad 7, .inr (7, (wCf7 ad σ).set 5 (.int v))) = wN7 ad cy (zsi σ 7 5 v) := rfl
theorem wN7_e36 (ad : Nat → Nat) (cy : Nat → ClassId) (σ : zSt) : (wN7 ad cy σ)[1]? = some (ad 36, .inl (cy 36, 29, .inl (zgi σ 36))) := rfl
theorem wN7_s36 (ad : Nat → Nat) (cy : Nat → ClassId) (σ : zSt) (j : Nat) (v : Int32) : (wN7 ad cy σ).set 1 (ad 36, .inl (cy 36, 29, .inl (upd (zgi σ 36) j v))) = wN7 ad cy (zsi σ 36 j v) := rfl
theorem tN7_t36 (cy : Nat → ClassId) : (tN7 cy)[0]? = some (cy 36, .int) := rfl
theorem wN7_e37 (ad : Nat → Nat) (cy : Nat → ClassId) (σ : zSt) : (wN7 ad cy σ)[2]? = some (ad 37, .inl (cy 37, 29, .inl (zgi σ 37))) := rfl
theorem wN7_s37 (ad : Nat → Nat) (cy : Nat → ClassId) (σ : zSt) (j : Nat) (v : Int32) : (wN7 ad cy σ).set 2 (ad 37, .inl (cy 37, 29, .inl (upd (zgi σ 37) j v))) = wN7 ad cy (zsi σ 37 j v) := rfl
theorem tN7_t37 (cy : Nat → ClassId) : (tN7 cy)[1]? = some (cy 37, .int) := rfl
noncomputable def wN8 (ad : Nat → Nat) (cy : Nat → ClassId) (σ : zSt) : va_W := [(ad 8, .inr (2, wCf8 ad σ)), (ad 11, .inr (8, wCf11 ad σ)), (ad 46, .inl (cy 46, 4096, .inr (.inl (zgl σ 46)))), (ad 47, .inl (cy 47, 4096, .inr (.inl (zgl σ 47)))), (ad 12, .inr (8, wCf12 ad σ)), (ad 48, .inl (cy 48, 4096, .inr (.inl (zgl σ 48)))), (ad 49, .inl (cy 49, 4096, .inr (.inl (zgl σ 49)))), (ad 38, .inl (cy 38, 7, .inr (.inl (zgl σ 38)))), (ad 39, .inl (cy 39, 7, .inr (.inl (zgl σ 39))))]
noncomputable def tN8 (cy : Nat → ClassId) : List (ClassId × FieldType) := [(cy 46, .long), (cy 47, .long), (cy 48, .long), (cy 49, .long), (cy 38, .long), (cy 39, .long)]
theorem wN8_e8 (ad : Nat → Nat) (cy : Nat → ClassId) (σ : zSt) : (wN8 ad cy σ)[0]? = some (ad 8, .inr (2, wCf8 ad σ)) := rfl
theorem wN8_e11 (ad : Nat → Nat) (cy : Nat → ClassId) (σ : zSt) : (wN8 ad cy σ)[1]? = some (ad 11, .inr (8, wCf11 ad σ)) := rfl
theorem wN8_s11_2 (ad : Nat → Nat) (cy : Nat → ClassId) (σ : zSt) (v : Int32) : (wN8 ad cy σ).set 1 (ad 11, .inr (8, (wCf11 ad σ).set 2 (.int v))) = wN8 ad cy (zsi σ 11 2 v) := rfl
theorem wN8_s11_3 (ad : Nat → Nat) (cy : Nat → ClassId) (σ : zSt) (v : Int32) : (wN8 ad cy σ).set 1 (ad 11, .inr (8, (wCf11 ad σ).set 3 (.int v))) = wN8 ad cy (zsi σ 11 3 v) := rfl
theorem wN8_s11_4 (ad : Nat → Nat) (cy : Nat → ClassId) (σ : zSt) (v : Int32) : (wN8 ad cy σ).set 1 (ad 11, .inr (8, (wCf11 ad σ).set 4 (.int v))) = wN8 ad cy (zsi σ 11 4 v) := rfl
theorem wN8_s11_5 (ad : Nat → Nat) (cy : Nat → ClassId) (σ : zSt) (v : Int32) : (wN8 ad cy σ).set 1 (ad 11, .inr (8, (wCf11 ad σ).set 5 (.int v))) = wN8 ad cy (zsi σ 11 5 v) := rfl
theorem wN8_e46 (ad : Nat → Nat) (cy : Nat → ClassId) (σ : zSt) : (wN8 ad cy σ)[2]? = some (ad 46, .inl (cy 46, 4096, .inr (.inl (zgl σ 46)))) := rfl
theorem wN8_s46 (ad : Nat → Nat) (cy : Nat → ClassId) (σ : zSt) (j : Nat) (v : Int64) : (wN8 ad cy σ).set 2 (ad 46, .inl (cy 46, 4096, .inr (.inl (vp_updL (zgl σ 46) j v)))) = wN8 ad cy (zsl σ 46 j v) := rfl
theorem tN8_t46 (cy : Nat → ClassId) : (tN8 cy)[0]? = some (cy 46, .long) := rfl
theorem wN8_e47 (ad : Nat → Nat) (cy : Nat → ClassId) (σ : zSt) : (wN8 ad cy σ)[3]? = some (ad 47, .inl (cy 47, 4096, .inr (.inl (zgl σ 47)))) := rfl
theorem wN8_s47 (ad : Nat → Nat) (cy : Nat → ClassId) (σ : zSt) (j : Nat) (v : Int64) : (wN8 ad cy σ).set 3 (ad 47, .inl (cy 47, 4096, .inr (.inl (vp_updL (zgl σ 47) j v)))) = wN8 ad cy (zsl σ 47 j v) := rfl
theorem tN8_t47 (cy : Nat → ClassId) : (tN8 cy)[1]? = some (cy 47, .long) := rfl
theorem wN8_e12 (ad : Nat → Nat) (cy : Nat → ClassId) (σ : zSt) : (wN8 ad cy σ)[4]? = some (ad 12, .inr (8, wCf12 ad σ)) := rfl
theorem wN8_s12_2 (ad : Nat → Nat) (cy : Nat → ClassId) (σ : zSt) (v : Int32) : (wN8 ad cy σ).set 4 (ad 12, .inr (8, (wCf12 ad σ).set 2 (.int v))) = wN8 ad cy (zsi σ 12 2 v) := rfl
theorem wN8_s12_3 (ad : Nat → Nat) (cy : Nat → ClassId) (σ : zSt) (v : Int32) : (wN8 ad cy σ).set 4 (ad 12, .inr (8, (wCf12 ad σ).set 3 (.int v))) = wN8 ad cy (zsi σ 12 3 v) := rfl
theorem wN8_s12_4 (ad : Nat → Nat) (cy : Nat → ClassId) (σ : zSt) (v : Int32) : (wN8 ad cy σ).set 4 (ad 12, .inr (8, (wCf12 ad σ).set 4 (.int v))) = wN8 ad cy (zsi σ 12 4 v) := rfl
theorem wN8_s12_5 (ad : Nat → Nat) (cy : Nat → ClassId) (σ : zSt) (v : Int32) : (wN8 ad cy σ).set 4 (ad 12, .inr (8, (wCf12 ad σ).set 5 (.int v))) = wN8 ad cy (zsi σ 12 5 v) := rfl
theorem wN8_e48 (ad : Nat → Nat) (cy : Nat → ClassId) (σ : zSt) : (wN8 ad cy σ)[5]? = some (ad 48, .inl (cy 48, 4096, .inr (.inl (zgl σ 48)))) := rfl
theorem wN8_s48 (ad : Nat → Nat) (cy : Nat → ClassId) (σ : zSt) (j : Nat) (v : Int64) : (wN8 ad cy σ).set 5 (ad 48, .inl (cy 48, 4096, .inr (.inl (vp_updL (zgl σ 48) j v)))) = wN8 ad cy (zsl σ 48 j v) := rfl
theorem tN8_t48 (cy : Nat → ClassId) : (tN8 cy)[2]? = some (cy 48, .long) := rfl
theorem wN8_e49 (ad : Nat → Nat) (cy : Nat → ClassId) (σ : zSt) : (wN8 ad cy σ)[6]? = some (ad 49, .inl (cy 49, 4096, .inr (.inl (zgl σ 49)))) := rfl
theorem wN8_s49 (ad : Nat → Nat) (cy : Nat → ClassId) (σ : zSt) (j : Nat) (v : Int64) : (wN8 ad cy σ).set 6 (ad 49, .inl (cy 49, 4096, .inr (.inl (vp_updL (zgl σ 49) j v)))) = wN8 ad cy (zsl σ 49 j v) := rfl
theorem tN8_t49 (cy : Nat → ClassId) : (tN8 cy)[3]? = some (cy 49, .long) := rfl
theorem wN8_e38 (ad : Nat → Nat) (cy : Nat → ClassId) (σ : zSt) : (wN8 ad cy σ)[7]? = some (ad 38, .inl (cy 38, 7, .inr (.inl (zgl σ 38)))) := rfl
theorem wN8_s38 (ad : Nat → Nat) (cy : Nat → ClassId) (σ : zSt) (j : Nat) (v : Int64) : (wN8 ad cy σ).set 7 (ad 38, .inl (cy 38, 7, .inr (.inl (vp_updL (zgl σ 38) j v)))) = wN8 ad cy (zsl σ 38 j v) := rfl
theorem tN8_t38 (cy : Nat → ClassId) : (tN8 cy)[4]? = some (cy 38, .long) := rfl
theorem wN8_e39 (ad : Nat → Nat) (cy : Nat → ClassId) (σ : zSt) : (wN8 ad cy σ)[8]? = some (ad 39, .inl (cy 39, 7, .inr (.inl (zgl σ 39)))) := rfl
theorem wN8_s39 (ad : Nat → Nat) (cy : Nat → ClassId) (σ : zSt) (j : Nat) (v : Int64) : (wN8 ad cy σ).set 8 (ad 39, .inl (cy 39, 7, .inr (.inl (vp_updL (zgl σ 39) j v)))) = wN8 ad cy (zsl σ 39 j v) := rfl
theorem tN8_t39 (cy : Nat → ClassId) : (tN8 cy)[5]? = some (cy 39, .long) := rfl
noncomputable def wN9 (ad : Nat → Nat) (cy : Nat → ClassId) (σ : zSt) : va_W := [(ad 9, .inr (3, wCf9 ad σ)), (ad 40, .inl (cy 40, 9, .inl (zgi σ 40))), (ad 41, .inl (cy 41, 9, .inl (zgi σ 41))), (ad 42, .inl (cy 42, 770, .inl (zgi σ 42))), (ad 43, .inl (cy 43, 770, .inl (zgi σ 43))), (ad 44, .inl (cy 44, 32, .inl (zgi σ 44)))]
noncomputable def tN9 (cy : Nat → ClassId) : List (ClassId × FieldType) := [(cy 40, .int), (cy 41, .int), (cy 42, .int), (cy 43, .int), (cy 44, .int)]
theorem wN9_e9 (ad : Nat → Nat) (cy : Nat → ClassId) (σ : zSt) : (wN9 ad cy σ)[0]? = some (ad 9, .inr (3, wCf9 ad σ)) := rfl
theorem wN9_s9_5 (ad : Nat → Nat) (cy : Nat → ClassId) (σ : zSt) (v : Int32) : (wN9 ad cy σ).set 0 (ad 9, .inr (3, (wCf9 ad σ).set 5 (.int v))) = wN9 ad cy (zsi σ 9 5 v) := rfl
theorem wN9_e40 (ad : Nat → Nat) (cy : Nat → ClassId) (σ : zSt) : (wN9 ad cy σ)[1]? = some (ad 40, .inl (cy 40, 9, .inl (zgi σ 40))) := rfl
theorem wN9_s40 (ad : Nat → Nat) (cy : Nat → ClassId) (σ : zSt) (j : Nat) (v : Int32) : (wN9 ad cy σ).set 1 (ad 40, .inl (cy 40, 9, .inl (upd (zgi σ 40) j v))) = wN9 ad cy (zsi σ 40 j v) := rfl
theorem tN9_t40 (cy : Nat → ClassId) : (tN9 cy)[0]? = some (cy 40, .int) := rfl
theorem wN9_e41 (ad : Nat → Nat) (cy : Nat → ClassId) (σ : zSt) : (wN9 ad cy σ)[2]? = some (ad 41, .inl (cy 41, 9, .inl (zgi σ 41))) := rfl
theorem wN9_s41 (ad : Nat → Nat) (cy : Nat → ClassId) (σ : zSt) (j : Nat) (v : Int32) : (wN9 ad cy σ).set 2 (ad 41, .inl (cy 41, 9, .inl (upd (zgi σ 41) j v))) = wN9 ad cy (zsi σ 41 j v) := rfl
theorem tN9_t41 (cy : Nat → ClassId) : (tN9 cy)[1]? = some (cy 41, .int) := rfl
theorem wN9_e42 (ad : Nat → Nat) (cy : Nat → ClassId) (σ : zSt) : (wN9 ad cy σ)[3]? = some (ad 42, .inl (cy 42, 770, .inl (zgi σ 42))) := rfl
theorem wN9_s42 (ad : Nat → Nat) (cy : Nat → ClassId) (σ : zSt) (j : Nat) (v : Int32) : (wN9 ad cy σ).set 3 (ad 42, .inl (cy 42, 770, .inl (upd (zgi σ 42) j v))) = wN9 ad cy (zsi σ 42 j v) := rfl
theorem tN9_t42 (cy : Nat → ClassId) : (tN9 cy)[2]? = some (cy 42, .int) := rfl
theorem wN9_e43 (ad : Nat → Nat) (cy : Nat → ClassId) (σ : zSt) : (wN9 ad cy σ)[4]? = some (ad 43, .inl (cy 43, 770, .inl (zgi σ 43))) := rfl
theorem wN9_s43 (ad : Nat → Nat) (cy : Nat → ClassId) (σ : zSt) (j : Nat) (v : Int32) : (wN9 ad cy σ).set 4 (ad 43, .inl (cy 43, 770, .inl (upd (zgi σ 43) j v))) = wN9 ad cy (zsi σ 43 j v) := rfl
theorem tN9_t43 (cy : Nat → ClassId) : (tN9 cy)[3]? = some (cy 43, .int) := rfl
theorem wN9_e44 (ad : Nat → Nat) (cy : Nat → ClassId) (σ : zSt) : (wN9 ad cy σ)[5]? = some (ad 44, .inl (cy 44, 32, .inl (zgi σ 44))) := rfl
theorem wN9_s44 (ad : Nat → Nat) (cy : Nat → ClassId) (σ : zSt) (j : Nat) (v : Int32) : (wN9 ad cy σ).set 5 (ad 44, .inl (cy 44, 32, .inl (upd (zgi σ 44) j v))) = wN9 ad cy (zsi σ 44 j v) := rfl
theorem tN9_t44 (cy : Nat → ClassId) : (tN9 cy)[4]? = some (cy 44, .int) := rfl
noncomputable def wN10 (ad : Nat → Nat) (cy : Nat → ClassId) (σ : zSt) : va_W := [(ad 10, .inr (10, wCf10 ad σ)), (ad 45, .inl (cy 45, 32, .inl (zgi σ 45)))]
noncomputable def tN10 (cy : Nat → ClassId) : List (ClassId × FieldType) := [(cy 45, .int)]
theorem wN10_e10 (ad : Nat → Nat) (cy : Nat → ClassId) (σ : zSt) : (wN10 ad cy σ)[0]? = some (ad 10, .inr (10, wCf10 ad σ)) := rfl
theorem wN10_s10_2 (ad : Nat → Nat) (cy : Nat → ClassId) (σ : zSt) (v : Int32) : (wN10 ad cy σ).set 0 (ad 10, .inr (10, (wCf10 ad σ).set 2 (.int v))) = wN10 ad cy (zsi σ 10 2 v) := rfl
theorem wN10_s10_3 (ad : Nat → Nat) (cy : Nat → ClassId) (σ : zSt) (v : Int32) : (wN10 ad cy σ).set 0 (ad 10, .inr (10, (wCf10 ad σ).set 3 (.int v))) = wN10 ad cy (zsi σ 10 3 v) := rfl
theorem wN10_s10_4 (ad : Nat → Nat) (cy : Nat → ClassId) (σ : zSt) (v : Int32) : (wN10 ad cy σ).set 0 (ad 10, .inr (10, (wCf10 ad σ).set 4 (.int v))) = wN10 ad cy (zsi σ 10 4 v) := rfl
theorem wN10_s10_5 (ad : Nat → Nat) (cy : Nat → ClassId) (σ : zSt) (v : Int32) : (wN10 ad cy σ).set 0 (ad 10, .inr (10, (wCf10 ad σ).set 5 (.int v))) = wN10 ad cy (zsi σ 10 5 v) := rfl
theorem wN10_s10_6 (ad : Nat → Nat) (cy : Nat → ClassId) (σ : zSt) (v : Int32) : (wN10 ad cy σ).set 0 (ad 10, .inr (10, (wCf10 ad σ).set 6 (.int v))) = wN10 ad cy (zsi σ 10 6 v) := rfl
theorem wN10_s10_7 (ad : Nat → Nat) (cy : Nat → ClassId) (σ : zSt) (v : Int32) : (wN10 ad cy σ).set 0 (ad 10, .inr (10, (wCf10 ad σ).set 7 (.int v))) = wN10 ad cy (zsi σ 10 7 v) := rfl
theorem wN10_s10_8 (ad : Nat → Nat) (cy : Nat → ClassId) (σ : zSt) (v : Int32) : (wN10 ad cy σ).set 0 (ad 10, .inr (10, (wCf10 ad σ).set 8 (.int v))) = wN10 ad cy (zsi σ 10 8 v) := rfl
theorem wN10_s10_9 (ad : Nat → Nat) (cy : Nat → ClassId) (σ : zSt) (v : Int32) : (wN10 ad cy σ).set 0 (ad 10, .inr (10, (wCf10 ad σ).set 9 (.int v))) = wN10 ad cy (zsi σ 10 9 v) := rfl
theorem wN10_s10_10 (ad : Nat → Nat) (cy : Nat → ClassId) (σ : zSt) (v : Int32) : (wN10 ad cy σ).set 0 (ad 10, .inr (10, (wCf10 ad σ).set 10 (.int v))) = wN10 ad cy (zsi σ 10 10 v) := rfl
theorem wN10_e45 (ad : Nat → Nat) (cy : Nat → ClassId) (σ : zSt) : (wN10 ad cy σ)[1]? = some (ad 45, .inl (cy 45, 32, .inl (zgi σ 45))) := rfl
theorem wN10_s45 (ad : Nat → Nat) (cy : Nat → ClassId) (σ : zSt) (j : Nat) (v : Int32) : (wN10 ad cy σ).set 1 (ad 45, .inl (cy 45, 32, .inl (upd (zgi σ 45) j v))) = wN10 ad cy (zsi σ 45 j v) := rfl
theorem tN10_t45 (cy : Nat → ClassId) : (tN10 cy)[0]? = some (cy 45, .int) := rfl
noncomputable def wN11 (ad : Nat → Nat) (cy : Nat → ClassId) (σ : zSt) : va_W := [(ad 11, .inr (8, wCf11 ad σ)), (ad 46, .inl (cy 46, 4096, .inr (.inl (zgl σ 46)))), (ad 47, .inl (cy 47, 4096, .inr (.inl (zgl σ 47))))]
noncomputable def tN11 (cy : Nat → ClassId) : List (ClassId × FieldType) := [(cy 46, .long), (cy 47, .long)]
theorem wN11_e11 (ad : Nat → Nat) (cy : Nat → ClassId) (σ : zSt) : (wN11 ad cy σ)[0]? = some (ad 11, .inr (8, wCf11 ad σ)) := rfl
theorem wN11_s11_2 (ad : Nat → Nat) (cy : Nat → ClassId) (σ : zSt) (v : Int32) : (wN11 ad cy σ).set 0 (ad 11, .inr (8, (wCf11 ad σ).set 2 (.int v))) = wN11 ad cy (zsi σ 11 2 v) := rfl
theorem wN11_s11_3 (ad : Nat → Nat) (cy : Nat → ClassId) (σ : zSt) (v : Int32) : (wN11 ad cy σ).set 0 (ad 11, .inr (8, (wCf11 ad σ).set 3 (.int v))) = wN11 ad cy (zsi σ 11 3 v) := rfl
theorem wN11_s11_4 (ad : Nat → Nat) (cy : Nat → ClassId) (σ : zSt) (v : Int32) : (wN11 ad cy σ).set 0 (ad 11, .inr (8, (wCf11 ad σ).set 4 (.int v))) = wN11 ad cy (zsi σ 11 4 v) := rfl
theorem wN11_s11_5 (ad : Nat → Nat) (cy : Nat → ClassId) (σ : zSt) (v : Int32) : (wN11 ad cy σ).set 0 (ad 11, .inr (8, (wCf11 ad σ).set 5 (.int v))) = wN11 ad cy (zsi σ 11 5 v) := rfl
theorem wN11_e46 (ad : Nat → Nat) (cy : Nat → ClassId) (σ : zSt) : (wN11 ad cy σ)[1]? = some (ad 46, .inl (cy 46, 4096, .inr (.inl (zgl σ 46)))) := rfl
theorem wN11_s46 (ad : Nat → Nat) (cy : Nat → ClassId) (σ : zSt) (j : Nat) (v : Int64) : (wN11 ad cy σ).set 1 (ad 46, .inl (cy 46, 4096, .inr (.inl (vp_updL (zgl σ 46) j v)))) = wN11 ad cy (zsl σ 46 j v) := rfl
theorem tN11_t46 (cy : Nat → ClassId) : (tN11 cy)[0]? = some (cy 46, .long) := rfl
theorem wN11_e47 (ad : Nat → Nat) (cy : Nat → ClassId) (σ : zSt) : (wN11 ad cy σ)[2]? = some (ad 47, .inl (cy 47, 4096, .inr (.inl (zgl σ 47)))) := rfl
theorem wN11_s47 (ad : Nat → Nat) (cy : Nat → ClassId) (σ : zSt) (j : Nat) (v : Int64) : (wN11 ad cy σ).set 2 (ad 47, .inl (cy 47, 4096, .inr (.inl (vp_updL (zgl σ 47) j v)))) = wN11 ad cy (zsl σ 47 j v) := rfl
theorem tN11_t47 (cy : Nat → ClassId) : (tN11 cy)[1]? = some (cy 47, .long) := rfl
noncomputable def wN12 (ad : Nat → Nat) (cy : Nat → ClassId) (σ : zSt) : va_W := [(ad 12, .inr (8, wCf12 ad σ)), (ad 48, .inl (cy 48, 4096, .inr (.inl (zgl σ 48)))), (ad 49, .inl (cy 49, 4096, .inr (.inl (zgl σ 49))))]
noncomputable def tN12 (cy : Nat → ClassId) : List (ClassId × FieldType) := [(cy 48, .long), (cy 49, .long)]
theorem wN12_e12 (ad : Nat → Nat) (cy : Nat → ClassId) (σ : zSt) : (wN12 ad cy σ)[0]? = some (ad 12, .inr (8, wCf12 ad σ)) := rfl
theorem wN12_s12_2 (ad : Nat → Nat) (cy : Nat → ClassId) (σ : zSt) (v : Int32) : (wN12 ad cy σ).set 0 (ad 12, .inr (8, (wCf12 ad σ).set 2 (.int v))) = wN12 ad cy (zsi σ 12 2 v) := rfl
theorem wN12_s12_3 (ad : Nat → Nat) (cy : Nat → ClassId) (σ : zSt) (v : Int32) : (wN12 ad cy σ).set 0 (ad 12, .inr (8, (wCf12 ad σ).set 3 (.int v))) = wN12 ad cy (zsi σ 12 3 v) := rfl
theorem wN12_s12_4 (ad : Nat → Nat) (cy : Nat → ClassId) (σ : zSt) (v : Int32) : (wN12 ad cy σ).set 0 (ad 12, .inr (8, (wCf12 ad σ).set 4 (.int v))) = wN12 ad cy (zsi σ 12 4 v) := rfl
theorem wN12_s12_5 (ad : Nat → Nat) (cy : Nat → ClassId) (σ : zSt) (v : Int32) : (wN12 ad cy σ).set 0 (ad 12, .inr (8, (wCf12 ad σ).set 5 (.int v))) = wN12 ad cy (zsi σ 12 5 v) := rfl
theorem wN12_e48 (ad : Nat → Nat) (cy : Nat → ClassId) (σ : zSt) : (wN12 ad cy σ)[1]? = some (ad 48, .inl (cy 48, 4096, .inr (.inl (zgl σ 48)))) := rfl
theorem wN12_s48 (ad : Nat → Nat) (cy : Nat → ClassId) (σ : zSt) (j : Nat) (v : Int64) : (wN12 ad cy σ).set 1 (ad 48, .inl (cy 48, 4096, .inr (.inl (vp_updL (zgl σ 48) j v)))) = wN12 ad cy (zsl σ 48 j v) := rfl
theorem tN12_t48 (cy : Nat → ClassId) : (tN12 cy)[0]? = some (cy 48, .long) := rfl
theorem wN12_e49 (ad : Nat → Nat) (cy : Nat → ClassId) (σ : zSt) : (wN12 ad cy σ)[2]? = some (ad 49, .inl (cy 49, 4096, .inr (.inl (zgl σ 49)))) := rfl
theorem wN12_s49 (ad : Nat → Nat) (cy : Nat → ClassId) (σ : zSt) (j : Nat) (v : Int64) : (wN12 ad cy σ).set 2 (ad 49, .inl (cy 49, 4096, .inr (.inl (vp_updL (zgl σ 49) j v)))) = wN12 ad cy (zsl σ 49 j v) := rfl
theorem tN12_t49 (cy : Nat → ClassId) : (tN12 cy)[1]? = some (cy 49, .long) := rfl
noncomputable def rmJ7_fill_53178_k30_w4 : Room := { frames := 0, cells := 0, slots := 0, locals := 0 }
set_option maxRecDepth 20000 in
set_option maxHeartbeats 4000000 in
theorem bJ7_fill_53178_k30_w4_5_body {st : Nat → Nat} {p : Program} {l : Launch} {e : Env} {s : State} {m : MethodId} {args : Array Value} {below : List Frame} {meth : Method} {c : Code} {D : va_G} {A : Nat → Prop} {ad : Nat → Nat} {cy : Nat → ClassId} (hC : zC p m c cJ7_fill_53178 4 s args wzJ7_fill_53178 RJ7 meth none) {k5 : zSt → Int32 → Int32 → Int32 → Option (zSt)} {res : zSt} (hk5 : ∀ (H : Heap) (locs : List Loc) (σ : zSt) (ls : Array Slot) (x1 : Int32) (x2 : Int32) (x3 : Int32), zI st D (tN4 cy) (wN4 ad cy σ) A s H locs → lv_has ls 4 [(0, .ref (ad 30)), (1, .int x1), (2, .int x2), (3, .int x3)] → k5 σ x1 x2 x3 = some res → W p l e rmJ7_fill_53178_k30_w4 s m args below meth c H locs 0 0 (zQu below args s D (tN4 cy) (wN4 ad cy) A res) (F0 m 5 ls [])) {H : Heap} {locs : List Loc} {σ : zSt} {ls : Array Slot} {x1 : Int32} {x2 : Int32} {x3 : Int32} (hI : zI st D (tN4 cy) (wN4 ad cy σ) A s H locs) (hl : lv_has ls 4 [(0, .ref (ad 30)), (1, .int x1), (2, .int x2), (3, .int x3)]) (hf : fJ7_fill_53178_k30_5_body k5 σ x1 x2 x3 = some res) : W p l e rmJ7_fill_53178_k30_w4 s m args below meth c H locs 0 0 (zQu below args s D (tN4 cy) (wN4 ad cy) A res) (F0 m 5 ls []) := by
  have hx := hC.1
  have hb := hC.2.1
  unfold fJ7_fill_53178_k30_5_body at hf
  refine lv_iload_n hx hb dJ7_fill_53178_5 rfl (lv_at hl 2 rfl) ?_
  refine lv_iload_n hx hb dJ7_fill_53178_6 rfl (lv_at hl 3 rfl) ?_
  refine lv_icmp_ge (tgt := 20) hx hb dJ7_fill_53178_7 (by decide) (fun q => ?_) (fun q => ?_)
  · replace hf := zif_t q hf
    exact z_return hC hI hf dJ7_fill_53178_20
  replace hf := zif_f q hf
  refine lv_aload_n hx hb dJ7_fill_53178_10 rfl (lv_at hl 0 rfl) ?_
  refine lv_iload_n hx hb dJ7_fill_53178_11 rfl (lv_at hl 2 rfl) ?_
  refine lv_iload_n hx hb dJ7_fill_53178_12 rfl (lv_at hl 1 rfl) ?_
  obtain ⟨q, hf⟩ := zck_use hf
  obtain ⟨σ1, eσ1⟩ : ∃ z, z = zsi σ 30 (x2.toNatClampNeg) x1 := ⟨_, rfl⟩
  replace hf := zbv_use eσ1 hf
  refine z_iast hC hI 1 0 (wN4_e30 ad cy σ) (tN4_t30 cy) q ((wN4_s30 ad cy σ _ _).trans (congrArg (wN4 ad cy) eσ1.symm)) dJ7_fill_53178_13 (fun H locs hI => ?_)
  obtain ⟨v2, ev2⟩ : ∃ z : Int32, z = x2 + 1 := ⟨_, rfl⟩
  replace hf := zbv_use ev2 hf
  refine lv_iinc (v := v2) (lv' := [(2, .int v2), (0, .ref (ad 30)), (1, .int x1), (3, .int x3)]) hx hb dJ7_fill_53178_14 hl (k := 2) rfl (by rw [ev2]; rfl) (by decide) rfl (fun ls hl => ?_)
  refine lv_goto (tgt := 5) hx hb dJ7_fill_53178_17 (by decide) ?_
  exact hk5 _ _ _ _ _ _ _ hI (lv_sub hl [1, 2, 0, 3] rfl) hf
theorem blJ7_fill_53178_k30_w4_5 {st : Nat → Nat} {p : Program} {l : Launch} {e : Env} {s : State} {m : MethodId} {args : Array Value} {below : List Frame} {meth : Method} {c : Code} {D : va_G} {A : Nat → Prop} {ad : Nat → Nat} {cy : Nat → ClassId} (hC : zC p m c cJ7_fill_53178 4 s args wzJ7_fill_53178 RJ7 meth none)  {res : zSt} : ∀ (n : Nat) (H : Heap) (locs : List Loc) (σ : zSt) (ls : Array Slot) (x1 : Int32) (x2 : Int32) (x3 : Int32), zI st D (tN4 cy) (wN4 ad cy σ) A s H locs → lv_has ls 4 [(0, .ref (ad 30)), (1, .int x1), (2, .int x2), (3, .int x3)] → fJ7_fill_53178_k30_5  n σ x1 x2 x3 = some res → W p l e rmJ7_fill_53178_k30_w4 s m args below meth c H locs 0 0 (zQu below args s D (tN4 cy) (wN4 ad cy) A res) (F0 m 5 ls []) := by
  intro n
  induction n with
  | zero => intro H locs σ ls x1 x2 x3 hI hl hf; cases hf
  | succ n ih => intro H locs σ ls x1 x2 x3 hI hl hf; exact bJ7_fill_53178_k30_w4_5_body hC ih hI hl hf
set_option maxRecDepth 20000 in
set_option maxHeartbeats 4000000 in
theorem bJ7_fill_53178_k30_w4 {st : Nat → Nat} {p : Program} {l : Launch} {e : Env} {s : State} {m : MethodId} {args : Array Value} {below : List Frame} {meth : Method} {c : Code} {D : va_G} {A : Nat → Prop} {ad : Nat → Nat} {cy : Nat → ClassId} (hC : zC p m c cJ7_fill_53178 4 s args wzJ7_fill_53178 RJ7 meth none)  {res : zSt} {H : Heap} {locs : List Loc} {σ : zSt} {ls : Array Slot} {x1 : Int32} (hI : zI st D (tN4 cy) (wN4 ad cy σ) A s H locs) (hl : lv_has ls 4 [(0, .ref (ad 30)), (1, .int x1)]) (hf : fJ7_fill_53178_k30  σ x1 = some res) : W p l e rmJ7_fill_53178_k30_w4 s m args below meth c H locs 0 0 (zQu below args s D (tN4 cy) (wN4 ad cy) A res) (F0 m 0 ls []) := by
  have hx := hC.1
  have hb := hC.2.1
  unfold fJ7_fill_53178_k30 at hf
  refine lv_iconst (v := 0) hx hb dJ7_fill_53178_0 (by decide) ?_
  refine lv_istore_n (lv' := [(2, .int 0), (0, .ref (ad 30)), (1, .int x1)]) hx hb dJ7_fill_53178_1 rfl hl (by decide) rfl (fun ls hl => ?_)
  refine lv_aload_n hx hb dJ7_fill_53178_2 rfl (lv_at hl 1 rfl) ?_
  refine z_alen (v := 19) hC hI 1 0 (wN4_e30 ad cy σ) (tN4_t30 cy) rfl dJ7_fill_53178_3 ?_
  refine lv_istore_n (lv' := [(3, .int 19), (2, .int 0), (0, .ref (ad 30)), (1, .int x1)]) hx hb dJ7_fill_53178_4 rfl hl (by decide) rfl (fun ls hl => ?_)
  exact blJ7_fill_53178_k30_w4_5 hC  zfuel _ _ _ _ _ _ _ hI (lv_sub hl [2, 3, 1, 0] rfl) hf
set_option maxRecDepth 20000 in
theorem cJ7_fill_53178_k30_w4_met (st : Nat → Nat) (l : Launch) (D : va_G) (ad : Nat → Nat) (cy : Nat → ClassId) (σ : zSt) (x1 : Int32) (res : zSt) (hf : fJ7_fill_53178_k30 σ x1 = some res) (sz : Nat) : zMu st l yJ7_fill_53178 wzJ7_fill_53178 rmJ7_fill_53178_k30_w4 [.ref (ad 30), .int x1] D (tN4 cy) (wN4 ad cy) sz σ res :=
  zMu.of (cc := cJ7_fill_53178) (maxL := 4) (ret := none) (by decide) rfl (Nat.le_of_ble_eq_true rfl) (fun p e s m args below meth c hC A hI ls hl => bJ7_fill_53178_k30_w4 hC hI hl hf)
theorem hdJ7_fill_53178_k30_w4 : yJ7_fill_53178.cls ≠ "java/lang/invoke/MethodHandle" ∧ yJ7_fill_53178.cls ≠ "java/lang/invoke/VarHandle" ∧ (parseMethodDescriptor yJ7_fill_53178.desc).map (fun d => d.parameters.length) = some 2 := by decide +kernel
noncomputable def rmJ7_rangeCheck_23922_w4 : Room := { frames := 0, cells := 0, slots := 0, locals := 0 }
set_option maxRecDepth 20000 in
set_option maxHeartbeats 4000000 in
theorem bJ7_rangeCheck_23922_w4 {st : Nat → Nat} {p : Program} {l : Launch} {e : Env} {s : State} {m : MethodId} {args : Array Value} {below : List Frame} {meth : Method} {c : Code} {D : va_G} {A : Nat → Prop} {ad : Nat → Nat} {cy : Nat → ClassId} (hC : zC p m c cJ7_rangeCheck_23922 3 s args wzJ7_rangeCheck_23922 RJ7 meth none)  {res : zSt} {H : Heap} {locs : List Loc} {σ : zSt} {ls : Array Slot} {x0 : Int32} {x1 : Int32} {x2 : Int32} (hI : zI st D (tN4 cy) (wN4 ad cy σ) A s H locs) (hl : lv_has ls 3 [(0, .int x0), (1, .int x1), (2, .int x2)]) (hf : fJ7_rangeCheck_23922  σ x0 x1 x2 = some res) : W p l e rmJ7_rangeCheck_23922_w4 s m args below meth c H locs 0 0 (zQu below args s D (tN4 cy) (wN4 ad cy) A res) (F0 m 0 ls []) := by
  have hx := hC.1
  have hb := hC.2.1
  unfold fJ7_rangeCheck_23922 at hf
  refine lv_iload_n hx hb dJ7_rangeCheck_23922_0 rfl (lv_at hl 1 rfl) ?_
  refine lv_iload_n hx hb dJ7_rangeCheck_23922_1 rfl (lv_at hl 2 rfl) ?_
  refine lv_icmp_le (tgt := 46) hx hb dJ7_rangeCheck_23922_2 (by decide) (fun q => ?_) (fun q => ?_)
  · replace hf := zif_t q hf
    refine lv_iload_n hx hb dJ7_rangeCheck_23922_46 rfl (lv_at hl 1 rfl) ?_
    refine lv_if_ge (tgt := 59) hx hb dJ7_rangeCheck_23922_47 (by decide) (fun q => ?_) (fun q => ?_)
    · replace hf := zif_t q hf
      refine lv_iload_n hx hb dJ7_rangeCheck_23922_59 rfl (lv_at hl 2 rfl) ?_
      refine lv_iload_n hx hb dJ7_rangeCheck_23922_60 rfl (lv_at hl 0 rfl) ?_
      refine lv_icmp_le (tgt := 73) hx hb dJ7_rangeCheck_23922_61 (by decide) (fun q => ?_) (fun q => ?_)
      · replace hf := zif_t q hf
        exact z_return hC hI hf dJ7_rangeCheck_23922_73
      replace hf := zif_f q hf
      cases hf
    replace hf := zif_f q hf
    cases hf
  replace hf := zif_f q hf
  cases hf
set_option maxRecDepth 20000 in
theorem cJ7_rangeCheck_23922_w4_met (st : Nat → Nat) (l : Launch) (D : va_G) (ad : Nat → Nat) (cy : Nat → ClassId) (σ : zSt) (x0 : Int32) (x1 : Int32) (x2 : Int32) (res : zSt) (hf : fJ7_rangeCheck_23922 σ x0 x1 x2 = some res) (sz : Nat) : zMu st l yJ7_rangeCheck_23922 wzJ7_rangeCheck_23922 rmJ7_rangeCheck_23922_w4 [.int x0, .int x1, .int x2] D (tN4 cy) (wN4 ad cy) sz σ res :=
  zMu.of (cc := cJ7_rangeCheck_23922) (maxL := 3) (ret := none) (by decide) rfl (Nat.le_of_ble_eq_true rfl) (fun p e s m args below meth c hC A hI ls hl => bJ7_rangeCheck_23922_w4 hC hI hl hf)
theorem hdJ7_rangeCheck_23922_w4 : yJ7_rangeCheck_23922.cls ≠ "java/lang/invoke/MethodHandle" ∧ yJ7_rangeCheck_23922.cls ≠ "java/lang/invoke/VarHandle" ∧ (parseMethodDescriptor yJ7_rangeCheck_23922.desc).map (fun d => d.parameters.length) = some 3 := by decide +kernel
noncomputable def rmJ7_fill_fda19_k30_w4 : Room := { frames := 1, cells := 0, slots := 0, locals := 22 }
set_option maxRecDepth 20000 in
set_option maxHeartbeats 4000000 in
theorem bJ7_fill_fda19_k30_w4_10_body {st : Nat → Nat} {p : Program} {l : Launch} {e : Env} {s : State} {m : MethodId} {args : Array Value} {below : List Frame} {meth : Method} {c : Code} {D : va_G} {A : Nat → Prop} {ad : Nat → Nat} {cy : Nat → ClassId} (hC : zC p m c cJ7_fill_fda19 5 s args wzJ7_fill_fda19 RJ7 meth none) {k10 : zSt → Int32 → Int32 → Int32 → Option (zSt)} {res : zSt} (hk10 : ∀ (H : Heap) (locs : List Loc) (σ : zSt) (ls : Array Slot) (x2 : Int32) (x3 : Int32) (x4 : Int32), zI st D (tN4 cy) (wN4 ad cy σ) A s H locs → lv_has ls 5 [(0, .ref (ad 30)), (2, .int x2), (3, .int x3), (4, .int x4)] → k10 σ x2 x3 x4 = some res → W p l e rmJ7_fill_fda19_k30_w4 s m args below meth c H locs 0 0 (zQu below args s D (tN4 cy) (wN4 ad cy) A res) (F0 m 10 ls [])) {H : Heap} {locs : List Loc} {σ : zSt} {ls : Array Slot} {x2 : Int32} {x3 : Int32} {x4 : Int32} (hI : zI st D (tN4 cy) (wN4 ad cy σ) A s H locs) (hl : lv_has ls 5 [(0, .ref (ad 30)), (2, .int x2), (3, .int x3), (4, .int x4)]) (hf : fJ7_fill_fda19_k30_10_body k10 σ x2 x3 x4 = some res) : W p l e rmJ7_fill_fda19_k30_w4 s m args below meth c H locs 0 0 (zQu below args s D (tN4 cy) (wN4 ad cy) A res) (F0 m 10 ls []) := by
  have hx := hC.1
  have hb := hC.2.1
  unfold fJ7_fill_fda19_k30_10_body at hf
  refine lv_iload hx hb dJ7_fill_fda19_10 (lv_at hl 3 rfl) ?_
  refine lv_iload_n hx hb dJ7_fill_fda19_12 rfl (lv_at hl 1 rfl) ?_
  refine lv_icmp_ge (tgt := 27) hx hb dJ7_fill_fda19_13 (by decide) (fun q => ?_) (fun q => ?_)
  · replace hf := zif_t q hf
    exact z_return hC hI hf dJ7_fill_fda19_27
  replace hf := zif_f q hf
  refine lv_aload_n hx hb dJ7_fill_fda19_16 rfl (lv_at hl 0 rfl) ?_
  refine lv_iload hx hb dJ7_fill_fda19_17 (lv_at hl 3 rfl) ?_
  refine lv_iload_n hx hb dJ7_fill_fda19_19 rfl (lv_at hl 2 rfl) ?_
  obtain ⟨q, hf⟩ := zck_use hf
  obtain ⟨σ1, eσ1⟩ : ∃ z, z = zsi σ 30 (x4.toNatClampNeg) x3 := ⟨_, rfl⟩
  replace hf := zbv_use eσ1 hf
  refine z_iast hC hI 1 0 (wN4_e30 ad cy σ) (tN4_t30 cy) q ((wN4_s30 ad cy σ _ _).trans (congrArg (wN4 ad cy) eσ1.symm)) dJ7_fill_fda19_20 (fun H locs hI => ?_)
  obtain ⟨v2, ev2⟩ : ∃ z : Int32, z = x4 + 1 := ⟨_, rfl⟩
  replace hf := zbv_use ev2 hf
  refine lv_iinc (v := v2) (lv' := [(4, .int v2), (0, .ref (ad 30)), (2, .int x2), (3, .int x3)]) hx hb dJ7_fill_fda19_21 hl (k := 3) rfl (by rw [ev2]; rfl) (by decide) rfl (fun ls hl => ?_)
  refine lv_goto (tgt := 10) hx hb dJ7_fill_fda19_24 (by decide) ?_
  exact hk10 _ _ _ _ _ _ _ hI (lv_sub hl [1, 2, 3, 0] rfl) hf
theorem blJ7_fill_fda19_k30_w4_10 {st : Nat → Nat} {p : Program} {l : Launch} {e : Env} {s : State} {m : MethodId} {args : Array Value} {below : List Frame} {meth : Method} {c : Code} {D : va_G} {A : Nat → Prop} {ad : Nat → Nat} {cy : Nat → ClassId} (hC : zC p m c cJ7_fill_fda19 5 s args wzJ7_fill_fda19 RJ7 meth none)  {res : zSt} : ∀ (n : Nat) (H : Heap) (locs : List Loc) (σ : zSt) (ls : Array Slot) (x2 : Int32) (x3 : Int32) (x4 : Int32), zI st D (tN4 cy) (wN4 ad cy σ) A s H locs → lv_has ls 5 [(0, .ref (ad 30)), (2, .int x2), (3, .int x3), (4, .int x4)] → fJ7_fill_fda19_k30_10  n σ x2 x3 x4 = some res → W p l e rmJ7_fill_fda19_k30_w4 s m args below meth c H locs 0 0 (zQu below args s D (tN4 cy) (wN4 ad cy) A res) (F0 m 10 ls []) := by
  intro n
  induction n with
  | zero => intro H locs σ ls x2 x3 x4 hI hl hf; cases hf
  | succ n ih => intro H locs σ ls x2 x3 x4 hI hl hf; exact bJ7_fill_fda19_k30_w4_10_body hC ih hI hl hf
set_option maxRecDepth 20000 in
set_option maxHeartbeats 4000000 in
theorem bJ7_fill_fda19_k30_w4 {st : Nat → Nat} {p : Program} {l : Launch} {e : Env} {s : State} {m : MethodId} {args : Array Value} {below : List Frame} {meth : Method} {c : Code} {D : va_G} {A : Nat → Prop} {ad : Nat → Nat} {cy : Nat → ClassId} (hC : zC p m c cJ7_fill_fda19 5 s args wzJ7_fill_fda19 RJ7 meth none)  {res : zSt} {H : Heap} {locs : List Loc} {σ : zSt} {ls : Array Slot} {x1 : Int32} {x2 : Int32} {x3 : Int32} (hI : zI st D (tN4 cy) (wN4 ad cy σ) A s H locs) (hl : lv_has ls 5 [(0, .ref (ad 30)), (1, .int x1), (2, .int x2), (3, .int x3)]) (hf : fJ7_fill_fda19_k30  σ x1 x2 x3 = some res) : W p l e rmJ7_fill_fda19_k30_w4 s m args below meth c H locs 0 0 (zQu below args s D (tN4 cy) (wN4 ad cy) A res) (F0 m 0 ls []) := by
  have hx := hC.1
  have hb := hC.2.1
  unfold fJ7_fill_fda19_k30 at hf
  refine lv_aload_n hx hb dJ7_fill_fda19_0 rfl (lv_at hl 0 rfl) ?_
  refine z_alen (v := 19) hC hI 1 0 (wN4_e30 ad cy σ) (tN4_t30 cy) rfl dJ7_fill_fda19_1 ?_
  refine lv_iload_n hx hb dJ7_fill_fda19_2 rfl (lv_at hl 1 rfl) ?_
  refine lv_iload_n hx hb dJ7_fill_fda19_3 rfl (lv_at hl 2 rfl) ?_
  obtain ⟨σ3, g3, hf⟩ := zbu_use hf
  refine z_callSu (As := [.int 19, .int x1, .int x2]) (rest := []) hC hI (cJ7_rangeCheck_23922_w4_met st l D ad cy σ 19 x1 x2 _ g3) (zgS zw5_18 zw5_19 zw5_13 zw5_20) rfl ⟨rfl, rfl⟩ 3 hdJ7_rangeCheck_23922_w4 ⟨Nat.le_of_ble_eq_true rfl, Nat.le_of_ble_eq_true rfl⟩ rfl hl rfl (Nat.le_of_ble_eq_true rfl) dJ7_fill_fda19_4 ⟨Nat.zero_le _, Nat.zero_le _⟩ (fun H locs hI => ?_)
  refine lv_iload_n hx hb dJ7_fill_fda19_7 rfl (lv_at hl 1 rfl) ?_
  refine lv_istore (lv' := [(4, .int x1), (0, .ref (ad 30)), (1, .int x1), (2, .int x2), (3, .int x3)]) hx hb dJ7_fill_fda19_8 hl (by decide) rfl (fun ls hl => ?_)
  exact blJ7_fill_fda19_k30_w4_10 hC  zfuel _ _ _ _ _ _ _ hI (lv_sub hl [1, 3, 4, 0] rfl) hf
set_option maxRecDepth 20000 in
theorem cJ7_fill_fda19_k30_w4_met (st : Nat → Nat) (l : Launch) (D : va_G) (ad : Nat → Nat) (cy : Nat → ClassId) (σ : zSt) (x1 : Int32) (x2 : Int32) (x3 : Int32) (res : zSt) (hf : fJ7_fill_fda19_k30 σ x1 x2 x3 = some res) (sz : Nat) : zMu st l yJ7_fill_fda19 wzJ7_fill_fda19 rmJ7_fill_fda19_k30_w4 [.ref (ad 30), .int x1, .int x2, .int x3] D (tN4 cy) (wN4 ad cy) sz σ res :=
  zMu.of (cc := cJ7_fill_fda19) (maxL := 5) (ret := none) (by decide) rfl (Nat.le_of_ble_eq_true rfl) (fun p e s m args below meth c hC A hI ls hl => bJ7_fill_fda19_k30_w4 hC hI hl hf)
theorem hdJ7_fill_fda19_k30_w4 : yJ7_fill_fda19.cls ≠ "java/lang/invoke/MethodHandle" ∧ yJ7_fill_fda19.cls ≠ "java/lang/invoke/VarHandle" ∧ (parseMethodDescriptor yJ7_fill_fda19.desc).map (fun d => d.parameters.length) = some 4 := by decide +kernel
noncomputable def rmX7_clear_w4 : Room := { frames := 2, cells := 0, slots := 0, locals := 46 }
theorem hinX7_clear_w4_X70 : ∀ w ∈ wsX70, w ∈ wzX7_clear := fun w h => List.mem_cons_of_mem _ (inlX7 w h)
set_option maxRecDepth 20000 in
set_option maxHeartbeats 4000000 in
theorem bX7_clear_w4 {st : Nat → Nat} {p : Program} {l : Launch} {e : Env} {s : State} {m : MethodId} {args : Array Value} {below : List Frame} {meth : Method} {c : Code} {D : va_G} {A : Nat → Prop} {ad : Nat → Nat} {cy : Nat → ClassId} (hC : zC p m c cX7_clear 1 s args wzX7_clear RX7 meth none)  {res : zSt} {H : Heap} {locs : List Loc} {σ : zSt} {ls : Array Slot}  (hI : zI st D (tN4 cy) (wN4 ad cy σ) A s H locs) (hl : lv_has ls 1 [(0, .ref (ad 4))]) (hf : fX7_clear  σ  = some res) : W p l e rmX7_clear_w4 s m args below meth c H locs 0 0 (zQu below args s D (tN4 cy) (wN4 ad cy) A res) (F0 m 0 ls []) := by
  have hx := hC.1
  have hb := hC.2.1
  unfold fX7_clear at hf
  refine lv_aload_n hx hb dX7_clear_0 rfl (lv_at hl 0 rfl) ?_
  refine z_get hC hI hinX7_clear_w4_X70 0 (wN4_e4 ad cy σ) rfl 0 (by decide) (List.mem_cons_of_mem _ zw5_4) rfl dX7_clear_1 ?_
  refine lv_iconst (v := 0) hx hb dX7_clear_4 (by decide) ?_
  obtain ⟨σ1, g1, hf⟩ := zbu_use hf
  refine z_callSu (As := [.ref (ad 30), .int 0]) (rest := []) hC hI (cJ7_fill_53178_k30_w4_met st l D ad cy σ 0 _ g1) (zgS zw5_11 zw5_12 zw5_13 zw5_14) rfl ⟨rfl, rfl⟩ 2 hdJ7_fill_53178_k30_w4 ⟨Nat.le_of_ble_eq_true rfl, Nat.le_of_ble_eq_true rfl⟩ rfl hl rfl (Nat.le_of_ble_eq_true rfl) dX7_clear_5 ⟨Nat.zero_le _, Nat.zero_le _⟩ (fun H locs hI => ?_)
  refine lv_aload_n hx hb dX7_clear_8 rfl (lv_at hl 0 rfl) ?_
  refine z_get hC hI hinX7_clear_w4_X70 0 (wN4_e4 ad cy σ1) rfl 0 (by decide) (List.mem_cons_of_mem _ zw5_4) rfl dX7_clear_9 ?_
  refine lv_bipush (v := 9) hx hb dX7_clear_12 (by decide) ?_
  refine lv_bipush (v := 13) hx hb dX7_clear_14 (by decide) ?_
  refine lv_bipush (v := 15) hx hb dX7_clear_16 (by decide) ?_
  obtain ⟨σ2, g2, hf⟩ := zbu_use hf
  refine z_callSu (As := [.ref (ad 30), .int 9, .int 13, .int 15]) (rest := []) hC hI (cJ7_fill_fda19_k30_w4_met st l D ad cy σ1 9 13 15 _ g2) (zgS zw5_15 zw5_16 zw5_13 zw5_17) rfl ⟨rfl, rfl⟩ 4 hdJ7_fill_fda19_k30_w4 ⟨Nat.le_of_ble_eq_true rfl, Nat.le_of_ble_eq_true rfl⟩ rfl hl rfl (Nat.le_of_ble_eq_true rfl) dX7_clear_18 ⟨Nat.zero_le _, Nat.zero_le _⟩ (fun H locs hI => ?_)
  refine lv_aload_n hx hb dX7_clear_21 rfl (lv_at hl 0 rfl) ?_
  refine z_get hC hI hinX7_clear_w4_X70 0 (wN4_e4 ad cy σ2) rfl 0 (by decide) (List.mem_cons_of_mem _ zw5_4) rfl dX7_clear_22 ?_
  refine lv_bipush (v := 16) hx hb dX7_clear_25 (by decide) ?_
  refine lv_ldc (v := 32768) hx hb hC.2.2.2.1 (hC.2.2.2.2.1 _ (List.mem_cons_of_mem _ zw5_10)) dX7_clear_27 ?_
  obtain ⟨q, hf⟩ := zck_use hf
  obtain ⟨σ3, eσ3⟩ : ∃ z, z = zsi σ2 30 ((16 : Int32).toNatClampNeg) 32768 := ⟨_, rfl⟩
  replace hf := zbv_use eσ3 hf
  refine z_iast hC hI 1 0 (wN4_e30 ad cy σ2) (tN4_t30 cy) q ((wN4_s30 ad cy σ2 _ _).trans (congrArg (wN4 ad cy) eσ3.symm)) dX7_clear_29 (fun H locs hI => ?_)
  refine lv_aload_n hx hb dX7_clear_30 rfl (lv_at hl 0 rfl) ?_
  refine z_get hC hI hinX7_clear_w4_X70 0 (wN4_e4 ad cy σ3) rfl 0 (by decide) (List.mem_cons_of_mem _ zw5_4) rfl dX7_clear_31 ?_
  refine lv_bipush (v := 18) hx hb dX7_clear_34 (by decide) ?_
  refine lv_sipush (v := 255) hx hb dX7_clear_36 (by decide) ?_
  obtain ⟨q, hf⟩ := zck_use hf
  obtain ⟨σ4, eσ4⟩ : ∃ z, z = zsi σ3 30 ((18 : Int32).toNatClampNeg) 255 := ⟨_, rfl⟩
  replace hf := zbv_use eσ4 hf
  refine z_iast hC hI 1 0 (wN4_e30 ad cy σ3) (tN4_t30 cy) q ((wN4_s30 ad cy σ3 _ _).trans (congrArg (wN4 ad cy) eσ4.symm)) dX7_clear_39 (fun H locs hI => ?_)
  exact z_return hC hI hf dX7_clear_40
set_option maxRecDepth 20000 in
theorem cX7_clear_w4_met (st : Nat → Nat) (l : Launch) (D : va_G) (ad : Nat → Nat) (cy : Nat → ClassId) (σ : zSt)  (res : zSt) (hf : fX7_clear σ  = some res) (sz : Nat) : zMu st l yX7_clear wzX7_clear rmX7_clear_w4 [.ref (ad 4)] D (tN4 cy) (wN4 ad cy) sz σ res :=
  zMu.of (cc := cX7_clear) (maxL := 1) (ret := none) (by decide) rfl (Nat.le_of_ble_eq_true rfl) (fun p e s m args below meth c hC A hI ls hl => bX7_clear_w4 hC hI hl hf)
theorem hdX7_clear_w4 : yX7_clear.cls = RX7 ∧ yX7_clear.cls ≠ "java/lang/invoke/MethodHandle" ∧ yX7_clear.cls ≠ "java/lang/invoke/VarHandle" ∧ (parseMethodDescriptor yX7_clear.desc).map (fun d => d.parameters.length) = some 0 := by decide +kernel
noncomputable def rmJ7_fill_53178_k32_w5 : Room := { frames := 0, cells := 0, slots := 0, locals := 0 }
set_option maxRecDepth 20000 in
set_option maxHeartbeats 4000000 in
theorem bJ7_fill_53178_k32_w5_5_body {st : Nat → Nat} {p : Program} {l : Launch} {e : Env} {s : State} {m : MethodId} {args : Array Value} {below : List Frame} {meth : Method} {c : Code} {D : va_G} {A : Nat → Prop} {ad : Nat → Nat} {cy : Nat → ClassId} (hC : zC p m c cJ7_fill_53178 4 s args wzJ7_fill_53178 RJ7 meth none) {k5 : zSt → Int32 → Int32 → Int32 → Option (zSt)} {res : zSt} (hk5 : ∀ (H : Heap) (locs : List Loc) (σ : zSt) (ls : Array Slot) (x1 : Int32) (x2 : Int32) (x3 : Int32), zI st D (tN5 cy) (wN5 ad cy σ) A s H locs → lv_has ls 4 [(0, .ref (ad 32)), (1, .int x1), (2, .int x2), (3, .int x3)] → k5 σ x1 x2 x3 = some res → W p l e rmJ7_fill_53178_k32_w5 s m args below meth c H locs 0 0 (zQu below args s D (tN5 cy) (wN5 ad cy) A res) (F0 m 5 ls [])) {H : Heap} {locs : List Loc} {σ : zSt} {ls : Array Slot} {x1 : Int32} {x2 : Int32} {x3 : Int32} (hI : zI st D (tN5 cy) (wN5 ad cy σ) A s H locs) (hl : lv_has ls 4 [(0, .ref (ad 32)), (1, .int x1), (2, .int x2), (3, .int x3)]) (hf : fJ7_fill_53178_k32_5_body k5 σ x1 x2 x3 = some res) : W p l e rmJ7_fill_53178_k32_w5 s m args below meth c H locs 0 0 (zQu below args s D (tN5 cy) (wN5 ad cy) A res) (F0 m 5 ls []) := by
  have hx := hC.1
  have hb := hC.2.1
  unfold fJ7_fill_53178_k32_5_body at hf
  refine lv_iload_n hx hb dJ7_fill_53178_5 rfl (lv_at hl 2 rfl) ?_
  refine lv_iload_n hx hb dJ7_fill_53178_6 rfl (lv_at hl 3 rfl) ?_
  refine lv_icmp_ge (tgt := 20) hx hb dJ7_fill_53178_7 (by decide) (fun q => ?_) (fun q => ?_)
  · replace hf := zif_t q hf
    exact z_return hC hI hf dJ7_fill_53178_20
  replace hf := zif_f q hf
  refine lv_aload_n hx hb dJ7_fill_53178_10 rfl (lv_at hl 0 rfl) ?_
  refine lv_iload_n hx hb dJ7_fill_53178_11 rfl (lv_at hl 2 rfl) ?_
  refine lv_iload_n hx hb dJ7_fill_53178_12 rfl (lv_at hl 1 rfl) ?_
  obtain ⟨q, hf⟩ := zck_use hf
  obtain ⟨σ1, eσ1⟩ : ∃ z, z = zsi σ 32 (x2.toNatClampNeg) x1 := ⟨_, rfl⟩
  replace hf := zbv_use eσ1 hf
  refine z_iast hC hI 1 0 (wN5_e32 ad cy σ) (tN5_t32 cy) q ((wN5_s32 ad cy σ _ _).trans (congrArg (wN5 ad cy) eσ1.symm)) dJ7_fill_53178_13 (fun H locs hI => ?_)
  obtain ⟨v2, ev2⟩ : ∃ z : Int32, z = x2 + 1 := ⟨_, rfl⟩
  replace hf := zbv_use ev2 hf
  refine lv_iinc (v := v2) (lv' := [(2, .int v2), (0, .ref (ad 32)), (1, .int x1), (3, .int x3)]) hx hb dJ7_fill_53178_14 hl (k := 2) rfl (by rw [ev2]; rfl) (by decide) rfl (fun ls hl => ?_)
  refine lv_goto (tgt := 5) hx hb dJ7_fill_53178_17 (by decide) ?_
  exact hk5 _ _ _ _ _ _ _ hI (lv_sub hl [1, 2, 0, 3] rfl) hf
theorem blJ7_fill_53178_k32_w5_5 {st : Nat → Nat} {p : Program} {l : Launch} {e : Env} {s : State} {m : MethodId} {args : Array Value} {below : List Frame} {meth : Method} {c : Code} {D : va_G} {A : Nat → Prop} {ad : Nat → Nat} {cy : Nat → ClassId} (hC : zC p m c cJ7_fill_53178 4 s args wzJ7_fill_53178 RJ7 meth none)  {res : zSt} : ∀ (n : Nat) (H : Heap) (locs : List Loc) (σ : zSt) (ls : Array Slot) (x1 : Int32) (x2 : Int32) (x3 : Int32), zI st D (tN5 cy) (wN5 ad cy σ) A s H locs → lv_has ls 4 [(0, .ref (ad 32)), (1, .int x1), (2, .int x2), (3, .int x3)] → fJ7_fill_53178_k32_5  n σ x1 x2 x3 = some res → W p l e rmJ7_fill_53178_k32_w5 s m args below meth c H locs 0 0 (zQu below args s D (tN5 cy) (wN5 ad cy) A res) (F0 m 5 ls []) := by
  intro n
  induction n with
  | zero => intro H locs σ ls x1 x2 x3 hI hl hf; cases hf
  | succ n ih => intro H locs σ ls x1 x2 x3 hI hl hf; exact bJ7_fill_53178_k32_w5_5_body hC ih hI hl hf
set_option maxRecDepth 20000 in
set_option maxHeartbeats 4000000 in
theorem bJ7_fill_53178_k32_w5 {st : Nat → Nat} {p : Program} {l : Launch} {e : Env} {s : State} {m : MethodId} {args : Array Value} {below : List Frame} {meth : Method} {c : Code} {D : va_G} {A : Nat → Prop} {ad : Nat → Nat} {cy : Nat → ClassId} (hC : zC p m c cJ7_fill_53178 4 s args wzJ7_fill_53178 RJ7 meth none)  {res : zSt} {H : Heap} {locs : List Loc} {σ : zSt} {ls : Array Slot} {x1 : Int32} (hI : zI st D (tN5 cy) (wN5 ad cy σ) A s H locs) (hl : lv_has ls 4 [(0, .ref (ad 32)), (1, .int x1)]) (hf : fJ7_fill_53178_k32  σ x1 = some res) : W p l e rmJ7_fill_53178_k32_w5 s m args below meth c H locs 0 0 (zQu below args s D (tN5 cy) (wN5 ad cy) A res) (F0 m 0 ls []) := by
  have hx := hC.1
  have hb := hC.2.1
  unfold fJ7_fill_53178_k32 at hf
  refine lv_iconst (v := 0) hx hb dJ7_fill_53178_0 (by decide) ?_
  refine lv_istore_n (lv' := [(2, .int 0), (0, .ref (ad 32)), (1, .int x1)]) hx hb dJ7_fill_53178_1 rfl hl (by decide) rfl (fun ls hl => ?_)
  refine lv_aload_n hx hb dJ7_fill_53178_2 rfl (lv_at hl 1 rfl) ?_
  refine z_alen (v := 272) hC hI 1 0 (wN5_e32 ad cy σ) (tN5_t32 cy) rfl dJ7_fill_53178_3 ?_
  refine lv_istore_n (lv' := [(3, .int 272), (2, .int 0), (0, .ref (ad 32)), (1, .int x1)]) hx hb dJ7_fill_53178_4 rfl hl (by decide) rfl (fun ls hl => ?_)
  exact blJ7_fill_53178_k32_w5_5 hC  zfuel _ _ _ _ _ _ _ hI (lv_sub hl [2, 3, 1, 0] rfl) hf
set_option maxRecDepth 20000 in
theorem cJ7_fill_53178_k32_w5_met (st : Nat → Nat) (l : Launch) (D : va_G) (ad : Nat → Nat) (cy : Nat → ClassId) (σ : zSt) (x1 : Int32) (res : zSt) (hf : fJ7_fill_53178_k32 σ x1 = some res) (sz : Nat) : zMu st l yJ7_fill_53178 wzJ7_fill_53178 rmJ7_fill_53178_k32_w5 [.ref (ad 32), .int x1] D (tN5 cy) (wN5 ad cy) sz σ res :=
  zMu.of (cc := cJ7_fill_53178) (maxL := 4) (ret := none) (by decide) rfl (Nat.le_of_ble_eq_true rfl) (fun p e s m args below meth c hC A hI ls hl => bJ7_fill_53178_k32_w5 hC hI hl hf)
theorem hdJ7_fill_53178_k32_w5 : yJ7_fill_53178.cls ≠ "java/lang/invoke/MethodHandle" ∧ yJ7_fill_53178.cls ≠ "java/lang/invoke/VarHandle" ∧ (parseMethodDescriptor yJ7_fill_53178.desc).map (fun d => d.parameters.length) = some 2 := by decide +kernel
noncomputable def rmX10_clear_w5 : Room := { frames := 1, cells := 0, slots := 0, locals := 23 }
theorem hinX10_clear_w5_X100 : ∀ w ∈ wsX100, w ∈ wzX10_clear := fun w h => List.mem_cons_of_mem _ (inlX10 w h)
set_option maxRecDepth 20000 in
set_option maxHeartbeats 4000000 in
theorem bX10_clear_w5_36_body {st : Nat → Nat} {p : Program} {l : Launch} {e : Env} {s : State} {m : MethodId} {args : Array Value} {below : List Frame} {meth : Method} {c : Code} {D : va_G} {A : Nat → Prop} {ad : Nat → Nat} {cy : Nat → ClassId} (hC : zC p m c cX10_clear 3 s args wzX10_clear RX10 meth none) {k36 : zSt → Int32 → Option (zSt)} {res : zSt} (hk36 : ∀ (H : Heap) (locs : List Loc) (σ : zSt) (ls : Array Slot) (x2 : Int32), zI st D (tN5 cy) (wN5 ad cy σ) A s H locs → lv_has ls 3 [(0, .ref (ad 5)), (2, .int x2)] → k36 σ x2 = some res → W p l e rmX10_clear_w5 s m args below meth c H locs 0 0 (zQu below args s D (tN5 cy) (wN5 ad cy) A res) (F0 m 36 ls [])) {H : Heap} {locs : List Loc} {σ : zSt} {ls : Array Slot} {x2 : Int32} (hI : zI st D (tN5 cy) (wN5 ad cy σ) A s H locs) (hl : lv_has ls 3 [(0, .ref (ad 5)), (2, .int x2)]) (hf : fX10_clear_36_body k36 σ x2 = some res) : W p l e rmX10_clear_w5 s m args below meth c H locs 0 0 (zQu below args s D (tN5 cy) (wN5 ad cy) A res) (F0 m 36 ls []) := by
  have hx := hC.1
  have hb := hC.2.1
  unfold fX10_clear_36_body at hf
  refine lv_iload_n hx hb dX10_clear_36 rfl (lv_at hl 1 rfl) ?_
  refine lv_sipush (v := 272) hx hb dX10_clear_37 (by decide) ?_
  refine lv_icmp_ge (tgt := 68) hx hb dX10_clear_40 (by decide) (fun q => ?_) (fun q => ?_)
  · replace hf := zif_t q hf
    exact z_return hC hI hf dX10_clear_68
  replace hf := zif_f q hf
  refine lv_aload_n hx hb dX10_clear_43 rfl (lv_at hl 0 rfl) ?_
  refine z_get hC hI hinX10_clear_w5_X100 0 (wN5_e5 ad cy σ) rfl 0 (by decide) (List.mem_cons_of_mem _ zw6_4) rfl dX10_clear_44 ?_
  refine lv_iload_n hx hb dX10_clear_47 rfl (lv_at hl 1 rfl) ?_
  refine lv_iconst (v := 0) hx hb dX10_clear_48 (by decide) ?_
  refine lv_iadd hx hb dX10_clear_49 ?_
  refine lv_bipush (v := 127) hx hb dX10_clear_50 (by decide) ?_
  obtain ⟨q, hf⟩ := zck_use hf
  obtain ⟨σ1, eσ1⟩ : ∃ z, z = zsi σ 32 ((x2 + 0).toNatClampNeg) 127 := ⟨_, rfl⟩
  replace hf := zbv_use eσ1 hf
  refine z_iast hC hI 1 0 (wN5_e32 ad cy σ) (tN5_t32 cy) q ((wN5_s32 ad cy σ _ _).trans (congrArg (wN5 ad cy) eσ1.symm)) dX10_clear_52 (fun H locs hI => ?_)
  refine lv_aload_n hx hb dX10_clear_53 rfl (lv_at hl 0 rfl) ?_
  refine z_get hC hI hinX10_clear_w5_X100 0 (wN5_e5 ad cy σ1) rfl 0 (by decide) (List.mem_cons_of_mem _ zw6_4) rfl dX10_clear_54 ?_
  refine lv_iload_n hx hb dX10_clear_57 rfl (lv_at hl 1 rfl) ?_
  refine lv_iconst (v := 1) hx hb dX10_clear_58 (by decide) ?_
  refine lv_iadd hx hb dX10_clear_59 ?_
  refine lv_iconst (v := 4) hx hb dX10_clear_60 (by decide) ?_
  obtain ⟨q, hf⟩ := zck_use hf
  obtain ⟨σ2, eσ2⟩ : ∃ z, z = zsi σ1 32 ((x2 + 1).toNatClampNeg) 4 := ⟨_, rfl⟩
  replace hf := zbv_use eσ2 hf
  refine z_iast hC hI 1 0 (wN5_e32 ad cy σ1) (tN5_t32 cy) q ((wN5_s32 ad cy σ1 _ _).trans (congrArg (wN5 ad cy) eσ2.symm)) dX10_clear_61 (fun H locs hI => ?_)
  obtain ⟨v3, ev3⟩ : ∃ z : Int32, z = x2 + 8 := ⟨_, rfl⟩
  replace hf := zbv_use ev3 hf
  refine lv_iinc (v := v3) (lv' := [(2, .int v3), (0, .ref (ad 5))]) hx hb dX10_clear_62 hl (k := 1) rfl (by rw [ev3]; rfl) (by decide) rfl (fun ls hl => ?_)
  refine lv_goto (tgt := 36) hx hb dX10_clear_65 (by decide) ?_
  exact hk36 _ _ _ _ _ hI (lv_sub hl [1, 0] rfl) hf
theorem blX10_clear_w5_36 {st : Nat → Nat} {p : Program} {l : Launch} {e : Env} {s : State} {m : MethodId} {args : Array Value} {below : List Frame} {meth : Method} {c : Code} {D : va_G} {A : Nat → Prop} {ad : Nat → Nat} {cy : Nat → ClassId} (hC : zC p m c cX10_clear 3 s args wzX10_clear RX10 meth none)  {res : zSt} : ∀ (n : Nat) (H : Heap) (locs : List Loc) (σ : zSt) (ls : Array Slot) (x2 : Int32), zI st D (tN5 cy) (wN5 ad cy σ) A s H locs → lv_has ls 3 [(0, .ref (ad 5)), (2, .int x2)] → fX10_clear_36  n σ x2 = some res → W p l e rmX10_clear_w5 s m args below meth c H locs 0 0 (zQu below args s D (tN5 cy) (wN5 ad cy) A res) (F0 m 36 ls []) := by
  intro n
  induction n with
  | zero => intro H locs σ ls x2 hI hl hf; cases hf
  | succ n ih => intro H locs σ ls x2 hI hl hf; exact bX10_clear_w5_36_body hC ih hI hl hf
set_option maxRecDepth 20000 in
set_option maxHeartbeats 4000000 in
theorem bX10_clear_w5 {st : Nat → Nat} {p : Program} {l : Launch} {e : Env} {s : State} {m : MethodId} {args : Array Value} {below : List Frame} {meth : Method} {c : Code} {D : va_G} {A : Nat → Prop} {ad : Nat → Nat} {cy : Nat → ClassId} (hC : zC p m c cX10_clear 3 s args wzX10_clear RX10 meth none)  {res : zSt} {H : Heap} {locs : List Loc} {σ : zSt} {ls : Array Slot}  (hI : zI st D (tN5 cy) (wN5 ad cy σ) A s H locs) (hl : lv_has ls 3 [(0, .ref (ad 5))]) (hf : fX10_clear  σ  = some res) : W p l e rmX10_clear_w5 s m args below meth c H locs 0 0 (zQu below args s D (tN5 cy) (wN5 ad cy) A res) (F0 m 0 ls []) := by
  have hx := hC.1
  have hb := hC.2.1
  unfold fX10_clear at hf
  refine lv_aload_n hx hb dX10_clear_0 rfl (lv_at hl 0 rfl) ?_
  refine z_get hC hI hinX10_clear_w5_X100 0 (wN5_e5 ad cy σ) rfl 0 (by decide) (List.mem_cons_of_mem _ zw6_4) rfl dX10_clear_1 ?_
  refine lv_bipush (v := 66) hx hb dX10_clear_4 (by decide) ?_
  obtain ⟨q, hf⟩ := zck_use hf
  refine z_iald hC hI 1 0 (wN5_e32 ad cy σ) (tN5_t32 cy) q dX10_clear_6 ?_
  refine lv_topi (fun v4 ev4 => ?_)
  replace hf := zbv_use ev4 hf
  refine lv_istore_n (lv' := [(1, .int v4), (0, .ref (ad 5))]) hx hb dX10_clear_7 rfl hl (by decide) rfl (fun ls hl => ?_)
  refine lv_aload_n hx hb dX10_clear_8 rfl (lv_at hl 1 rfl) ?_
  refine z_get hC hI hinX10_clear_w5_X100 0 (wN5_e5 ad cy σ) rfl 0 (by decide) (List.mem_cons_of_mem _ zw6_4) rfl dX10_clear_9 ?_
  refine lv_iconst (v := 0) hx hb dX10_clear_12 (by decide) ?_
  obtain ⟨σ5, g5, hf⟩ := zbu_use hf
  refine z_callSu (As := [.ref (ad 32), .int 0]) (rest := []) hC hI (cJ7_fill_53178_k32_w5_met st l D ad cy σ 0 _ g5) (zgS zw6_10 zw5_12 zw5_13 zw5_14) rfl ⟨rfl, rfl⟩ 2 hdJ7_fill_53178_k32_w5 ⟨Nat.le_of_ble_eq_true rfl, Nat.le_of_ble_eq_true rfl⟩ rfl hl rfl (Nat.le_of_ble_eq_true rfl) dX10_clear_13 ⟨Nat.zero_le _, Nat.zero_le _⟩ (fun H locs hI => ?_)
  refine lv_aload_n hx hb dX10_clear_16 rfl (lv_at hl 1 rfl) ?_
  refine z_get hC hI hinX10_clear_w5_X100 0 (wN5_e5 ad cy σ5) rfl 0 (by decide) (List.mem_cons_of_mem _ zw6_4) rfl dX10_clear_17 ?_
  refine lv_bipush (v := 66) hx hb dX10_clear_20 (by decide) ?_
  refine lv_iload_n hx hb dX10_clear_22 rfl (lv_at hl 0 rfl) ?_
  obtain ⟨q, hf⟩ := zck_use hf
  obtain ⟨σ6, eσ6⟩ : ∃ z, z = zsi σ5 32 ((66 : Int32).toNatClampNeg) v4 := ⟨_, rfl⟩
  replace hf := zbv_use eσ6 hf
  refine z_iast hC hI 1 0 (wN5_e32 ad cy σ5) (tN5_t32 cy) q ((wN5_s32 ad cy σ5 _ _).trans (congrArg (wN5 ad cy) eσ6.symm)) dX10_clear_23 (fun H locs hI => ?_)
  refine lv_aload_n hx hb dX10_clear_24 rfl (lv_at hl 1 rfl) ?_
  refine z_get hC hI hinX10_clear_w5_X100 0 (wN5_e5 ad cy σ6) rfl 0 (by decide) (List.mem_cons_of_mem _ zw6_4) rfl dX10_clear_25 ?_
  refine lv_bipush (v := 65) hx hb dX10_clear_28 (by decide) ?_
  refine lv_iconst (v := 1) hx hb dX10_clear_30 (by decide) ?_
  obtain ⟨q, hf⟩ := zck_use hf
  obtain ⟨σ7, eσ7⟩ : ∃ z, z = zsi σ6 32 ((65 : Int32).toNatClampNeg) 1 := ⟨_, rfl⟩
  replace hf := zbv_use eσ7 hf
  refine z_iast hC hI 1 0 (wN5_e32 ad cy σ6) (tN5_t32 cy) q ((wN5_s32 ad cy σ6 _ _).trans (congrArg (wN5 ad cy) eσ7.symm)) dX10_clear_31 (fun H locs hI => ?_)
  refine lv_sipush (v := 128) hx hb dX10_clear_32 (by decide) ?_
  refine lv_istore_n (lv' := [(2, .int 128), (1, .int v4), (0, .ref (ad 5))]) hx hb dX10_clear_35 rfl hl (by decide) rfl (fun ls hl => ?_)
  exact blX10_clear_w5_36 hC  zfuel _ _ _ _ _ hI (lv_sub hl [2, 0] rfl) hf
set_option maxRecDepth 20000 in
theorem cX10_clear_w5_met (st : Nat → Nat) (l : Launch) (D : va_G) (ad : Nat → Nat) (cy : Nat → ClassId) (σ : zSt)  (res : zSt) (hf : fX10_clear σ  = some res) (sz : Nat) : zMu st l yX10_clear wzX10_clear rmX10_clear_w5 [.ref (ad 5)] D (tN5 cy) (wN5 ad cy) sz σ res :=
  zMu.of (cc := cX10_clear) (maxL := 3) (ret := none) (by decide) rfl (Nat.le_of_ble_eq_true rfl) (fun p e s m args below meth c hC A hI ls hl => bX10_clear_w5 hC hI hl hf)
theorem hdX10_clear_w5 : yX10_clear.cls = RX10 ∧ yX10_clear.cls ≠ "java/lang/invoke/MethodHandle" ∧ yX10_clear.cls ≠ "java/lang/invoke/VarHandle" ∧ (parseMethodDescriptor yX10_clear.desc).map (fun d => d.parameters.length) = some 0 := by decide +kernel
noncomputable def rmX4_clear_w6 : Room := { frames := 0, cells := 0, slots := 0, locals := 0 }
theorem hinX4_clear_w6_X40 : ∀ w ∈ wsX40, w ∈ wzX4_clear := fun w h => List.mem_cons_of_mem _ (inlX4 w h)
set_option maxRecDepth 20000 in
set_option maxHeartbeats 4000000 in
theorem bX4_clear_w6 {st : Nat → Nat} {p : Program} {l : Launch} {e : Env} {s : State} {m : MethodId} {args : Array Value} {below : List Frame} {meth : Method} {c : Code} {D : va_G} {A : Nat → Prop} {ad : Nat → Nat} {cy : Nat → ClassId} (hC : zC p m c cX4_clear 1 s args wzX4_clear RX4 meth none)  {res : zSt} {H : Heap} {locs : List Loc} {σ : zSt} {ls : Array Slot}  (hI : zI st D (tN6 cy) (wN6 ad cy σ) A s H locs) (hl : lv_has ls 1 [(0, .ref (ad 6))]) (hf : fX4_clear  σ  = some res) : W p l e rmX4_clear_w6 s m args below meth c H locs 0 0 (zQu below args s D (tN6 cy) (wN6 ad cy) A res) (F0 m 0 ls []) := by
  have hx := hC.1
  have hb := hC.2.1
  unfold fX4_clear at hf
  refine lv_aload_n hx hb dX4_clear_0 rfl (lv_at hl 0 rfl) ?_
  refine z_get hC hI hinX4_clear_w6_X40 0 (wN6_e6 ad cy σ) rfl 4 (by decide) (List.mem_cons_of_mem _ zw6_15) rfl dX4_clear_1 ?_
  refine lv_iconst (v := 0) hx hb dX4_clear_4 (by decide) ?_
  refine lv_sipush (v := 255) hx hb dX4_clear_5 (by decide) ?_
  obtain ⟨q, hf⟩ := zck_use hf
  obtain ⟨σ1, eσ1⟩ : ∃ z, z = zsi σ 34 ((0 : Int32).toNatClampNeg) 255 := ⟨_, rfl⟩
  replace hf := zbv_use eσ1 hf
  refine z_iast hC hI 1 0 (wN6_e34 ad cy σ) (tN6_t34 cy) q ((wN6_s34 ad cy σ _ _).trans (congrArg (wN6 ad cy) eσ1.symm)) dX4_clear_8 (fun H locs hI => ?_)
  refine lv_aload_n hx hb dX4_clear_9 rfl (lv_at hl 0 rfl) ?_
  refine z_get hC hI hinX4_clear_w6_X40 0 (wN6_e6 ad cy σ1) rfl 4 (by decide) (List.mem_cons_of_mem _ zw6_15) rfl dX4_clear_10 ?_
  refine lv_iconst (v := 1) hx hb dX4_clear_13 (by decide) ?_
  refine lv_bipush (v := 127) hx hb dX4_clear_14 (by decide) ?_
  obtain ⟨q, hf⟩ := zck_use hf
  obtain ⟨σ2, eσ2⟩ : ∃ z, z = zsi σ1 34 ((1 : Int32).toNatClampNeg) 127 := ⟨_, rfl⟩
  replace hf := zbv_use eσ2 hf
  refine z_iast hC hI 1 0 (wN6_e34 ad cy σ1) (tN6_t34 cy) q ((wN6_s34 ad cy σ1 _ _).trans (congrArg (wN6 ad cy) eσ2.symm)) dX4_clear_16 (fun H locs hI => ?_)
  refine lv_aload_n hx hb dX4_clear_17 rfl (lv_at hl 0 rfl) ?_
  refine z_get hC hI hinX4_clear_w6_X40 0 (wN6_e6 ad cy σ2) rfl 4 (by decide) (List.mem_cons_of_mem _ zw6_15) rfl dX4_clear_18 ?_
  refine lv_iconst (v := 2) hx hb dX4_clear_21 (by decide) ?_
  refine lv_sipush (v := 255) hx hb dX4_clear_22 (by decide) ?_
  obtain ⟨q, hf⟩ := zck_use hf
  obtain ⟨σ3, eσ3⟩ : ∃ z, z = zsi σ2 34 ((2 : Int32).toNatClampNeg) 255 := ⟨_, rfl⟩
  replace hf := zbv_use eσ3 hf
  refine z_iast hC hI 1 0 (wN6_e34 ad cy σ2) (tN6_t34 cy) q ((wN6_s34 ad cy σ2 _ _).trans (congrArg (wN6 ad cy) eσ3.symm)) dX4_clear_25 (fun H locs hI => ?_)
  refine lv_aload_n hx hb dX4_clear_26 rfl (lv_at hl 0 rfl) ?_
  refine z_get hC hI hinX4_clear_w6_X40 0 (wN6_e6 ad cy σ3) rfl 4 (by decide) (List.mem_cons_of_mem _ zw6_15) rfl dX4_clear_27 ?_
  refine lv_iconst (v := 3) hx hb dX4_clear_30 (by decide) ?_
  refine lv_iconst (v := 0) hx hb dX4_clear_31 (by decide) ?_
  obtain ⟨q, hf⟩ := zck_use hf
  obtain ⟨σ4, eσ4⟩ : ∃ z, z = zsi σ3 34 ((3 : Int32).toNatClampNeg) 0 := ⟨_, rfl⟩
  replace hf := zbv_use eσ4 hf
  refine z_iast hC hI 1 0 (wN6_e34 ad cy σ3) (tN6_t34 cy) q ((wN6_s34 ad cy σ3 _ _).trans (congrArg (wN6 ad cy) eσ4.symm)) dX4_clear_32 (fun H locs hI => ?_)
  refine lv_aload_n hx hb dX4_clear_33 rfl (lv_at hl 0 rfl) ?_
  refine z_get hC hI hinX4_clear_w6_X40 0 (wN6_e6 ad cy σ4) rfl 4 (by decide) (List.mem_cons_of_mem _ zw6_15) rfl dX4_clear_34 ?_
  refine lv_iconst (v := 4) hx hb dX4_clear_37 (by decide) ?_
  refine lv_sipush (v := 255) hx hb dX4_clear_38 (by decide) ?_
  obtain ⟨q, hf⟩ := zck_use hf
  obtain ⟨σ5, eσ5⟩ : ∃ z, z = zsi σ4 34 ((4 : Int32).toNatClampNeg) 255 := ⟨_, rfl⟩
  replace hf := zbv_use eσ5 hf
  refine z_iast hC hI 1 0 (wN6_e34 ad cy σ4) (tN6_t34 cy) q ((wN6_s34 ad cy σ4 _ _).trans (congrArg (wN6 ad cy) eσ5.symm)) dX4_clear_41 (fun H locs hI => ?_)
  refine lv_aload_n hx hb dX4_clear_42 rfl (lv_at hl 0 rfl) ?_
  refine z_get hC hI hinX4_clear_w6_X40 0 (wN6_e6 ad cy σ5) rfl 4 (by decide) (List.mem_cons_of_mem _ zw6_15) rfl dX4_clear_43 ?_
  refine lv_iconst (v := 5) hx hb dX4_clear_46 (by decide) ?_
  refine lv_iconst (v := 0) hx hb dX4_clear_47 (by decide) ?_
  obtain ⟨q, hf⟩ := zck_use hf
  obtain ⟨σ6, eσ6⟩ : ∃ z, z = zsi σ5 34 ((5 : Int32).toNatClampNeg) 0 := ⟨_, rfl⟩
  replace hf := zbv_use eσ6 hf
  refine z_iast hC hI 1 0 (wN6_e34 ad cy σ5) (tN6_t34 cy) q ((wN6_s34 ad cy σ5 _ _).trans (congrArg (wN6 ad cy) eσ6.symm)) dX4_clear_48 (fun H locs hI => ?_)
  refine lv_aload_n hx hb dX4_clear_49 rfl (lv_at hl 0 rfl) ?_
  refine z_get hC hI hinX4_clear_w6_X40 0 (wN6_e6 ad cy σ6) rfl 4 (by decide) (List.mem_cons_of_mem _ zw6_15) rfl dX4_clear_50 ?_
  refine lv_bipush (v := 6) hx hb dX4_clear_53 (by decide) ?_
  refine lv_iconst (v := 0) hx hb dX4_clear_55 (by decide) ?_
  obtain ⟨q, hf⟩ := zck_use hf
  obtain ⟨σ7, eσ7⟩ : ∃ z, z = zsi σ6 34 ((6 : Int32).toNatClampNeg) 0 := ⟨_, rfl⟩
  replace hf := zbv_use eσ7 hf
  refine z_iast hC hI 1 0 (wN6_e34 ad cy σ6) (tN6_t34 cy) q ((wN6_s34 ad cy σ6 _ _).trans (congrArg (wN6 ad cy) eσ7.symm)) dX4_clear_56 (fun H locs hI => ?_)
  exact z_return hC hI hf dX4_clear_57
set_option maxRecDepth 20000 in
theorem cX4_clear_w6_met (st : Nat → Nat) (l : Launch) (D : va_G) (ad : Nat → Nat) (cy : Nat → ClassId) (σ : zSt)  (res : zSt) (hf : fX4_clear σ  = some res) (sz : Nat) : zMu st l yX4_clear wzX4_clear rmX4_clear_w6 [.ref (ad 6)] D (tN6 cy) (wN6 ad cy) sz σ res :=
  zMu.of (cc := cX4_clear) (maxL := 1) (ret := none) (by decide) rfl (Nat.le_of_ble_eq_true rfl) (fun p e s m args below meth c hC A hI ls hl => bX4_clear_w6 hC hI hl hf)
theorem hdX4_clear_w6 : yX4_clear.cls = RX4 ∧ yX4_clear.cls ≠ "java/lang/invoke/MethodHandle" ∧ yX4_clear.cls ≠ "java/lang/invoke/VarHandle" ∧ (parseMethodDescriptor yX4_clear.desc).map (fun d => d.parameters.length) = some 0 := by decide +kernel
noncomputable def rmJ7_fill_53178_k44_w9 : Room := { frames := 0, cells := 0, slots := 0, locals := 0 }
noncomputable def fJ7_fill_53178_k44_5_body (k5 : zSt → Int32 → Int32 → Int32 → Option (zSt)) (σ : zSt) (x1 : Int32) (x2 : Int32) (x3 : Int32) : Option (zSt) :=
  if x3 ≤ x2 then some σ else
  zck (zin x2 32) (zbv (zsi σ 44 (x2.toNatClampNeg) x1) (fun σ1 =>
  zbv (x2 + 1) (fun v2 =>
  k5 σ1 x1 v2 x3)))
noncomputable def fJ7_fill_53178_k44_5  : Nat → zSt → Int32 → Int32 → Int32 → Option (zSt)
  | 0, _, _, _, _ => none
  | n + 1, σ, x1, x2, x3 => fJ7_fill_53178_k44_5_body (fJ7_fill_53178_k44_5  n) σ x1 x2 x3
noncomputable def fJ7_fill_53178_k44  (σ : zSt) (x1 : Int32) : Option (zSt) :=
  fJ7_fill_53178_k44_5 zfuel σ x1 0 32
set_option maxRecDepth 20000 in
set_option maxHeartbeats 4000000 in
theorem bJ7_fill_53178_k44_w9_5_body {st : Nat → Nat} {p : Program} {l : Launch} {e : Env} {s : State} {m : MethodId} {args : Array Value} {below : List Frame} {meth : Method} {c : Code} {D : va_G} {A : Nat → Prop} {ad : Nat → Nat} {cy : Nat → ClassId} (hC : zC p m c cJ7_fill_53178 4 s args wzJ7_fill_53178 RJ7 meth none) {k5 : zSt → Int32 → Int32 → Int32 → Option (zSt)} {res : zSt} (hk5 : ∀ (H : Heap) (locs : List Loc) (σ : zSt) (ls : Array Slot) (x1 : Int32) (x2 : Int32) (x3 : Int32), zI st D (tN9 cy) (wN9 ad cy σ) A s H locs → lv_has ls 4 [(0, .ref (ad 44)), (1, .int x1), (2, .int x2), (3, .int x3)] → k5 σ x1 x2 x3 = some res → W p l e rmJ7_fill_53178_k44_w9 s m args below meth c H locs 0 0 (zQu below args s D (tN9 cy) (wN9 ad cy) A res) (F0 m 5 ls [])) {H : Heap} {locs : List Loc} {σ : zSt} {ls : Array Slot} {x1 : Int32} {x2 : Int32} {x3 : Int32} (hI : zI st D (tN9 cy) (wN9 ad cy σ) A s H locs) (hl : lv_has ls 4 [(0, .ref (ad 44)), (1, .int x1), (2, .int x2), (3, .int x3)]) (hf : fJ7_fill_53178_k44_5_body k5 σ x1 x2 x3 = some res) : W p l e rmJ7_fill_53178_k44_w9 s m args below meth c H locs 0 0 (zQu below args s D (tN9 cy) (wN9 ad cy) A res) (F0 m 5 ls []) := by
  have hx := hC.1
  have hb := hC.2.1
  unfold fJ7_fill_53178_k44_5_body at hf
  refine lv_iload_n hx hb dJ7_fill_53178_5 rfl (lv_at hl 2 rfl) ?_
  refine lv_iload_n hx hb dJ7_fill_53178_6 rfl (lv_at hl 3 rfl) ?_
  refine lv_icmp_ge (tgt := 20) hx hb dJ7_fill_53178_7 (by decide) (fun q => ?_) (fun q => ?_)
  · replace hf := zif_t q hf
    exact z_return hC hI hf dJ7_fill_53178_20
  replace hf := zif_f q hf
  refine lv_aload_n hx hb dJ7_fill_53178_10 rfl (lv_at hl 0 rfl) ?_
  refine lv_iload_n hx hb dJ7_fill_53178_11 rfl (lv_at hl 2 rfl) ?_
  refine lv_iload_n hx hb dJ7_fill_53178_12 rfl (lv_at hl 1 rfl) ?_
  obtain ⟨q, hf⟩ := zck_use hf
  obtain ⟨σ1, eσ1⟩ : ∃ z, z = zsi σ 44 (x2.toNatClampNeg) x1 := ⟨_, rfl⟩
  replace hf := zbv_use eσ1 hf
  refine z_iast hC hI 5 4 (wN9_e44 ad cy σ) (tN9_t44 cy) q ((wN9_s44 ad cy σ _ _).trans (congrArg (wN9 ad cy) eσ1.symm)) dJ7_fill_53178_13 (fun H locs hI => ?_)
  obtain ⟨v2, ev2⟩ : ∃ z : Int32, z = x2 + 1 := ⟨_, rfl⟩
  replace hf := zbv_use ev2 hf
  refine lv_iinc (v := v2) (lv' := [(2, .int v2), (0, .ref (ad 44)), (1, .int x1), (3, .int x3)]) hx hb dJ7_fill_53178_14 hl (k := 2) rfl (by rw [ev2]; rfl) (by decide) rfl (fun ls hl => ?_)
  refine lv_goto (tgt := 5) hx hb dJ7_fill_53178_17 (by decide) ?_
  exact hk5 _ _ _ _ _ _ _ hI (lv_sub hl [1, 2, 0, 3] rfl) hf
theorem blJ7_fill_53178_k44_w9_5 {st : Nat → Nat} {p : Program} {l : Launch} {e : Env} {s : State} {m : MethodId} {args : Array Value} {below : List Frame} {meth : Method} {c : Code} {D : va_G} {A : Nat → Prop} {ad : Nat → Nat} {cy : Nat → ClassId} (hC : zC p m c cJ7_fill_53178 4 s args wzJ7_fill_53178 RJ7 meth none)  {res : zSt} : ∀ (n : Nat) (H : Heap) (locs : List Loc) (σ : zSt) (ls : Array Slot) (x1 : Int32) (x2 : Int32) (x3 : Int32), zI st D (tN9 cy) (wN9 ad cy σ) A s H locs → lv_has ls 4 [(0, .ref (ad 44)), (1, .int x1), (2, .int x2), (3, .int x3)] → fJ7_fill_53178_k44_5  n σ x1 x2 x3 = some res → W p l e rmJ7_fill_53178_k44_w9 s m args below meth c H locs 0 0 (zQu below args s D (tN9 cy) (wN9 ad cy) A res) (F0 m 5 ls []) := by
  intro n
  induction n with
  | zero => intro H locs σ ls x1 x2 x3 hI hl hf; cases hf
  | succ n ih => intro H locs σ ls x1 x2 x3 hI hl hf; exact bJ7_fill_53178_k44_w9_5_body hC ih hI hl hf
set_option maxRecDepth 20000 in
set_option maxHeartbeats 4000000 in
theorem bJ7_fill_53178_k44_w9 {st : Nat → Nat} {p : Program} {l : Launch} {e : Env} {s : State} {m : MethodId} {args : Array Value} {below : List Frame} {meth : Method} {c : Code} {D : va_G} {A : Nat → Prop} {ad : Nat → Nat} {cy : Nat → ClassId} (hC : zC p m c cJ7_fill_53178 4 s args wzJ7_fill_53178 RJ7 meth none)  {res : zSt} {H : Heap} {locs : List Loc} {σ : zSt} {ls : Array Slot} {x1 : Int32} (hI : zI st D (tN9 cy) (wN9 ad cy σ) A s H locs) (hl : lv_has ls 4 [(0, .ref (ad 44)), (1, .int x1)]) (hf : fJ7_fill_53178_k44  σ x1 = some res) : W p l e rmJ7_fill_53178_k44_w9 s m args below meth c H locs 0 0 (zQu below args s D (tN9 cy) (wN9 ad cy) A res) (F0 m 0 ls []) := by
  have hx := hC.1
  have hb := hC.2.1
  unfold fJ7_fill_53178_k44 at hf
  refine lv_iconst (v := 0) hx hb dJ7_fill_53178_0 (by decide) ?_
  refine lv_istore_n (lv' := [(2, .int 0), (0, .ref (ad 44)), (1, .int x1)]) hx hb dJ7_fill_53178_1 rfl hl (by decide) rfl (fun ls hl => ?_)
  refine lv_aload_n hx hb dJ7_fill_53178_2 rfl (lv_at hl 1 rfl) ?_
  refine z_alen (v := 32) hC hI 5 4 (wN9_e44 ad cy σ) (tN9_t44 cy) rfl dJ7_fill_53178_3 ?_
  refine lv_istore_n (lv' := [(3, .int 32), (2, .int 0), (0, .ref (ad 44)), (1, .int x1)]) hx hb dJ7_fill_53178_4 rfl hl (by decide) rfl (fun ls hl => ?_)
  exact blJ7_fill_53178_k44_w9_5 hC  zfuel _ _ _ _ _ _ _ hI (lv_sub hl [2, 3, 1, 0] rfl) hf
set_option maxRecDepth 20000 in
theorem cJ7_fill_53178_k44_w9_met (st : Nat → Nat) (l : Launch) (D : va_G) (ad : Nat → Nat) (cy : Nat → ClassId) (σ : zSt) (x1 : Int32) (res : zSt) (hf : fJ7_fill_53178_k44 σ x1 = some res) (sz : Nat) : zMu st l yJ7_fill_53178 wzJ7_fill_53178 rmJ7_fill_53178_k44_w9 [.ref (ad 44), .int x1] D (tN9 cy) (wN9 ad cy) sz σ res :=
  zMu.of (cc := cJ7_fill_53178) (maxL := 4) (ret := none) (by decide) rfl (Nat.le_of_ble_eq_true rfl) (fun p e s m args below meth c hC A hI ls hl => bJ7_fill_53178_k44_w9 hC hI hl hf)
theorem hdJ7_fill_53178_k44_w9 : yJ7_fill_53178.cls ≠ "java/lang/invoke/MethodHandle" ∧ yJ7_fill_53178.cls ≠ "java/lang/invoke/VarHandle" ∧ (parseMethodDescriptor yJ7_fill_53178.desc).map (fun d => d.parameters.length) = some 2 := by decide +kernel
end ZJN0
section ZJN1
section ZN2
variable {p : Program} {l : Launch} {e : Env} {R : Room} {s : State} {m : MethodId} {args : Array Value} {below : List Frame} {meth : Method} {c : Code} {H : Heap} {locs : List Loc} {cells slots : Nat} {Q : State → Prop}
variable {st : Nat → Nat} {D : va_G} {tys : List (ClassId × FieldType)} {A : Nat → Prop} {cc : ByteArray} {nL : Nat} {Ts : List Cond} {own : String} {pc : Nat} {ls : Array Slot} {rest : List Value} {ret : Option FieldType} {w : va_W}
theorem z_newi (hC : zC p m c cc nL s args Ts own meth ret) (hI : zI st D tys w A s H locs) (harr : Cond.arrayClass .int ∈ Ts) {n : Int32} (N' : Nat) (hn : ¬ n < 0) (hN : n.toNatClampNeg = N') (hbytes : N' * componentBytes .int ≤ 536870912) (hcells : cells + 1 ≤ R.cells) (hslots : slots + N' ≤ R.slots) (hdg : decode cc pc = .ok (.newarray .int, 2))
    (kk : ∀ (q : Nat) (cA : ClassId) (H1 : Heap), zI st D (tys ++ [(cA, .int)]) (w ++ [(q, .inl (cA, N', .inl (fun _ => 0)))]) A s H1 locs → W p l e R s m args below meth c H1 locs (cells + 1) (slots + N') Q (F0 m (pc + 2) ls (.ref q :: rest))) : W p l e R s m args below meth c H locs cells slots Q (F0 m pc ls (.int n :: rest)) :=
  z_newa (atype := .int) (ty := .int) (a0 := (N', .inl (fun _ => 0))) hC hI rfl harr N' (fun _ => rfl) hn hN hbytes hcells hslots hdg kk
theorem z_newl (hC : zC p m c cc nL s args Ts own meth ret) (hI : zI st D tys w A s H locs) (harr : Cond.arrayClass .long ∈ Ts) {n : Int32} (N' : Nat) (hn : ¬ n < 0) (hN : n.toNatClampNeg = N') (hbytes : N' * componentBytes .long ≤ 536870912) (hcells : cells + 1 ≤ R.cells) (hslots : slots + N' ≤ R.slots) (hdg : decode cc pc = .ok (.newarray .long, 2))
    (kk : ∀ (q : Nat) (cA : ClassId) (H1 : Heap), zI st D (tys ++ [(cA, .long)]) (w ++ [(q, .inl (cA, N', .inr (.inl (fun _ => 0))))]) A s H1 locs → W p l e R s m args below meth c H1 locs (cells + 1) (slots + N') Q (F0 m (pc + 2) ls (.ref q :: rest))) : W p l e R s m args below meth c H locs cells slots Q (F0 m pc ls (.int n :: rest)) :=
  z_newa (atype := .long) (ty := .long) (a0 := (N', .inr (.inl (fun _ => 0)))) hC hI rfl harr N' (fun _ => rfl) hn hN hbytes hcells hslots hdg kk
end ZN2
noncomputable def rmX2_init : Room := { frames := 1, cells := 8, slots := 607240, locals := 20 }
noncomputable def wzX2_init : List Cond := .code yX2_init cX2_init 1 none :: wsL_law
noncomputable def kn_cX2_init : Nat := 0xb12500b50abc072a2200b54f0306594f0505594f0404594f0303590abc072a1f00b50abc1b122a1c00b50abc1b122a1800b50abc0020112a1500b50abc0020112a1100b5022a0e00b50abc09122a0a00b50abc09122a0100b72a
theorem zk_cX2_init : zkd cX2_init.data.toList kn_cX2_init = true := by decide +kernel
theorem zn_cX2_init : cX2_init.data.toList.length = 90 := by decide +kernel
theorem dX2_init_0 : decode cX2_init 0 = .ok (.aload_n 0, 1) := zo_42 (zkb zk_cX2_init zn_cX2_init rfl)
theorem dX2_init_1 : decode cX2_init 1 = .ok (.invokespecial 1, 3) := zo_183 (b1 := 0) (b2 := 1) (zkb3 zk_cX2_init zn_cX2_init rfl) rfl
theorem dX2_init_4 : decode cX2_init 4 = .ok (.aload_n 0, 1) := zo_42 (zkb zk_cX2_init zn_cX2_init rfl)
theorem dX2_init_5 : decode cX2_init 5 = .ok (.ldc 9, 2) := zo_18 (b1 := 9) (zkb2 zk_cX2_init zn_cX2_init rfl)
theorem dX2_init_7 : decode cX2_init 7 = .ok (.newarray .int, 2) := by decide +kernel
theorem dX2_init_9 : decode cX2_init 9 = .ok (.putfield 10, 3) := zo_181 (b1 := 0) (b2 := 10) (zkb3 zk_cX2_init zn_cX2_init rfl) rfl
theorem dX2_init_12 : decode cX2_init 12 = .ok (.aload_n 0, 1) := zo_42 (zkb zk_cX2_init zn_cX2_init rfl)
theorem dX2_init_13 : decode cX2_init 13 = .ok (.ldc 9, 2) := zo_18 (b1 := 9) (zkb2 zk_cX2_init zn_cX2_init rfl)
theorem dX2_init_15 : decode cX2_init 15 = .ok (.newarray .int, 2) := by decide +kernel
theorem dX2_init_17 : decode cX2_init 17 = .ok (.putfield 14, 3) := zo_181 (b1 := 0) (b2 := 14) (zkb3 zk_cX2_init zn_cX2_init rfl) rfl
theorem dX2_init_20 : decode cX2_init 20 = .ok (.aload_n 0, 1) := zo_42 (zkb zk_cX2_init zn_cX2_init rfl)
theorem dX2_init_21 : decode cX2_init 21 = .ok (.iconst (-1), 1) := zo_2 (zkb zk_cX2_init zn_cX2_init rfl)
theorem dX2_init_22 : decode cX2_init 22 = .ok (.putfield 17, 3) := zo_181 (b1 := 0) (b2 := 17) (zkb3 zk_cX2_init zn_cX2_init rfl) rfl
theorem dX2_init_25 : decode cX2_init 25 = .ok (.aload_n 0, 1) := zo_42 (zkb zk_cX2_init zn_cX2_init rfl)
theorem dX2_init_26 : decode cX2_init 26 = .ok (.sipush 8192, 3) := zo_17 (b1 := 32) (b2 := 0) (zkb3 zk_cX2_init zn_cX2_init rfl) rfl
theorem dX2_init_29 : decode cX2_init 29 = .ok (.newarray .int, 2) := by decide +kernel
theorem dX2_init_31 : decode cX2_init 31 = .ok (.putfield 21, 3) := zo_181 (b1 := 0) (b2 := 21) (zkb3 zk_cX2_init zn_cX2_init rfl) rfl
theorem dX2_init_34 : decode cX2_init 34 = .ok (.aload_n 0, 1) := zo_42 (zkb zk_cX2_init zn_cX2_init rfl)
theorem dX2_init_35 : decode cX2_init 35 = .ok (.sipush 8192, 3) := zo_17 (b1 := 32) (b2 := 0) (zkb3 zk_cX2_init zn_cX2_init rfl) rfl
theorem dX2_init_38 : decode cX2_init 38 = .ok (.newarray .int, 2) := by decide +kernel
theorem dX2_init_40 : decode cX2_init 40 = .ok (.putfield 24, 3) := zo_181 (b1 := 0) (b2 := 24) (zkb3 zk_cX2_init zn_cX2_init rfl) rfl
theorem dX2_init_43 : decode cX2_init 43 = .ok (.aload_n 0, 1) := zo_42 (zkb zk_cX2_init zn_cX2_init rfl)
theorem dX2_init_44 : decode cX2_init 44 = .ok (.ldc 27, 2) := zo_18 (b1 := 27) (zkb2 zk_cX2_init zn_cX2_init rfl)
theorem dX2_init_46 : decode cX2_init 46 = .ok (.newarray .int, 2) := by decide +kernel
theorem dX2_init_48 : decode cX2_init 48 = .ok (.putfield 28, 3) := zo_181 (b1 := 0) (b2 := 28) (zkb3 zk_cX2_init zn_cX2_init rfl) rfl
theorem dX2_init_51 : decode cX2_init 51 = .ok (.aload_n 0, 1) := zo_42 (zkb zk_cX2_init zn_cX2_init rfl)
theorem dX2_init_52 : decode cX2_init 52 = .ok (.ldc 27, 2) := zo_18 (b1 := 27) (zkb2 zk_cX2_init zn_cX2_init rfl)
theorem dX2_init_54 : decode cX2_init 54 = .ok (.newarray .int, 2) := by decide +kernel
theorem dX2_init_56 : decode cX2_init 56 = .ok (.putfield 31, 3) := zo_181 (b1 := 0) (b2 := 31) (zkb3 zk_cX2_init zn_cX2_init rfl) rfl
theorem dX2_init_59 : decode cX2_init 59 = .ok (.aload_n 0, 1) := zo_42 (zkb zk_cX2_init zn_cX2_init rfl)
theorem dX2_init_60 : decode cX2_init 60 = .ok (.iconst 4, 1) := zo_7 (zkb zk_cX2_init zn_cX2_init rfl)
theorem dX2_init_61 : decode cX2_init 61 = .ok (.newarray .int, 2) := by decide +kernel
theorem dX2_init_63 : decode cX2_init 63 = .ok (.dup, 1) := zo_89 (zkb zk_cX2_init zn_cX2_init rfl)
theorem dX2_init_64 : decode cX2_init 64 = .ok (.iconst 0, 1) := zo_3 (zkb zk_cX2_init zn_cX2_init rfl)
theorem dX2_init_65 : decode cX2_init 65 = .ok (.iconst 0, 1) := zo_3 (zkb zk_cX2_init zn_cX2_init rfl)
theorem dX2_init_66 : decode cX2_init 66 = .ok (.iastore, 1) := zo_79 (zkb zk_cX2_init zn_cX2_init rfl)
theorem dX2_init_67 : decode cX2_init 67 = .ok (.dup, 1) := zo_89 (zkb zk_cX2_init zn_cX2_init rfl)
theorem dX2_init_68 : decode cX2_init 68 = .ok (.iconst 1, 1) := zo_4 (zkb zk_cX2_init zn_cX2_init rfl)
theorem dX2_init_69 : decode cX2_init 69 = .ok (.iconst 1, 1) := zo_4 (zkb zk_cX2_init zn_cX2_init rfl)
theorem dX2_init_70 : decode cX2_init 70 = .ok (.iastore, 1) := zo_79 (zkb zk_cX2_init zn_cX2_init rfl)
theorem dX2_init_71 : decode cX2_init 71 = .ok (.dup, 1) := zo_89 (zkb zk_cX2_init zn_cX2_init rfl)
theorem dX2_init_72 : decode cX2_init 72 = .ok (.iconst 2, 1) := zo_5 (zkb zk_cX2_init zn_cX2_init rfl)
theorem dX2_init_73 : decode cX2_init 73 = .ok (.iconst 2, 1) := zo_5 (zkb zk_cX2_init zn_cX2_init rfl)
theorem dX2_init_74 : decode cX2_init 74 = .ok (.iastore, 1) := zo_79 (zkb zk_cX2_init zn_cX2_init rfl)
theorem dX2_init_75 : decode cX2_init 75 = .ok (.dup, 1) := zo_89 (zkb zk_cX2_init zn_cX2_init rfl)
theorem dX2_init_76 : decode cX2_init 76 = .ok (.iconst 3, 1) := zo_6 (zkb zk_cX2_init zn_cX2_init rfl)
theorem dX2_init_77 : decode cX2_init 77 = .ok (.iconst 0, 1) := zo_3 (zkb zk_cX2_init zn_cX2_init rfl)
theorem dX2_init_78 : decode cX2_init 78 = .ok (.iastore, 1) := zo_79 (zkb zk_cX2_init zn_cX2_init rfl)
theorem dX2_init_79 : decode cX2_init 79 = .ok (.putfield 34, 3) := zo_181 (b1 := 0) (b2 := 34) (zkb3 zk_cX2_init zn_cX2_init rfl) rfl
theorem dX2_init_82 : decode cX2_init 82 = .ok (.aload_n 0, 1) := zo_42 (zkb zk_cX2_init zn_cX2_init rfl)
theorem dX2_init_83 : decode cX2_init 83 = .ok (.iconst 4, 1) := zo_7 (zkb zk_cX2_init zn_cX2_init rfl)
theorem dX2_init_84 : decode cX2_init 84 = .ok (.newarray .int, 2) := by decide +kernel
theorem dX2_init_86 : decode cX2_init 86 = .ok (.putfield 37, 3) := zo_181 (b1 := 0) (b2 := 37) (zkb3 zk_cX2_init zn_cX2_init rfl) rfl
theorem dX2_init_89 : decode cX2_init 89 = .ok (.return_, 1) := zo_177 (zkb zk_cX2_init zn_cX2_init rfl)
set_option maxRecDepth 20000 in
set_option maxHeartbeats 4000000 in
theorem cX2_init_met (st : Nat → Nat) (l : Launch) (D : va_G) (h0 : Nat)   (sz : Nat) : zN st l yX2_init wzX2_init rmX2_init [.ref h0] D [(h0, .inr (4, [.null, .null, .int 0, .int 0, .int 0, .int 0, .int 0, .int 0, .null, .null, .null, .null, .null, .null]))] sz (fun ad cy => wN1 ad cy (zsi (zsi (zsi (zsi (zsi (zsi zS0 1 1 1) 1 7 (-1)) 19 0 0) 19 1 1) 19 2 2) 19 3 0)) tN1 (fun f => h0 = f 1) 8 607240 := by
  refine zN.of (cc := cX2_init) (maxL := 1) (by decide) rfl rfl (Nat.le_of_ble_eq_true rfl) (fun p e s m args below meth c hC hnm A hI ls hl => ?_)
  have hx := hC.1
  have hb := hC.2.1
  refine lv_aload_n hx hb dX2_init_0 rfl (lv_at hl 0 rfl) ?_
  refine z_objInit hC hl (List.mem_cons_of_mem _ zw3_13) (List.mem_cons_of_mem _ zw1_16) (List.mem_cons_of_mem _ zw1_17) dX2_init_1 (Nat.le_of_ble_eq_true rfl) (Nat.le_of_ble_eq_true rfl) ?_
  refine lv_aload_n hx hb dX2_init_4 rfl (lv_at hl 0 rfl) ?_
  refine lv_ldc (v := 262656) hx hb hC.2.2.2.1 (hC.2.2.2.2.1 _ (List.mem_cons_of_mem _ zw3_14)) dX2_init_5 ?_
  refine z_newi hC hI (List.mem_cons_of_mem _ zw3_15) 262656 (by decide +kernel) (by decide +kernel) (by decide +kernel) (Nat.le_of_ble_eq_true rfl) (Nat.le_of_ble_eq_true rfl) dX2_init_7 (fun q1 c1 H hI => ?_)
  have hI : zI st D [(c1, .int)] [(h0, .inr (4, [.null, .null, .int 0, .int 0, .int 0, .int 0, .int 0, .int 0, .null, .null, .null, .null, .null, .null])), (q1, .inl (c1, 262656, .inl (fun _ => 0)))] A s H _ := hI
  refine z_put hC hI (w1 := [(h0, .inr (4, [.ref q1, .null, .int 0, .int 0, .int 0, .int 0, .int 0, .int 0, .null, .null, .null, .null, .null, .null])), (q1, .inl (c1, 262656, .inl (fun _ => 0)))]) (fun w h => List.mem_cons_of_mem _ (inlX2 w h)) tyX2_ok nmX2 0 rfl rfl 0 (by decide) (List.mem_cons_of_mem _ zw3_16) rfl rfl rfl (Nat.le_of_ble_eq_true rfl) rfl dX2_init_9 (fun H locs hI => ?_)
  refine lv_aload_n hx hb dX2_init_12 rfl (lv_at hl 0 rfl) ?_
  refine lv_ldc (v := 262656) hx hb hC.2.2.2.1 (hC.2.2.2.2.1 _ (List.mem_cons_of_mem _ zw3_14)) dX2_init_13 ?_
  refine z_newi hC hI (List.mem_cons_of_mem _ zw3_15) 262656 (by decide +kernel) (by decide +kernel) (by decide +kernel) (Nat.le_of_ble_eq_true rfl) (Nat.le_of_ble_eq_true rfl) dX2_init_15 (fun q2 c2 H hI => ?_)
  have hI : zI st D [(c1, .int), (c2, .int)] [(h0, .inr (4, [.ref q1, .null, .int 0, .int 0, .int 0, .int 0, .int 0, .int 0, .null, .null, .null, .null, .null, .null])), (q1, .inl (c1, 262656, .inl (fun _ => 0))), (q2, .inl (c2, 262656, .inl (fun _ => 0)))] A s H _ := hI
  refine z_put hC hI (w1 := [(h0, .inr (4, [.ref q1, .ref q2, .int 0, .int 0, .int 0, .int 0, .int 0, .int 0, .null, .null, .null, .null, .null, .null])), (q1, .inl (c1, 262656, .inl (fun _ => 0))), (q2, .inl (c2, 262656, .inl (fun _ => 0)))]) (fun w h => List.mem_cons_of_mem _ (inlX2 w h)) tyX2_ok nmX2 0 rfl rfl 1 (by decide) (List.mem_cons_of_mem _ zw3_17) rfl rfl rfl (Nat.le_of_ble_eq_true rfl) rfl dX2_init_17 (fun H locs hI => ?_)
  refine lv_aload_n hx hb dX2_init_20 rfl (lv_at hl 0 rfl) ?_
  refine lv_iconst (v := (-1)) hx hb dX2_init_21 (by decide) ?_
  refine z_put hC hI (w1 := [(h0, .inr (4, [.ref q1, .ref q2, .int 0, .int 0, .int 0, .int 0, .int 0, .int (-1), .null, .null, .null, .null, .null, .null])), (q1, .inl (c1, 262656, .inl (fun _ => 0))), (q2, .inl (c2, 262656, .inl (fun _ => 0)))]) (fun w h => List.mem_cons_of_mem _ (inlX2 w h)) tyX2_ok nmX2 0 rfl rfl 7 (by decide) (List.mem_cons_of_mem _ zw3_18) rfl rfl rfl (Nat.le_of_ble_eq_true rfl) rfl dX2_init_22 (fun H locs hI => ?_)
  refine lv_aload_n hx hb dX2_init_25 rfl (lv_at hl 0 rfl) ?_
  refine lv_sipush (v := 8192) hx hb dX2_init_26 (by decide) ?_
  refine z_newi hC hI (List.mem_cons_of_mem _ zw3_15) 8192 (by decide +kernel) (by decide +kernel) (by decide +kernel) (Nat.le_of_ble_eq_true rfl) (Nat.le_of_ble_eq_true rfl) dX2_init_29 (fun q3 c3 H hI => ?_)
  have hI : zI st D [(c1, .int), (c2, .int), (c3, .int)] [(h0, .inr (4, [.ref q1, .ref q2, .int 0, .int 0, .int 0, .int 0, .int 0, .int (-1), .null, .null, .null, .null, .null, .null])), (q1, .inl (c1, 262656, .inl (fun _ => 0))), (q2, .inl (c2, 262656, .inl (fun _ => 0))), (q3, .inl (c3, 8192, .inl (fun _ => 0)))] A s H _ := hI
  refine z_putF hC hnm hI (w1 := [(h0, .inr (4, [.ref q1, .ref q2, .int 0, .int 0, .int 0, .int 0, .int 0, .int (-1), .ref q3, .null, .null, .null, .null, .null])), (q1, .inl (c1, 262656, .inl (fun _ => 0))), (q2, .inl (c2, 262656, .inl (fun _ => 0))), (q3, .inl (c3, 8192, .inl (fun _ => 0)))]) (fun w h => List.mem_cons_of_mem _ (inlX2 w h)) tyX2_ok nmX2 0 rfl rfl 8 (by decide) (List.mem_cons_of_mem _ zw3_19) rfl rfl rfl rfl (Nat.le_of_ble_eq_true rfl) rfl dX2_init_31 (fun H locs hI => ?_)
  refine lv_aload_n hx hb dX2_init_34 rfl (lv_at hl 0 rfl) ?_
  refine lv_sipush (v := 8192) hx hb dX2_init_35 (by decide) ?_
  refine z_newi hC hI (List.mem_cons_of_mem _ zw3_15) 8192 (by decide +kernel) (by decide +kernel) (by decide +kernel) (Nat.le_of_ble_eq_true rfl) (Nat.le_of_ble_eq_true rfl) dX2_init_38 (fun q4 c4 H hI => ?_)
  have hI : zI st D [(c1, .int), (c2, .int), (c3, .int), (c4, .int)] [(h0, .inr (4, [.ref q1, .ref q2, .int 0, .int 0, .int 0, .int 0, .int 0, .int (-1), .ref q3, .null, .null, .null, .null, .null])), (q1, .inl (c1, 262656, .inl (fun _ => 0))), (q2, .inl (c2, 262656, .inl (fun _ => 0))), (q3, .inl (c3, 8192, .inl (fun _ => 0))), (q4, .inl (c4, 8192, .inl (fun _ => 0)))] A s H _ := hI
  refine z_putF hC hnm hI (w1 := [(h0, .inr (4, [.ref q1, .ref q2, .int 0, .int 0, .int 0, .int 0, .int 0, .int (-1), .ref q3, .ref q4, .null, .null, .null, .null])), (q1, .inl (c1, 262656, .inl (fun _ => 0))), (q2, .inl (c2, 262656, .inl (fun _ => 0))), (q3, .inl (c3, 8192, .inl (fun _ => 0))), (q4, .inl (c4, 8192, .inl (fun _ => 0)))]) (fun w h => List.mem_cons_of_mem _ (inlX2 w h)) tyX2_ok nmX2 0 rfl rfl 9 (by decide) (List.mem_cons_of_mem _ zw3_20) rfl rfl rfl rfl (Nat.le_of_ble_eq_true rfl) rfl dX2_init_40 (fun H locs hI => ?_)
  refine lv_aload_n hx hb dX2_init_43 rfl (lv_at hl 0 rfl) ?_
  refine lv_ldc (v := 32768) hx hb hC.2.2.2.1 (hC.2.2.2.2.1 _ (List.mem_cons_of_mem _ zw3_21)) dX2_init_44 ?_
  refine z_newi hC hI (List.mem_cons_of_mem _ zw3_15) 32768 (by decide +kernel) (by decide +kernel) (by decide +kernel) (Nat.le_of_ble_eq_true rfl) (Nat.le_of_ble_eq_true rfl) dX2_init_46 (fun q5 c5 H hI => ?_)
  have hI : zI st D [(c1, .int), (c2, .int), (c3, .int), (c4, .int), (c5, .int)] [(h0, .inr (4, [.ref q1, .ref q2, .int 0, .int 0, .int 0, .int 0, .int 0, .int (-1), .ref q3, .ref q4, .null, .null, .null, .null])), (q1, .inl (c1, 262656, .inl (fun _ => 0))), (q2, .inl (c2, 262656, .inl (fun _ => 0))), (q3, .inl (c3, 8192, .inl (fun _ => 0))), (q4, .inl (c4, 8192, .inl (fun _ => 0))), (q5, .inl (c5, 32768, .inl (fun _ => 0)))] A s H _ := hI
  refine z_putF hC hnm hI (w1 := [(h0, .inr (4, [.ref q1, .ref q2, .int 0, .int 0, .int 0, .int 0, .int 0, .int (-1), .ref q3, .ref q4, .ref q5, .null, .null, .null])), (q1, .inl (c1, 262656, .inl (fun _ => 0))), (q2, .inl (c2, 262656, .inl (fun _ => 0))), (q3, .inl (c3, 8192, .inl (fun _ => 0))), (q4, .inl (c4, 8192, .inl (fun _ => 0))), (q5, .inl (c5, 32768, .inl (fun _ => 0)))]) (fun w h => List.mem_cons_of_mem _ (inlX2 w h)) tyX2_ok nmX2 0 rfl rfl 10 (by decide) (List.mem_cons_of_mem _ zw3_22) rfl rfl rfl rfl (Nat.le_of_ble_eq_true rfl) rfl dX2_init_48 (fun H locs hI => ?_)
  refine lv_aload_n hx hb dX2_init_51 rfl (lv_at hl 0 rfl) ?_
  refine lv_ldc (v := 32768) hx hb hC.2.2.2.1 (hC.2.2.2.2.1 _ (List.mem_cons_of_mem _ zw3_21)) dX2_init_52 ?_
  refine z_newi hC hI (List.mem_cons_of_mem _ zw3_15) 32768 (by decide +kernel) (by decide +kernel) (by decide +kernel) (Nat.le_of_ble_eq_true rfl) (Nat.le_of_ble_eq_true rfl) dX2_init_54 (fun q6 c6 H hI => ?_)
  have hI : zI st D [(c1, .int), (c2, .int), (c3, .int), (c4, .int), (c5, .int), (c6, .int)] [(h0, .inr (4, [.ref q1, .ref q2, .int 0, .int 0, .int 0, .int 0, .int 0, .int (-1), .ref q3, .ref q4, .ref q5, .null, .null, .null])), (q1, .inl (c1, 262656, .inl (fun _ => 0))), (q2, .inl (c2, 262656, .inl (fun _ => 0))), (q3, .inl (c3, 8192, .inl (fun _ => 0))), (q4, .inl (c4, 8192, .inl (fun _ => 0))), (q5, .inl (c5, 32768, .inl (fun _ => 0))), (q6, .inl (c6, 32768, .inl (fun _ => 0)))] A s H _ := hI
  refine z_putF hC hnm hI (w1 := [(h0, .inr (4, [.ref q1, .ref q2, .int 0, .int 0, .int 0, .int 0, .int 0, .int (-1), .ref q3, .ref q4, .ref q5, .ref q6, .null, .null])), (q1, .inl (c1, 262656, .inl (fun _ => 0))), (q2, .inl (c2, 262656, .inl (fun _ => 0))), (q3, .inl (c3, 8192, .inl (fun _ => 0))), (q4, .inl (c4, 8192, .inl (fun _ => 0))), (q5, .inl (c5, 32768, .inl (fun _ => 0))), (q6, .inl (c6, 32768, .inl (fun _ => 0)))]) (fun w h => List.mem_cons_of_mem _ (inlX2 w h)) tyX2_ok nmX2 0 rfl rfl 11 (by decide) (List.mem_cons_of_mem _ zw3_23) rfl rfl rfl rfl (Nat.le_of_ble_eq_true rfl) rfl dX2_init_56 (fun H locs hI => ?_)
  refine lv_aload_n hx hb dX2_init_59 rfl (lv_at hl 0 rfl) ?_
  refine lv_iconst (v := 4) hx hb dX2_init_60 (by decide) ?_
  refine z_newi hC hI (List.mem_cons_of_mem _ zw3_15) 4 (by decide +kernel) (by decide +kernel) (by decide +kernel) (Nat.le_of_ble_eq_true rfl) (Nat.le_of_ble_eq_true rfl) dX2_init_61 (fun q7 c7 H hI => ?_)
  have hI : zI st D [(c1, .int), (c2, .int), (c3, .int), (c4, .int), (c5, .int), (c6, .int), (c7, .int)] [(h0, .inr (4, [.ref q1, .ref q2, .int 0, .int 0, .int 0, .int 0, .int 0, .int (-1), .ref q3, .ref q4, .ref q5, .ref q6, .null, .null])), (q1, .inl (c1, 262656, .inl (fun _ => 0))), (q2, .inl (c2, 262656, .inl (fun _ => 0))), (q3, .inl (c3, 8192, .inl (fun _ => 0))), (q4, .inl (c4, 8192, .inl (fun _ => 0))), (q5, .inl (c5, 32768, .inl (fun _ => 0))), (q6, .inl (c6, 32768, .inl (fun _ => 0))), (q7, .inl (c7, 4, .inl (fun _ => 0)))] A s H _ := hI
  refine lv_dup hx hb dX2_init_63 rfl ?_
  refine lv_iconst (v := 0) hx hb dX2_init_64 (by decide) ?_
  refine lv_iconst (v := 0) hx hb dX2_init_65 (by decide) ?_
  refine z_iast (w1 := [(h0, .inr (4, [.ref q1, .ref q2, .int 0, .int 0, .int 0, .int 0, .int 0, .int (-1), .ref q3, .ref q4, .ref q5, .ref q6, .null, .null])), (q1, .inl (c1, 262656, .inl (fun _ => 0))), (q2, .inl (c2, 262656, .inl (fun _ => 0))), (q3, .inl (c3, 8192, .inl (fun _ => 0))), (q4, .inl (c4, 8192, .inl (fun _ => 0))), (q5, .inl (c5, 32768, .inl (fun _ => 0))), (q6, .inl (c6, 32768, .inl (fun _ => 0))), (q7, .inl (c7, 4, .inl (upd (fun _ => 0) 0 0)))]) hC hI 7 6 rfl rfl (by decide) rfl dX2_init_66 (fun H locs hI => ?_)
  refine lv_dup hx hb dX2_init_67 rfl ?_
  refine lv_iconst (v := 1) hx hb dX2_init_68 (by decide) ?_
  refine lv_iconst (v := 1) hx hb dX2_init_69 (by decide) ?_
  refine z_iast (w1 := [(h0, .inr (4, [.ref q1, .ref q2, .int 0, .int 0, .int 0, .int 0, .int 0, .int (-1), .ref q3, .ref q4, .ref q5, .ref q6, .null, .null])), (q1, .inl (c1, 262656, .inl (fun _ => 0))), (q2, .inl (c2, 262656, .inl (fun _ => 0))), (q3, .inl (c3, 8192, .inl (fun _ => 0))), (q4, .inl (c4, 8192, .inl (fun _ => 0))), (q5, .inl (c5, 32768, .inl (fun _ => 0))), (q6, .inl (c6, 32768, .inl (fun _ => 0))), (q7, .inl (c7, 4, .inl (upd (upd (fun _ => 0) 0 0) 1 1)))]) hC hI 7 6 rfl rfl (by decide) rfl dX2_init_70 (fun H locs hI => ?_)
  refine lv_dup hx hb dX2_init_71 rfl ?_
  refine lv_iconst (v := 2) hx hb dX2_init_72 (by decide) ?_
  refine lv_iconst (v := 2) hx hb dX2_init_73 (by decide) ?_
  refine z_iast (w1 := [(h0, .inr (4, [.ref q1, .ref q2, .int 0, .int 0, .int 0, .int 0, .int 0, .int (-1), .ref q3, .ref q4, .ref q5, .ref q6, .null, .null])), (q1, .inl (c1, 262656, .inl (fun _ => 0))), (q2, .inl (c2, 262656, .inl (fun _ => 0))), (q3, .inl (c3, 8192, .inl (fun _ => 0))), (q4, .inl (c4, 8192, .inl (fun _ => 0))), (q5, .inl (c5, 32768, .inl (fun _ => 0))), (q6, .inl (c6, 32768, .inl (fun _ => 0))), (q7, .inl (c7, 4, .inl (upd (upd (upd (fun _ => 0) 0 0) 1 1) 2 2)))]) hC hI 7 6 rfl rfl (by decide) rfl dX2_init_74 (fun H locs hI => ?_)
  refine lv_dup hx hb dX2_init_75 rfl ?_
  refine lv_iconst (v := 3) hx hb dX2_init_76 (by decide) ?_
  refine lv_iconst (v := 0) hx hb dX2_init_77 (by decide) ?_
  refine z_iast (w1 := [(h0, .inr (4, [.ref q1, .ref q2, .int 0, .int 0, .int 0, .int 0, .int 0, .int (-1), .ref q3, .ref q4, .ref q5, .ref q6, .null, .null])), (q1, .inl (c1, 262656, .inl (fun _ => 0))), (q2, .inl (c2, 262656, .inl (fun _ => 0))), (q3, .inl (c3, 8192, .inl (fun _ => 0))), (q4, .inl (c4, 8192, .inl (fun _ => 0))), (q5, .inl (c5, 32768, .inl (fun _ => 0))), (q6, .inl (c6, 32768, .inl (fun _ => 0))), (q7, .inl (c7, 4, .inl (upd (upd (upd (upd (fun _ => 0) 0 0) 1 1) 2 2) 3 0)))]) hC hI 7 6 rfl rfl (by decide) rfl dX2_init_78 (fun H locs hI => ?_)
  refine z_putF hC hnm hI (w1 := [(h0, .inr (4, [.ref q1, .ref q2, .int 0, .int 0, .int 0, .int 0, .int 0, .int (-1), .ref q3, .ref q4, .ref q5, .ref q6, .ref q7, .null])), (q1, .inl (c1, 262656, .inl (fun _ => 0))), (q2, .inl (c2, 262656, .inl (fun _ => 0))), (q3, .inl (c3, 8192, .inl (fun _ => 0))), (q4, .inl (c4, 8192, .inl (fun _ => 0))), (q5, .inl (c5, 32768, .inl (fun _ => 0))), (q6, .inl (c6, 32768, .inl (fun _ => 0))), (q7, .inl (c7, 4, .inl (upd (upd (upd (upd (fun _ => 0) 0 0) 1 1) 2 2) 3 0)))]) (fun w h => List.mem_cons_of_mem _ (inlX2 w h)) tyX2_ok nmX2 0 rfl rfl 12 (by decide) (List.mem_cons_of_mem _ zw4_0) rfl rfl rfl rfl (Nat.le_of_ble_eq_true rfl) rfl dX2_init_79 (fun H locs hI => ?_)
  refine lv_aload_n hx hb dX2_init_82 rfl (lv_at hl 0 rfl) ?_
  refine lv_iconst (v := 4) hx hb dX2_init_83 (by decide) ?_
  refine z_newi hC hI (List.mem_cons_of_mem _ zw3_15) 4 (by decide +kernel) (by decide +kernel) (by decide +kernel) (Nat.le_of_ble_eq_true rfl) (Nat.le_of_ble_eq_true rfl) dX2_init_84 (fun q8 c8 H hI => ?_)
  have hI : zI st D [(c1, .int), (c2, .int), (c3, .int), (c4, .int), (c5, .int), (c6, .int), (c7, .int), (c8, .int)] [(h0, .inr (4, [.ref q1, .ref q2, .int 0, .int 0, .int 0, .int 0, .int 0, .int (-1), .ref q3, .ref q4, .ref q5, .ref q6, .ref q7, .null])), (q1, .inl (c1, 262656, .inl (fun _ => 0))), (q2, .inl (c2, 262656, .inl (fun _ => 0))), (q3, .inl (c3, 8192, .inl (fun _ => 0))), (q4, .inl (c4, 8192, .inl (fun _ => 0))), (q5, .inl (c5, 32768, .inl (fun _ => 0))), (q6, .inl (c6, 32768, .inl (fun _ => 0))), (q7, .inl (c7, 4, .inl (upd (upd (upd (upd (fun _ => 0) 0 0) 1 1) 2 2) 3 0))), (q8, .inl (c8, 4, .inl (fun _ => 0)))] A s H _ := hI
  refine z_putF hC hnm hI (w1 := [(h0, .inr (4, [.ref q1, .ref q2, .int 0, .int 0, .int 0, .int 0, .int 0, .int (-1), .ref q3, .ref q4, .ref q5, .ref q6, .ref q7, .ref q8])), (q1, .inl (c1, 262656, .inl (fun _ => 0))), (q2, .inl (c2, 262656, .inl (fun _ => 0))), (q3, .inl (c3, 8192, .inl (fun _ => 0))), (q4, .inl (c4, 8192, .inl (fun _ => 0))), (q5, .inl (c5, 32768, .inl (fun _ => 0))), (q6, .inl (c6, 32768, .inl (fun _ => 0))), (q7, .inl (c7, 4, .inl (upd (upd (upd (upd (fun _ => 0) 0 0) 1 1) 2 2) 3 0))), (q8, .inl (c8, 4, .inl (fun _ => 0)))]) (fun w h => List.mem_cons_of_mem _ (inlX2 w h)) tyX2_ok nmX2 0 rfl rfl 13 (by decide) (List.mem_cons_of_mem _ zw4_1) rfl rfl rfl rfl (Nat.le_of_ble_eq_true rfl) rfl dX2_init_86 (fun H locs hI => ?_)
  obtain ⟨ad, had⟩ : ∃ f : Nat → Nat, f = (fun j => if j = 1 then h0 else if j = 13 then q1 else if j = 14 then q2 else if j = 15 then q3 else if j = 16 then q4 else if j = 17 then q5 else if j = 18 then q6 else if j = 19 then q7 else if j = 20 then q8 else 0) := ⟨_, rfl⟩
  obtain ⟨cy, hcy⟩ : ∃ f : Nat → ClassId, f = (fun j => if j = 13 then c1 else if j = 14 then c2 else if j = 15 then c3 else if j = 16 then c4 else if j = 17 then c5 else if j = 18 then c6 else if j = 19 then c7 else if j = 20 then c8 else 0) := ⟨_, rfl⟩
  have e1 : h0 = ad 1 := by rw [had]; rfl
  have e13 : q1 = ad 13 := by rw [had]; rfl
  have e14 : q2 = ad 14 := by rw [had]; rfl
  have e15 : q3 = ad 15 := by rw [had]; rfl
  have e16 : q4 = ad 16 := by rw [had]; rfl
  have e17 : q5 = ad 17 := by rw [had]; rfl
  have e18 : q6 = ad 18 := by rw [had]; rfl
  have e19 : q7 = ad 19 := by rw [had]; rfl
  have e20 : q8 = ad 20 := by rw [had]; rfl
  have hI : zI st D (tN1 cy) (wN1 ad cy (zsi (zsi (zsi (zsi (zsi (zsi zS0 1 1 1) 1 7 (-1)) 19 0 0) 19 1 1) 19 2 2) 19 3 0)) A s H locs := by rw [had, hcy]; exact hI
  exact z_nreturn0 (wn := fun ad cy => wN1 ad cy (zsi (zsi (zsi (zsi (zsi (zsi zS0 1 1 1) 1 7 (-1)) 19 0 0) 19 1 1) 19 2 2) 19 3 0)) (tn := tN1) (ex := fun f => h0 = f 1) hC ad cy hI e1 (Nat.le_refl _) (Nat.le_refl _) dX2_init_89
theorem hdX2_init : yX2_init.cls ≠ "java/lang/invoke/MethodHandle" ∧ yX2_init.cls ≠ "java/lang/invoke/VarHandle" ∧ (parseMethodDescriptor yX2_init.desc).map (fun d => d.parameters.length) = some 0 := by decide +kernel
noncomputable def rmX9_init : Room := { frames := 1, cells := 4, slots := 32960, locals := 20 }
noncomputable def wzX9_init : List Cond := .code yX9_init cX9_init 3 none :: wsL_law
noncomputable def kn_cX9_init : Nat := 0xb11a00b51c2a1600b51b2a1300b50abc60102a1000b50abc60102a0d00b50abc0040112a0900b50abc0040112a0100b72a
theorem zk_cX9_init : zkd cX9_init.data.toList kn_cX9_init = true := by decide +kernel
theorem zn_cX9_init : cX9_init.data.toList.length = 49 := by decide +kernel
theorem dX9_init_0 : decode cX9_init 0 = .ok (.aload_n 0, 1) := zo_42 (zkb zk_cX9_init zn_cX9_init rfl)
theorem dX9_init_1 : decode cX9_init 1 = .ok (.invokespecial 1, 3) := zo_183 (b1 := 0) (b2 := 1) (zkb3 zk_cX9_init zn_cX9_init rfl) rfl
theorem dX9_init_4 : decode cX9_init 4 = .ok (.aload_n 0, 1) := zo_42 (zkb zk_cX9_init zn_cX9_init rfl)
theorem dX9_init_5 : decode cX9_init 5 = .ok (.sipush 16384, 3) := zo_17 (b1 := 64) (b2 := 0) (zkb3 zk_cX9_init zn_cX9_init rfl) rfl
theorem dX9_init_8 : decode cX9_init 8 = .ok (.newarray .int, 2) := by decide +kernel
theorem dX9_init_10 : decode cX9_init 10 = .ok (.putfield 9, 3) := zo_181 (b1 := 0) (b2 := 9) (zkb3 zk_cX9_init zn_cX9_init rfl) rfl
theorem dX9_init_13 : decode cX9_init 13 = .ok (.aload_n 0, 1) := zo_42 (zkb zk_cX9_init zn_cX9_init rfl)
theorem dX9_init_14 : decode cX9_init 14 = .ok (.sipush 16384, 3) := zo_17 (b1 := 64) (b2 := 0) (zkb3 zk_cX9_init zn_cX9_init rfl) rfl
theorem dX9_init_17 : decode cX9_init 17 = .ok (.newarray .int, 2) := by decide +kernel
theorem dX9_init_19 : decode cX9_init 19 = .ok (.putfield 13, 3) := zo_181 (b1 := 0) (b2 := 13) (zkb3 zk_cX9_init zn_cX9_init rfl) rfl
theorem dX9_init_22 : decode cX9_init 22 = .ok (.aload_n 0, 1) := zo_42 (zkb zk_cX9_init zn_cX9_init rfl)
theorem dX9_init_23 : decode cX9_init 23 = .ok (.bipush 96, 2) := zo_16 (b1 := 96) (zkb2 zk_cX9_init zn_cX9_init rfl) rfl
theorem dX9_init_25 : decode cX9_init 25 = .ok (.newarray .int, 2) := by decide +kernel
theorem dX9_init_27 : decode cX9_init 27 = .ok (.putfield 16, 3) := zo_181 (b1 := 0) (b2 := 16) (zkb3 zk_cX9_init zn_cX9_init rfl) rfl
theorem dX9_init_30 : decode cX9_init 30 = .ok (.aload_n 0, 1) := zo_42 (zkb zk_cX9_init zn_cX9_init rfl)
theorem dX9_init_31 : decode cX9_init 31 = .ok (.bipush 96, 2) := zo_16 (b1 := 96) (zkb2 zk_cX9_init zn_cX9_init rfl) rfl
theorem dX9_init_33 : decode cX9_init 33 = .ok (.newarray .int, 2) := by decide +kernel
theorem dX9_init_35 : decode cX9_init 35 = .ok (.putfield 19, 3) := zo_181 (b1 := 0) (b2 := 19) (zkb3 zk_cX9_init zn_cX9_init rfl) rfl
theorem dX9_init_38 : decode cX9_init 38 = .ok (.aload_n 0, 1) := zo_42 (zkb zk_cX9_init zn_cX9_init rfl)
theorem dX9_init_39 : decode cX9_init 39 = .ok (.iload_n 1, 1) := zo_27 (zkb zk_cX9_init zn_cX9_init rfl)
theorem dX9_init_40 : decode cX9_init 40 = .ok (.putfield 22, 3) := zo_181 (b1 := 0) (b2 := 22) (zkb3 zk_cX9_init zn_cX9_init rfl) rfl
theorem dX9_init_43 : decode cX9_init 43 = .ok (.aload_n 0, 1) := zo_42 (zkb zk_cX9_init zn_cX9_init rfl)
theorem dX9_init_44 : decode cX9_init 44 = .ok (.iload_n 2, 1) := zo_28 (zkb zk_cX9_init zn_cX9_init rfl)
theorem dX9_init_45 : decode cX9_init 45 = .ok (.putfield 26, 3) := zo_181 (b1 := 0) (b2 := 26) (zkb3 zk_cX9_init zn_cX9_init rfl) rfl
theorem dX9_init_48 : decode cX9_init 48 = .ok (.return_, 1) := zo_177 (zkb zk_cX9_init zn_cX9_init rfl)
set_option maxRecDepth 20000 in
set_option maxHeartbeats 4000000 in
theorem cX9_init_met (st : Nat → Nat) (l : Launch) (D : va_G) (h0 : Nat) (x1 : Int32) (x2 : Int32) (hz1 : zbo x1 = true) (sz : Nat) : zN st l yX9_init wzX9_init rmX9_init [.ref h0, .int x1, .int x2] D [(h0, .inr (11, [.int 0, .int 0, .null, .null, .null, .null]))] sz (fun ad cy => wN2 ad cy (zsi (zsi zS0 2 0 x1) 2 1 x2)) tN2 (fun f => h0 = f 2) 4 32960 := by
  refine zN.of (cc := cX9_init) (maxL := 3) (by decide) rfl rfl (Nat.le_of_ble_eq_true rfl) (fun p e s m args below meth c hC hnm A hI ls hl => ?_)
  have hx := hC.1
  have hb := hC.2.1
  refine lv_aload_n hx hb dX9_init_0 rfl (lv_at hl 0 rfl) ?_
  refine z_objInit hC hl (List.mem_cons_of_mem _ zw4_5) (List.mem_cons_of_mem _ zw1_16) (List.mem_cons_of_mem _ zw1_17) dX9_init_1 (Nat.le_of_ble_eq_true rfl) (Nat.le_of_ble_eq_true rfl) ?_
  refine lv_aload_n hx hb dX9_init_4 rfl (lv_at hl 0 rfl) ?_
  refine lv_sipush (v := 16384) hx hb dX9_init_5 (by decide) ?_
  refine z_newi hC hI (List.mem_cons_of_mem _ zw3_15) 16384 (by decide +kernel) (by decide +kernel) (by decide +kernel) (Nat.le_of_ble_eq_true rfl) (Nat.le_of_ble_eq_true rfl) dX9_init_8 (fun q1 c1 H hI => ?_)
  have hI : zI st D [(c1, .int)] [(h0, .inr (11, [.int 0, .int 0, .null, .null, .null, .null])), (q1, .inl (c1, 16384, .inl (fun _ => 0)))] A s H _ := hI
  refine z_putF hC hnm hI (w1 := [(h0, .inr (11, [.int 0, .int 0, .ref q1, .null, .null, .null])), (q1, .inl (c1, 16384, .inl (fun _ => 0)))]) (fun w h => List.mem_cons_of_mem _ (inlX9 w h)) tyX9_ok nmX9 0 rfl rfl 2 (by decide) (List.mem_cons_of_mem _ zw4_6) rfl rfl rfl rfl (Nat.le_of_ble_eq_true rfl) rfl dX9_init_10 (fun H locs hI => ?_)
  refine lv_aload_n hx hb dX9_init_13 rfl (lv_at hl 0 rfl) ?_
  refine lv_sipush (v := 16384) hx hb dX9_init_14 (by decide) ?_
  refine z_newi hC hI (List.mem_cons_of_mem _ zw3_15) 16384 (by decide +kernel) (by decide +kernel) (by decide +kernel) (Nat.le_of_ble_eq_true rfl) (Nat.le_of_ble_eq_true rfl) dX9_init_17 (fun q2 c2 H hI => ?_)
  have hI : zI st D [(c1, .int), (c2, .int)] [(h0, .inr (11, [.int 0, .int 0, .ref q1, .null, .null, .null])), (q1, .inl (c1, 16384, .inl (fun _ => 0))), (q2, .inl (c2, 16384, .inl (fun _ => 0)))] A s H _ := hI
  refine z_putF hC hnm hI (w1 := [(h0, .inr (11, [.int 0, .int 0, .ref q1, .ref q2, .null, .null])), (q1, .inl (c1, 16384, .inl (fun _ => 0))), (q2, .inl (c2, 16384, .inl (fun _ => 0)))]) (fun w h => List.mem_cons_of_mem _ (inlX9 w h)) tyX9_ok nmX9 0 rfl rfl 3 (by decide) (List.mem_cons_of_mem _ zw4_7) rfl rfl rfl rfl (Nat.le_of_ble_eq_true rfl) rfl dX9_init_19 (fun H locs hI => ?_)
  refine lv_aload_n hx hb dX9_init_22 rfl (lv_at hl 0 rfl) ?_
  refine lv_bipush (v := 96) hx hb dX9_init_23 (by decide) ?_
  refine z_newi hC hI (List.mem_cons_of_mem _ zw3_15) 96 (by decide +kernel) (by decide +kernel) (by decide +kernel) (Nat.le_of_ble_eq_true rfl) (Nat.le_of_ble_eq_true rfl) dX9_init_25 (fun q3 c3 H hI => ?_)
  have hI : zI st D [(c1, .int), (c2, .int), (c3, .int)] [(h0, .inr (11, [.int 0, .int 0, .ref q1, .ref q2, .null, .null])), (q1, .inl (c1, 16384, .inl (fun _ => 0))), (q2, .inl (c2, 16384, .inl (fun _ => 0))), (q3, .inl (c3, 96, .inl (fun _ => 0)))] A s H _ := hI
  refine z_putF hC hnm hI (w1 := [(h0, .inr (11, [.int 0, .int 0, .ref q1, .ref q2, .ref q3, .null])), (q1, .inl (c1, 16384, .inl (fun _ => 0))), (q2, .inl (c2, 16384, .inl (fun _ => 0))), (q3, .inl (c3, 96, .inl (fun _ => 0)))]) (fun w h => List.mem_cons_of_mem _ (inlX9 w h)) tyX9_ok nmX9 0 rfl rfl 4 (by decide) (List.mem_cons_of_mem _ zw4_8) rfl rfl rfl rfl (Nat.le_of_ble_eq_true rfl) rfl dX9_init_27 (fun H locs hI => ?_)
  refine lv_aload_n hx hb dX9_init_30 rfl (lv_at hl 0 rfl) ?_
  refine lv_bipush (v := 96) hx hb dX9_init_31 (by decide) ?_
  refine z_newi hC hI (List.mem_cons_of_mem _ zw3_15) 96 (by decide +kernel) (by decide +kernel) (by decide +kernel) (Nat.le_of_ble_eq_true rfl) (Nat.le_of_ble_eq_true rfl) dX9_init_33 (fun q4 c4 H hI => ?_)
  have hI : zI st D [(c1, .int), (c2, .int), (c3, .int), (c4, .int)] [(h0, .inr (11, [.int 0, .int 0, .ref q1, .ref q2, .ref q3, .null])), (q1, .inl (c1, 16384, .inl (fun _ => 0))), (q2, .inl (c2, 16384, .inl (fun _ => 0))), (q3, .inl (c3, 96, .inl (fun _ => 0))), (q4, .inl (c4, 96, .inl (fun _ => 0)))] A s H _ := hI
  refine z_putF hC hnm hI (w1 := [(h0, .inr (11, [.int 0, .int 0, .ref q1, .ref q2, .ref q3, .ref q4])), (q1, .inl (c1, 16384, .inl (fun _ => 0))), (q2, .inl (c2, 16384, .inl (fun _ => 0))), (q3, .inl (c3, 96, .inl (fun _ => 0))), (q4, .inl (c4, 96, .inl (fun _ => 0)))]) (fun w h => List.mem_cons_of_mem _ (inlX9 w h)) tyX9_ok nmX9 0 rfl rfl 5 (by decide) (List.mem_cons_of_mem _ zw4_9) rfl rfl rfl rfl (Nat.le_of_ble_eq_true rfl) rfl dX9_init_35 (fun H locs hI => ?_)
  refine lv_aload_n hx hb dX9_init_38 rfl (lv_at hl 0 rfl) ?_
  refine lv_iload_n hx hb dX9_init_39 rfl (lv_at hl 1 rfl) ?_
  refine z_putF hC hnm hI (w1 := [(h0, .inr (11, [.int x1, .int 0, .ref q1, .ref q2, .ref q3, .ref q4])), (q1, .inl (c1, 16384, .inl (fun _ => 0))), (q2, .inl (c2, 16384, .inl (fun _ => 0))), (q3, .inl (c3, 96, .inl (fun _ => 0))), (q4, .inl (c4, 96, .inl (fun _ => 0)))]) (fun w h => List.mem_cons_of_mem _ (inlX9 w h)) tyX9_ok nmX9 0 rfl rfl 0 (by decide) (List.mem_cons_of_mem _ zw4_10) rfl rfl (zbo_n hz1) (zbo_f hz1) (Nat.le_of_ble_eq_true rfl) rfl dX9_init_40 (fun H locs hI => ?_)
  refine lv_aload_n hx hb dX9_init_43 rfl (lv_at hl 0 rfl) ?_
  refine lv_iload_n hx hb dX9_init_44 rfl (lv_at hl 2 rfl) ?_
  refine z_putF hC hnm hI (w1 := [(h0, .inr (11, [.int x1, .int x2, .ref q1, .ref q2, .ref q3, .ref q4])), (q1, .inl (c1, 16384, .inl (fun _ => 0))), (q2, .inl (c2, 16384, .inl (fun _ => 0))), (q3, .inl (c3, 96, .inl (fun _ => 0))), (q4, .inl (c4, 96, .inl (fun _ => 0)))]) (fun w h => List.mem_cons_of_mem _ (inlX9 w h)) tyX9_ok nmX9 0 rfl rfl 1 (by decide) (List.mem_cons_of_mem _ zw4_11) rfl rfl rfl rfl (Nat.le_of_ble_eq_true rfl) rfl dX9_init_45 (fun H locs hI => ?_)
  obtain ⟨ad, had⟩ : ∃ f : Nat → Nat, f = (fun j => if j = 2 then h0 else if j = 21 then q1 else if j = 22 then q2 else if j = 23 then q3 else if j = 24 then q4 else 0) := ⟨_, rfl⟩
  obtain ⟨cy, hcy⟩ : ∃ f : Nat → ClassId, f = (fun j => if j = 21 then c1 else if j = 22 then c2 else if j = 23 then c3 else if j = 24 then c4 else 0) := ⟨_, rfl⟩
  have e2 : h0 = ad 2 := by rw [had]; rfl
  have e21 : q1 = ad 21 := by rw [had]; rfl
  have e22 : q2 = ad 22 := by rw [had]; rfl
  have e23 : q3 = ad 23 := by rw [had]; rfl
  have e24 : q4 = ad 24 := by rw [had]; rfl
  have hI : zI st D (tN2 cy) (wN2 ad cy (zsi (zsi zS0 2 0 x1) 2 1 x2)) A s H locs := by rw [had, hcy]; exact hI
  exact z_nreturn0 (wn := fun ad cy => wN2 ad cy (zsi (zsi zS0 2 0 x1) 2 1 x2)) (tn := tN2) (ex := fun f => h0 = f 2) hC ad cy hI e2 (Nat.le_refl _) (Nat.le_refl _) dX9_init_48
theorem hdX9_init : yX9_init.cls ≠ "java/lang/invoke/MethodHandle" ∧ yX9_init.cls ≠ "java/lang/invoke/VarHandle" ∧ (parseMethodDescriptor yX9_init.desc).map (fun d => d.parameters.length) = some 2 := by decide +kernel
noncomputable def rmX3_init : Room := { frames := 1, cells := 5, slots := 123424, locals := 20 }
noncomputable def wzX3_init : List Cond := .code yX3_init cX3_init 3 none :: wsL_law
noncomputable def kn_cX3_init : Nat := 0xb11e00b51c2a1a00b52b2a1700b50abc20102a1400b50abc0001112a1100b50abc0001112a0e00b50abc09122a0a00b50abc09122a0100b72a
theorem zk_cX3_init : zkd cX3_init.data.toList kn_cX3_init = true := by decide +kernel
theorem zn_cX3_init : cX3_init.data.toList.length = 57 := by decide +kernel
theorem dX3_init_0 : decode cX3_init 0 = .ok (.aload_n 0, 1) := zo_42 (zkb zk_cX3_init zn_cX3_init rfl)
theorem dX3_init_1 : decode cX3_init 1 = .ok (.invokespecial 1, 3) := zo_183 (b1 := 0) (b2 := 1) (zkb3 zk_cX3_init zn_cX3_init rfl) rfl
theorem dX3_init_4 : decode cX3_init 4 = .ok (.aload_n 0, 1) := zo_42 (zkb zk_cX3_init zn_cX3_init rfl)
theorem dX3_init_5 : decode cX3_init 5 = .ok (.ldc 9, 2) := zo_18 (b1 := 9) (zkb2 zk_cX3_init zn_cX3_init rfl)
theorem dX3_init_7 : decode cX3_init 7 = .ok (.newarray .int, 2) := by decide +kernel
theorem dX3_init_9 : decode cX3_init 9 = .ok (.putfield 10, 3) := zo_181 (b1 := 0) (b2 := 10) (zkb3 zk_cX3_init zn_cX3_init rfl) rfl
theorem dX3_init_12 : decode cX3_init 12 = .ok (.aload_n 0, 1) := zo_42 (zkb zk_cX3_init zn_cX3_init rfl)
theorem dX3_init_13 : decode cX3_init 13 = .ok (.ldc 9, 2) := zo_18 (b1 := 9) (zkb2 zk_cX3_init zn_cX3_init rfl)
theorem dX3_init_15 : decode cX3_init 15 = .ok (.newarray .int, 2) := by decide +kernel
theorem dX3_init_17 : decode cX3_init 17 = .ok (.putfield 14, 3) := zo_181 (b1 := 0) (b2 := 14) (zkb3 zk_cX3_init zn_cX3_init rfl) rfl
theorem dX3_init_20 : decode cX3_init 20 = .ok (.aload_n 0, 1) := zo_42 (zkb zk_cX3_init zn_cX3_init rfl)
theorem dX3_init_21 : decode cX3_init 21 = .ok (.sipush 256, 3) := zo_17 (b1 := 1) (b2 := 0) (zkb3 zk_cX3_init zn_cX3_init rfl) rfl
theorem dX3_init_24 : decode cX3_init 24 = .ok (.newarray .int, 2) := by decide +kernel
theorem dX3_init_26 : decode cX3_init 26 = .ok (.putfield 17, 3) := zo_181 (b1 := 0) (b2 := 17) (zkb3 zk_cX3_init zn_cX3_init rfl) rfl
theorem dX3_init_29 : decode cX3_init 29 = .ok (.aload_n 0, 1) := zo_42 (zkb zk_cX3_init zn_cX3_init rfl)
theorem dX3_init_30 : decode cX3_init 30 = .ok (.sipush 256, 3) := zo_17 (b1 := 1) (b2 := 0) (zkb3 zk_cX3_init zn_cX3_init rfl) rfl
theorem dX3_init_33 : decode cX3_init 33 = .ok (.newarray .int, 2) := by decide +kernel
theorem dX3_init_35 : decode cX3_init 35 = .ok (.putfield 20, 3) := zo_181 (b1 := 0) (b2 := 20) (zkb3 zk_cX3_init zn_cX3_init rfl) rfl
theorem dX3_init_38 : decode cX3_init 38 = .ok (.aload_n 0, 1) := zo_42 (zkb zk_cX3_init zn_cX3_init rfl)
theorem dX3_init_39 : decode cX3_init 39 = .ok (.bipush 32, 2) := zo_16 (b1 := 32) (zkb2 zk_cX3_init zn_cX3_init rfl) rfl
theorem dX3_init_41 : decode cX3_init 41 = .ok (.newarray .int, 2) := by decide +kernel
theorem dX3_init_43 : decode cX3_init 43 = .ok (.putfield 23, 3) := zo_181 (b1 := 0) (b2 := 23) (zkb3 zk_cX3_init zn_cX3_init rfl) rfl
theorem dX3_init_46 : decode cX3_init 46 = .ok (.aload_n 0, 1) := zo_42 (zkb zk_cX3_init zn_cX3_init rfl)
theorem dX3_init_47 : decode cX3_init 47 = .ok (.aload_n 1, 1) := zo_43 (zkb zk_cX3_init zn_cX3_init rfl)
theorem dX3_init_48 : decode cX3_init 48 = .ok (.putfield 26, 3) := zo_181 (b1 := 0) (b2 := 26) (zkb3 zk_cX3_init zn_cX3_init rfl) rfl
theorem dX3_init_51 : decode cX3_init 51 = .ok (.aload_n 0, 1) := zo_42 (zkb zk_cX3_init zn_cX3_init rfl)
theorem dX3_init_52 : decode cX3_init 52 = .ok (.iload_n 2, 1) := zo_28 (zkb zk_cX3_init zn_cX3_init rfl)
theorem dX3_init_53 : decode cX3_init 53 = .ok (.putfield 30, 3) := zo_181 (b1 := 0) (b2 := 30) (zkb3 zk_cX3_init zn_cX3_init rfl) rfl
theorem dX3_init_56 : decode cX3_init 56 = .ok (.return_, 1) := zo_177 (zkb zk_cX3_init zn_cX3_init rfl)
set_option maxRecDepth 20000 in
set_option maxHeartbeats 4000000 in
theorem cX3_init_met (st : Nat → Nat) (l : Launch) (D : va_G) (h0 : Nat) (a2 : Nat) (x2 : Int32) (hz2 : zbo x2 = true) (sz : Nat) : zN st l yX3_init wzX3_init rmX3_init [.ref h0, .ref a2, .int x2] D [(h0, .inr (5, [.null, .int 0, .null, .null, .null, .null, .null, .int 0, .int 0]))] sz (fun ad cy => wN3 ad cy (zsi zS0 3 1 x2)) tN3 (fun f => h0 = f 3 ∧ a2 = f 2) 5 123424 := by
  refine zN.of (cc := cX3_init) (maxL := 3) (by decide) rfl rfl (Nat.le_of_ble_eq_true rfl) (fun p e s m args below meth c hC hnm A hI ls hl => ?_)
  have hx := hC.1
  have hb := hC.2.1
  refine lv_aload_n hx hb dX3_init_0 rfl (lv_at hl 0 rfl) ?_
  refine z_objInit hC hl (List.mem_cons_of_mem _ zw4_15) (List.mem_cons_of_mem _ zw1_16) (List.mem_cons_of_mem _ zw1_17) dX3_init_1 (Nat.le_of_ble_eq_true rfl) (Nat.le_of_ble_eq_true rfl) ?_
  refine lv_aload_n hx hb dX3_init_4 rfl (lv_at hl 0 rfl) ?_
  refine lv_ldc (v := 61440) hx hb hC.2.2.2.1 (hC.2.2.2.2.1 _ (List.mem_cons_of_mem _ zw4_16)) dX3_init_5 ?_
  refine z_newi hC hI (List.mem_cons_of_mem _ zw3_15) 61440 (by decide +kernel) (by decide +kernel) (by decide +kernel) (Nat.le_of_ble_eq_true rfl) (Nat.le_of_ble_eq_true rfl) dX3_init_7 (fun q1 c1 H hI => ?_)
  have hI : zI st D [(c1, .int)] [(h0, .inr (5, [.null, .int 0, .null, .null, .null, .null, .null, .int 0, .int 0])), (q1, .inl (c1, 61440, .inl (fun _ => 0)))] A s H _ := hI
  refine z_putF hC hnm hI (w1 := [(h0, .inr (5, [.null, .int 0, .ref q1, .null, .null, .null, .null, .int 0, .int 0])), (q1, .inl (c1, 61440, .inl (fun _ => 0)))]) (fun w h => List.mem_cons_of_mem _ (inlX3 w h)) tyX3_ok nmX3 0 rfl rfl 2 (by decide) (List.mem_cons_of_mem _ zw4_17) rfl rfl rfl rfl (Nat.le_of_ble_eq_true rfl) rfl dX3_init_9 (fun H locs hI => ?_)
  refine lv_aload_n hx hb dX3_init_12 rfl (lv_at hl 0 rfl) ?_
  refine lv_ldc (v := 61440) hx hb hC.2.2.2.1 (hC.2.2.2.2.1 _ (List.mem_cons_of_mem _ zw4_16)) dX3_init_13 ?_
  refine z_newi hC hI (List.mem_cons_of_mem _ zw3_15) 61440 (by decide +kernel) (by decide +kernel) (by decide +kernel) (Nat.le_of_ble_eq_true rfl) (Nat.le_of_ble_eq_true rfl) dX3_init_15 (fun q2 c2 H hI => ?_)
  have hI : zI st D [(c1, .int), (c2, .int)] [(h0, .inr (5, [.null, .int 0, .ref q1, .null, .null, .null, .null, .int 0, .int 0])), (q1, .inl (c1, 61440, .inl (fun _ => 0))), (q2, .inl (c2, 61440, .inl (fun _ => 0)))] A s H _ := hI
  refine z_putF hC hnm hI (w1 := [(h0, .inr (5, [.null, .int 0, .ref q1, .ref q2, .null, .null, .null, .int 0, .int 0])), (q1, .inl (c1, 61440, .inl (fun _ => 0))), (q2, .inl (c2, 61440, .inl (fun _ => 0)))]) (fun w h => List.mem_cons_of_mem _ (inlX3 w h)) tyX3_ok nmX3 0 rfl rfl 3 (by decide) (List.mem_cons_of_mem _ zw4_18) rfl rfl rfl rfl (Nat.le_of_ble_eq_true rfl) rfl dX3_init_17 (fun H locs hI => ?_)
  refine lv_aload_n hx hb dX3_init_20 rfl (lv_at hl 0 rfl) ?_
  refine lv_sipush (v := 256) hx hb dX3_init_21 (by decide) ?_
  refine z_newi hC hI (List.mem_cons_of_mem _ zw3_15) 256 (by decide +kernel) (by decide +kernel) (by decide +kernel) (Nat.le_of_ble_eq_true rfl) (Nat.le_of_ble_eq_true rfl) dX3_init_24 (fun q3 c3 H hI => ?_)
  have hI : zI st D [(c1, .int), (c2, .int), (c3, .int)] [(h0, .inr (5, [.null, .int 0, .ref q1, .ref q2, .null, .null, .null, .int 0, .int 0])), (q1, .inl (c1, 61440, .inl (fun _ => 0))), (q2, .inl (c2, 61440, .inl (fun _ => 0))), (q3, .inl (c3, 256, .inl (fun _ => 0)))] A s H _ := hI
  refine z_putF hC hnm hI (w1 := [(h0, .inr (5, [.null, .int 0, .ref q1, .ref q2, .ref q3, .null, .null, .int 0, .int 0])), (q1, .inl (c1, 61440, .inl (fun _ => 0))), (q2, .inl (c2, 61440, .inl (fun _ => 0))), (q3, .inl (c3, 256, .inl (fun _ => 0)))]) (fun w h => List.mem_cons_of_mem _ (inlX3 w h)) tyX3_ok nmX3 0 rfl rfl 4 (by decide) (List.mem_cons_of_mem _ zw4_19) rfl rfl rfl rfl (Nat.le_of_ble_eq_true rfl) rfl dX3_init_26 (fun H locs hI => ?_)
  refine lv_aload_n hx hb dX3_init_29 rfl (lv_at hl 0 rfl) ?_
  refine lv_sipush (v := 256) hx hb dX3_init_30 (by decide) ?_
  refine z_newi hC hI (List.mem_cons_of_mem _ zw3_15) 256 (by decide +kernel) (by decide +kernel) (by decide +kernel) (Nat.le_of_ble_eq_true rfl) (Nat.le_of_ble_eq_true rfl) dX3_init_33 (fun q4 c4 H hI => ?_)
  have hI : zI st D [(c1, .int), (c2, .int), (c3, .int), (c4, .int)] [(h0, .inr (5, [.null, .int 0, .ref q1, .ref q2, .ref q3, .null, .null, .int 0, .int 0])), (q1, .inl (c1, 61440, .inl (fun _ => 0))), (q2, .inl (c2, 61440, .inl (fun _ => 0))), (q3, .inl (c3, 256, .inl (fun _ => 0))), (q4, .inl (c4, 256, .inl (fun _ => 0)))] A s H _ := hI
  refine z_putF hC hnm hI (w1 := [(h0, .inr (5, [.null, .int 0, .ref q1, .ref q2, .ref q3, .ref q4, .null, .int 0, .int 0])), (q1, .inl (c1, 61440, .inl (fun _ => 0))), (q2, .inl (c2, 61440, .inl (fun _ => 0))), (q3, .inl (c3, 256, .inl (fun _ => 0))), (q4, .inl (c4, 256, .inl (fun _ => 0)))]) (fun w h => List.mem_cons_of_mem _ (inlX3 w h)) tyX3_ok nmX3 0 rfl rfl 5 (by decide) (List.mem_cons_of_mem _ zw4_20) rfl rfl rfl rfl (Nat.le_of_ble_eq_true rfl) rfl dX3_init_35 (fun H locs hI => ?_)
  refine lv_aload_n hx hb dX3_init_38 rfl (lv_at hl 0 rfl) ?_
  refine lv_bipush (v := 32) hx hb dX3_init_39 (by decide) ?_
  refine z_newi hC hI (List.mem_cons_of_mem _ zw3_15) 32 (by decide +kernel) (by decide +kernel) (by decide +kernel) (Nat.le_of_ble_eq_true rfl) (Nat.le_of_ble_eq_true rfl) dX3_init_41 (fun q5 c5 H hI => ?_)
  have hI : zI st D [(c1, .int), (c2, .int), (c3, .int), (c4, .int), (c5, .int)] [(h0, .inr (5, [.null, .int 0, .ref q1, .ref q2, .ref q3, .ref q4, .null, .int 0, .int 0])), (q1, .inl (c1, 61440, .inl (fun _ => 0))), (q2, .inl (c2, 61440, .inl (fun _ => 0))), (q3, .inl (c3, 256, .inl (fun _ => 0))), (q4, .inl (c4, 256, .inl (fun _ => 0))), (q5, .inl (c5, 32, .inl (fun _ => 0)))] A s H _ := hI
  refine z_putF hC hnm hI (w1 := [(h0, .inr (5, [.null, .int 0, .ref q1, .ref q2, .ref q3, .ref q4, .ref q5, .int 0, .int 0])), (q1, .inl (c1, 61440, .inl (fun _ => 0))), (q2, .inl (c2, 61440, .inl (fun _ => 0))), (q3, .inl (c3, 256, .inl (fun _ => 0))), (q4, .inl (c4, 256, .inl (fun _ => 0))), (q5, .inl (c5, 32, .inl (fun _ => 0)))]) (fun w h => List.mem_cons_of_mem _ (inlX3 w h)) tyX3_ok nmX3 0 rfl rfl 6 (by decide) (List.mem_cons_of_mem _ zw4_21) rfl rfl rfl rfl (Nat.le_of_ble_eq_true rfl) rfl dX3_init_43 (fun H locs hI => ?_)
  refine lv_aload_n hx hb dX3_init_46 rfl (lv_at hl 0 rfl) ?_
  refine lv_aload_n hx hb dX3_init_47 rfl (lv_at hl 1 rfl) ?_
  refine z_putF hC hnm hI (w1 := [(h0, .inr (5, [.ref a2, .int 0, .ref q1, .ref q2, .ref q3, .ref q4, .ref q5, .int 0, .int 0])), (q1, .inl (c1, 61440, .inl (fun _ => 0))), (q2, .inl (c2, 61440, .inl (fun _ => 0))), (q3, .inl (c3, 256, .inl (fun _ => 0))), (q4, .inl (c4, 256, .inl (fun _ => 0))), (q5, .inl (c5, 32, .inl (fun _ => 0)))]) (fun w h => List.mem_cons_of_mem _ (inlX3 w h)) tyX3_ok nmX3 0 rfl rfl 0 (by decide) (List.mem_cons_of_mem _ zw4_22) rfl rfl rfl rfl (Nat.le_of_ble_eq_true rfl) rfl dX3_init_48 (fun H locs hI => ?_)
  refine lv_aload_n hx hb dX3_init_51 rfl (lv_at hl 0 rfl) ?_
  refine lv_iload_n hx hb dX3_init_52 rfl (lv_at hl 2 rfl) ?_
  refine z_putF hC hnm hI (w1 := [(h0, .inr (5, [.ref a2, .int x2, .ref q1, .ref q2, .ref q3, .ref q4, .ref q5, .int 0, .int 0])), (q1, .inl (c1, 61440, .inl (fun _ => 0))), (q2, .inl (c2, 61440, .inl (fun _ => 0))), (q3, .inl (c3, 256, .inl (fun _ => 0))), (q4, .inl (c4, 256, .inl (fun _ => 0))), (q5, .inl (c5, 32, .inl (fun _ => 0)))]) (fun w h => List.mem_cons_of_mem _ (inlX3 w h)) tyX3_ok nmX3 0 rfl rfl 1 (by decide) (List.mem_cons_of_mem _ zw4_23) rfl rfl (zbo_n hz2) (zbo_f hz2) (Nat.le_of_ble_eq_true rfl) rfl dX3_init_53 (fun H locs hI => ?_)
  obtain ⟨ad, had⟩ : ∃ f : Nat → Nat, f = (fun j => if j = 3 then h0 else if j = 25 then q1 else if j = 26 then q2 else if j = 27 then q3 else if j = 28 then q4 else if j = 29 then q5 else if j = 2 then a2 else 0) := ⟨_, rfl⟩
  obtain ⟨cy, hcy⟩ : ∃ f : Nat → ClassId, f = (fun j => if j = 25 then c1 else if j = 26 then c2 else if j = 27 then c3 else if j = 28 then c4 else if j = 29 then c5 else 0) := ⟨_, rfl⟩
  have e3 : h0 = ad 3 := by rw [had]; rfl
  have e25 : q1 = ad 25 := by rw [had]; rfl
  have e26 : q2 = ad 26 := by rw [had]; rfl
  have e27 : q3 = ad 27 := by rw [had]; rfl
  have e28 : q4 = ad 28 := by rw [had]; rfl
  have e29 : q5 = ad 29 := by rw [had]; rfl
  have e2 : a2 = ad 2 := by rw [had]; rfl
  have hI : zI st D (tN3 cy) (wN3 ad cy (zsi zS0 3 1 x2)) A s H locs := by rw [had, hcy]; exact hI
  exact z_nreturn0 (wn := fun ad cy => wN3 ad cy (zsi zS0 3 1 x2)) (tn := tN3) (ex := fun f => h0 = f 3 ∧ a2 = f 2) hC ad cy hI ⟨e3, e2⟩ (Nat.le_refl _) (Nat.le_refl _) dX3_init_56
theorem hdX3_init : yX3_init.cls ≠ "java/lang/invoke/MethodHandle" ∧ yX3_init.cls ≠ "java/lang/invoke/VarHandle" ∧ (parseMethodDescriptor yX3_init.desc).map (fun d => d.parameters.length) = some 2 := by decide +kernel
noncomputable def rmX7_init : Room := { frames := 3, cells := 2, slots := 38, locals := 66 }
noncomputable def wzX7_init : List Cond := .code yX7_init cX7_init 1 none :: wsL_law
noncomputable def kn_cX7_init : Nat := 0xb11000b62a0d00b50abc13102a0900b50abc13102a0100b72a
theorem zk_cX7_init : zkd cX7_init.data.toList kn_cX7_init = true := by decide +kernel
theorem zn_cX7_init : cX7_init.data.toList.length = 25 := by decide +kernel
theorem dX7_init_0 : decode cX7_init 0 = .ok (.aload_n 0, 1) := zo_42 (zkb zk_cX7_init zn_cX7_init rfl)
theorem dX7_init_1 : decode cX7_init 1 = .ok (.invokespecial 1, 3) := zo_183 (b1 := 0) (b2 := 1) (zkb3 zk_cX7_init zn_cX7_init rfl) rfl
theorem dX7_init_4 : decode cX7_init 4 = .ok (.aload_n 0, 1) := zo_42 (zkb zk_cX7_init zn_cX7_init rfl)
theorem dX7_init_5 : decode cX7_init 5 = .ok (.bipush 19, 2) := zo_16 (b1 := 19) (zkb2 zk_cX7_init zn_cX7_init rfl) rfl
theorem dX7_init_7 : decode cX7_init 7 = .ok (.newarray .int, 2) := by decide +kernel
theorem dX7_init_9 : decode cX7_init 9 = .ok (.putfield 9, 3) := zo_181 (b1 := 0) (b2 := 9) (zkb3 zk_cX7_init zn_cX7_init rfl) rfl
theorem dX7_init_12 : decode cX7_init 12 = .ok (.aload_n 0, 1) := zo_42 (zkb zk_cX7_init zn_cX7_init rfl)
theorem dX7_init_13 : decode cX7_init 13 = .ok (.bipush 19, 2) := zo_16 (b1 := 19) (zkb2 zk_cX7_init zn_cX7_init rfl) rfl
theorem dX7_init_15 : decode cX7_init 15 = .ok (.newarray .int, 2) := by decide +kernel
theorem dX7_init_17 : decode cX7_init 17 = .ok (.putfield 13, 3) := zo_181 (b1 := 0) (b2 := 13) (zkb3 zk_cX7_init zn_cX7_init rfl) rfl
theorem dX7_init_20 : decode cX7_init 20 = .ok (.aload_n 0, 1) := zo_42 (zkb zk_cX7_init zn_cX7_init rfl)
theorem dX7_init_21 : decode cX7_init 21 = .ok (.invokevirtual 16, 3) := zo_182 (b1 := 0) (b2 := 16) (zkb3 zk_cX7_init zn_cX7_init rfl) rfl
theorem dX7_init_24 : decode cX7_init 24 = .ok (.return_, 1) := zo_177 (zkb zk_cX7_init zn_cX7_init rfl)
set_option maxRecDepth 20000 in
set_option maxHeartbeats 4000000 in
theorem cX7_init_met (st : Nat → Nat) (l : Launch) (D : va_G) (h0 : Nat)  (σ1 : zSt) (hf : fX7_clear zS0 = some σ1) (sz : Nat) : zN st l yX7_init wzX7_init rmX7_init [.ref h0] D [(h0, .inr (9, [.null, .null]))] sz (fun ad cy => wN4 ad cy σ1) tN4 (fun f => h0 = f 4) 2 38 := by
  refine zN.of (cc := cX7_init) (maxL := 1) (by decide) rfl rfl (Nat.le_of_ble_eq_true rfl) (fun p e s m args below meth c hC hnm A hI ls hl => ?_)
  have hx := hC.1
  have hb := hC.2.1
  refine lv_aload_n hx hb dX7_init_0 rfl (lv_at hl 0 rfl) ?_
  refine z_objInit hC hl (List.mem_cons_of_mem _ zw5_3) (List.mem_cons_of_mem _ zw1_16) (List.mem_cons_of_mem _ zw1_17) dX7_init_1 (Nat.le_of_ble_eq_true rfl) (Nat.le_of_ble_eq_true rfl) ?_
  refine lv_aload_n hx hb dX7_init_4 rfl (lv_at hl 0 rfl) ?_
  refine lv_bipush (v := 19) hx hb dX7_init_5 (by decide) ?_
  refine z_newi hC hI (List.mem_cons_of_mem _ zw3_15) 19 (by decide +kernel) (by decide +kernel) (by decide +kernel) (Nat.le_of_ble_eq_true rfl) (Nat.le_of_ble_eq_true rfl) dX7_init_7 (fun q1 c1 H hI => ?_)
  have hI : zI st D [(c1, .int)] [(h0, .inr (9, [.null, .null])), (q1, .inl (c1, 19, .inl (fun _ => 0)))] A s H _ := hI
  refine z_putF hC hnm hI (w1 := [(h0, .inr (9, [.ref q1, .null])), (q1, .inl (c1, 19, .inl (fun _ => 0)))]) (fun w h => List.mem_cons_of_mem _ (inlX7 w h)) tyX7_ok nmX7 0 rfl rfl 0 (by decide) (List.mem_cons_of_mem _ zw5_4) rfl rfl rfl rfl (Nat.le_of_ble_eq_true rfl) rfl dX7_init_9 (fun H locs hI => ?_)
  refine lv_aload_n hx hb dX7_init_12 rfl (lv_at hl 0 rfl) ?_
  refine lv_bipush (v := 19) hx hb dX7_init_13 (by decide) ?_
  refine z_newi hC hI (List.mem_cons_of_mem _ zw3_15) 19 (by decide +kernel) (by decide +kernel) (by decide +kernel) (Nat.le_of_ble_eq_true rfl) (Nat.le_of_ble_eq_true rfl) dX7_init_15 (fun q2 c2 H hI => ?_)
  have hI : zI st D [(c1, .int), (c2, .int)] [(h0, .inr (9, [.ref q1, .null])), (q1, .inl (c1, 19, .inl (fun _ => 0))), (q2, .inl (c2, 19, .inl (fun _ => 0)))] A s H _ := hI
  refine z_putF hC hnm hI (w1 := [(h0, .inr (9, [.ref q1, .ref q2])), (q1, .inl (c1, 19, .inl (fun _ => 0))), (q2, .inl (c2, 19, .inl (fun _ => 0)))]) (fun w h => List.mem_cons_of_mem _ (inlX7 w h)) tyX7_ok nmX7 0 rfl rfl 1 (by decide) (List.mem_cons_of_mem _ zw5_5) rfl rfl rfl rfl (Nat.le_of_ble_eq_true rfl) rfl dX7_init_17 (fun H locs hI => ?_)
  refine lv_aload_n hx hb dX7_init_20 rfl (lv_at hl 0 rfl) ?_
  obtain ⟨ad, had⟩ : ∃ f : Nat → Nat, f = (fun j => if j = 4 then h0 else if j = 30 then q1 else if j = 31 then q2 else 0) := ⟨_, rfl⟩
  obtain ⟨cy, hcy⟩ : ∃ f : Nat → ClassId, f = (fun j => if j = 30 then c1 else if j = 31 then c2 else 0) := ⟨_, rfl⟩
  have e4 : h0 = ad 4 := by rw [had]; rfl
  have e30 : q1 = ad 30 := by rw [had]; rfl
  have e31 : q2 = ad 31 := by rw [had]; rfl
  have hI : zI st D (tN4 cy) (wN4 ad cy zS0) A s H locs := by rw [had, hcy]; exact hI
  refine z_callVu (As := []) (rest := []) hC hI (cX7_clear_w4_met st l D ad cy zS0 σ1 hf) (zgV zw5_6 zw5_7 zw5_8 zw2_9 zw5_9) rfl ⟨rfl, rfl⟩ 0 hdX7_clear_w4 ⟨Nat.le_of_ble_eq_true rfl, Nat.le_of_ble_eq_true rfl⟩ rfl rfl (wN4_e4 ad cy zS0) rfl hl (by rw [e4]; rfl) (Nat.le_of_ble_eq_true rfl) dX7_init_21 ⟨Nat.le_of_ble_eq_true rfl, Nat.le_of_ble_eq_true rfl⟩ (fun H locs hI => ?_)
  exact z_nreturn0 (wn := fun ad cy => wN4 ad cy σ1) (tn := tN4) (ex := fun f => h0 = f 4) hC ad cy hI e4 (Nat.le_refl _) (Nat.le_refl _) dX7_init_24
theorem hdX7_init : yX7_init.cls ≠ "java/lang/invoke/MethodHandle" ∧ yX7_init.cls ≠ "java/lang/invoke/VarHandle" ∧ (parseMethodDescriptor yX7_init.desc).map (fun d => d.parameters.length) = some 0 := by decide +kernel
noncomputable def rmX10_init : Room := { frames := 2, cells := 2, slots := 544, locals := 45 }
noncomputable def wzX10_init : List Cond := .code yX10_init cX10_init 1 none :: wsL_law
noncomputable def kn_cX10_init : Nat := 0xb11000b62a0d00b50abc1001112a0900b50abc1001112a0100b72a
theorem zk_cX10_init : zkd cX10_init.data.toList kn_cX10_init = true := by decide +kernel
theorem zn_cX10_init : cX10_init.data.toList.length = 27 := by decide +kernel
theorem dX10_init_0 : decode cX10_init 0 = .ok (.aload_n 0, 1) := zo_42 (zkb zk_cX10_init zn_cX10_init rfl)
theorem dX10_init_1 : decode cX10_init 1 = .ok (.invokespecial 1, 3) := zo_183 (b1 := 0) (b2 := 1) (zkb3 zk_cX10_init zn_cX10_init rfl) rfl
theorem dX10_init_4 : decode cX10_init 4 = .ok (.aload_n 0, 1) := zo_42 (zkb zk_cX10_init zn_cX10_init rfl)
theorem dX10_init_5 : decode cX10_init 5 = .ok (.sipush 272, 3) := zo_17 (b1 := 1) (b2 := 16) (zkb3 zk_cX10_init zn_cX10_init rfl) rfl
theorem dX10_init_8 : decode cX10_init 8 = .ok (.newarray .int, 2) := by decide +kernel
theorem dX10_init_10 : decode cX10_init 10 = .ok (.putfield 9, 3) := zo_181 (b1 := 0) (b2 := 9) (zkb3 zk_cX10_init zn_cX10_init rfl) rfl
theorem dX10_init_13 : decode cX10_init 13 = .ok (.aload_n 0, 1) := zo_42 (zkb zk_cX10_init zn_cX10_init rfl)
theorem dX10_init_14 : decode cX10_init 14 = .ok (.sipush 272, 3) := zo_17 (b1 := 1) (b2 := 16) (zkb3 zk_cX10_init zn_cX10_init rfl) rfl
theorem dX10_init_17 : decode cX10_init 17 = .ok (.newarray .int, 2) := by decide +kernel
theorem dX10_init_19 : decode cX10_init 19 = .ok (.putfield 13, 3) := zo_181 (b1 := 0) (b2 := 13) (zkb3 zk_cX10_init zn_cX10_init rfl) rfl
theorem dX10_init_22 : decode cX10_init 22 = .ok (.aload_n 0, 1) := zo_42 (zkb zk_cX10_init zn_cX10_init rfl)
theorem dX10_init_23 : decode cX10_init 23 = .ok (.invokevirtual 16, 3) := zo_182 (b1 := 0) (b2 := 16) (zkb3 zk_cX10_init zn_cX10_init rfl) rfl
theorem dX10_init_26 : decode cX10_init 26 = .ok (.return_, 1) := zo_177 (zkb zk_cX10_init zn_cX10_init rfl)
set_option maxRecDepth 20000 in
set_option maxHeartbeats 4000000 in
theorem cX10_init_met (st : Nat → Nat) (l : Launch) (D : va_G) (h0 : Nat)  (σ1 : zSt) (hf : fX10_clear zS0 = some σ1) (sz : Nat) : zN st l yX10_init wzX10_init rmX10_init [.ref h0] D [(h0, .inr (12, [.null, .null, .int 0, .int 0, .int 0, .int 0, .long 0, .long 0]))] sz (fun ad cy => wN5 ad cy σ1) tN5 (fun f => h0 = f 5) 2 544 := by
  refine zN.of (cc := cX10_init) (maxL := 1) (by decide) rfl rfl (Nat.le_of_ble_eq_true rfl) (fun p e s m args below meth c hC hnm A hI ls hl => ?_)
  have hx := hC.1
  have hb := hC.2.1
  refine lv_aload_n hx hb dX10_init_0 rfl (lv_at hl 0 rfl) ?_
  refine z_objInit hC hl (List.mem_cons_of_mem _ zw6_3) (List.mem_cons_of_mem _ zw1_16) (List.mem_cons_of_mem _ zw1_17) dX10_init_1 (Nat.le_of_ble_eq_true rfl) (Nat.le_of_ble_eq_true rfl) ?_
  refine lv_aload_n hx hb dX10_init_4 rfl (lv_at hl 0 rfl) ?_
  refine lv_sipush (v := 272) hx hb dX10_init_5 (by decide) ?_
  refine z_newi hC hI (List.mem_cons_of_mem _ zw3_15) 272 (by decide +kernel) (by decide +kernel) (by decide +kernel) (Nat.le_of_ble_eq_true rfl) (Nat.le_of_ble_eq_true rfl) dX10_init_8 (fun q1 c1 H hI => ?_)
  have hI : zI st D [(c1, .int)] [(h0, .inr (12, [.null, .null, .int 0, .int 0, .int 0, .int 0, .long 0, .long 0])), (q1, .inl (c1, 272, .inl (fun _ => 0)))] A s H _ := hI
  refine z_putF hC hnm hI (w1 := [(h0, .inr (12, [.ref q1, .null, .int 0, .int 0, .int 0, .int 0, .long 0, .long 0])), (q1, .inl (c1, 272, .inl (fun _ => 0)))]) (fun w h => List.mem_cons_of_mem _ (inlX10 w h)) tyX10_ok nmX10 0 rfl rfl 0 (by decide) (List.mem_cons_of_mem _ zw6_4) rfl rfl rfl rfl (Nat.le_of_ble_eq_true rfl) rfl dX10_init_10 (fun H locs hI => ?_)
  refine lv_aload_n hx hb dX10_init_13 rfl (lv_at hl 0 rfl) ?_
  refine lv_sipush (v := 272) hx hb dX10_init_14 (by decide) ?_
  refine z_newi hC hI (List.mem_cons_of_mem _ zw3_15) 272 (by decide +kernel) (by decide +kernel) (by decide +kernel) (Nat.le_of_ble_eq_true rfl) (Nat.le_of_ble_eq_true rfl) dX10_init_17 (fun q2 c2 H hI => ?_)
  have hI : zI st D [(c1, .int), (c2, .int)] [(h0, .inr (12, [.ref q1, .null, .int 0, .int 0, .int 0, .int 0, .long 0, .long 0])), (q1, .inl (c1, 272, .inl (fun _ => 0))), (q2, .inl (c2, 272, .inl (fun _ => 0)))] A s H _ := hI
  refine z_putF hC hnm hI (w1 := [(h0, .inr (12, [.ref q1, .ref q2, .int 0, .int 0, .int 0, .int 0, .long 0, .long 0])), (q1, .inl (c1, 272, .inl (fun _ => 0))), (q2, .inl (c2, 272, .inl (fun _ => 0)))]) (fun w h => List.mem_cons_of_mem _ (inlX10 w h)) tyX10_ok nmX10 0 rfl rfl 1 (by decide) (List.mem_cons_of_mem _ zw6_5) rfl rfl rfl rfl (Nat.le_of_ble_eq_true rfl) rfl dX10_init_19 (fun H locs hI => ?_)
  refine lv_aload_n hx hb dX10_init_22 rfl (lv_at hl 0 rfl) ?_
  obtain ⟨ad, had⟩ : ∃ f : Nat → Nat, f = (fun j => if j = 5 then h0 else if j = 32 then q1 else if j = 33 then q2 else 0) := ⟨_, rfl⟩
  obtain ⟨cy, hcy⟩ : ∃ f : Nat → ClassId, f = (fun j => if j = 32 then c1 else if j = 33 then c2 else 0) := ⟨_, rfl⟩
  have e5 : h0 = ad 5 := by rw [had]; rfl
  have e32 : q1 = ad 32 := by rw [had]; rfl
  have e33 : q2 = ad 33 := by rw [had]; rfl
  have hI : zI st D (tN5 cy) (wN5 ad cy zS0) A s H locs := by rw [had, hcy]; exact hI
  refine z_callVu (As := []) (rest := []) hC hI (cX10_clear_w5_met st l D ad cy zS0 σ1 hf) (zgV zw6_6 zw6_7 zw6_8 zw2_13 zw6_9) rfl ⟨rfl, rfl⟩ 0 hdX10_clear_w5 ⟨Nat.le_of_ble_eq_true rfl, Nat.le_of_ble_eq_true rfl⟩ rfl rfl (wN5_e5 ad cy zS0) rfl hl (by rw [e5]; rfl) (Nat.le_of_ble_eq_true rfl) dX10_init_23 ⟨Nat.le_of_ble_eq_true rfl, Nat.le_of_ble_eq_true rfl⟩ (fun H locs hI => ?_)
  exact z_nreturn0 (wn := fun ad cy => wN5 ad cy σ1) (tn := tN5) (ex := fun f => h0 = f 5) hC ad cy hI e5 (Nat.le_refl _) (Nat.le_refl _) dX10_init_26
theorem hdX10_init : yX10_init.cls ≠ "java/lang/invoke/MethodHandle" ∧ yX10_init.cls ≠ "java/lang/invoke/VarHandle" ∧ (parseMethodDescriptor yX10_init.desc).map (fun d => d.parameters.length) = some 0 := by decide +kernel
noncomputable def rmX4_init : Room := { frames := 1, cells := 2, slots := 24, locals := 20 }
noncomputable def wzX4_init : List Cond := .code yX4_init cX4_init 5 none :: wsL_law
noncomputable def kn_cX4_init : Nat := 0xb12000b62a4f040b100900b42a4f040a100900b42a1c00b504192a1800b52d2a1400b52c2a1000b51b2a0d00b50abc0c102a0900b50abc0c102a0100b72a
theorem zk_cX4_init : zkd cX4_init.data.toList kn_cX4_init = true := by decide +kernel
theorem zn_cX4_init : cX4_init.data.toList.length = 62 := by decide +kernel
theorem dX4_init_0 : decode cX4_init 0 = .ok (.aload_n 0, 1) := zo_42 (zkb zk_cX4_init zn_cX4_init rfl)
theorem dX4_init_1 : decode cX4_init 1 = .ok (.invokespecial 1, 3) := zo_183 (b1 := 0) (b2 := 1) (zkb3 zk_cX4_init zn_cX4_init rfl) rfl
theorem dX4_init_4 : decode cX4_init 4 = .ok (.aload_n 0, 1) := zo_42 (zkb zk_cX4_init zn_cX4_init rfl)
theorem dX4_init_5 : decode cX4_init 5 = .ok (.bipush 12, 2) := zo_16 (b1 := 12) (zkb2 zk_cX4_init zn_cX4_init rfl) rfl
theorem dX4_init_7 : decode cX4_init 7 = .ok (.newarray .int, 2) := by decide +kernel
theorem dX4_init_9 : decode cX4_init 9 = .ok (.putfield 9, 3) := zo_181 (b1 := 0) (b2 := 9) (zkb3 zk_cX4_init zn_cX4_init rfl) rfl
theorem dX4_init_12 : decode cX4_init 12 = .ok (.aload_n 0, 1) := zo_42 (zkb zk_cX4_init zn_cX4_init rfl)
theorem dX4_init_13 : decode cX4_init 13 = .ok (.bipush 12, 2) := zo_16 (b1 := 12) (zkb2 zk_cX4_init zn_cX4_init rfl) rfl
theorem dX4_init_15 : decode cX4_init 15 = .ok (.newarray .int, 2) := by decide +kernel
theorem dX4_init_17 : decode cX4_init 17 = .ok (.putfield 13, 3) := zo_181 (b1 := 0) (b2 := 13) (zkb3 zk_cX4_init zn_cX4_init rfl) rfl
theorem dX4_init_20 : decode cX4_init 20 = .ok (.aload_n 0, 1) := zo_42 (zkb zk_cX4_init zn_cX4_init rfl)
theorem dX4_init_21 : decode cX4_init 21 = .ok (.iload_n 1, 1) := zo_27 (zkb zk_cX4_init zn_cX4_init rfl)
theorem dX4_init_22 : decode cX4_init 22 = .ok (.putfield 16, 3) := zo_181 (b1 := 0) (b2 := 16) (zkb3 zk_cX4_init zn_cX4_init rfl) rfl
theorem dX4_init_25 : decode cX4_init 25 = .ok (.aload_n 0, 1) := zo_42 (zkb zk_cX4_init zn_cX4_init rfl)
theorem dX4_init_26 : decode cX4_init 26 = .ok (.aload_n 2, 1) := zo_44 (zkb zk_cX4_init zn_cX4_init rfl)
theorem dX4_init_27 : decode cX4_init 27 = .ok (.putfield 20, 3) := zo_181 (b1 := 0) (b2 := 20) (zkb3 zk_cX4_init zn_cX4_init rfl) rfl
theorem dX4_init_30 : decode cX4_init 30 = .ok (.aload_n 0, 1) := zo_42 (zkb zk_cX4_init zn_cX4_init rfl)
theorem dX4_init_31 : decode cX4_init 31 = .ok (.aload_n 3, 1) := zo_45 (zkb zk_cX4_init zn_cX4_init rfl)
theorem dX4_init_32 : decode cX4_init 32 = .ok (.putfield 24, 3) := zo_181 (b1 := 0) (b2 := 24) (zkb3 zk_cX4_init zn_cX4_init rfl) rfl
theorem dX4_init_35 : decode cX4_init 35 = .ok (.aload_n 0, 1) := zo_42 (zkb zk_cX4_init zn_cX4_init rfl)
theorem dX4_init_36 : decode cX4_init 36 = .ok (.aload 4, 2) := zo_25 (b1 := 4) (zkb2 zk_cX4_init zn_cX4_init rfl)
theorem dX4_init_38 : decode cX4_init 38 = .ok (.putfield 28, 3) := zo_181 (b1 := 0) (b2 := 28) (zkb3 zk_cX4_init zn_cX4_init rfl) rfl
theorem dX4_init_41 : decode cX4_init 41 = .ok (.aload_n 0, 1) := zo_42 (zkb zk_cX4_init zn_cX4_init rfl)
theorem dX4_init_42 : decode cX4_init 42 = .ok (.getfield 9, 3) := zo_180 (b1 := 0) (b2 := 9) (zkb3 zk_cX4_init zn_cX4_init rfl) rfl
theorem dX4_init_45 : decode cX4_init 45 = .ok (.bipush 10, 2) := zo_16 (b1 := 10) (zkb2 zk_cX4_init zn_cX4_init rfl) rfl
theorem dX4_init_47 : decode cX4_init 47 = .ok (.iconst 1, 1) := zo_4 (zkb zk_cX4_init zn_cX4_init rfl)
theorem dX4_init_48 : decode cX4_init 48 = .ok (.iastore, 1) := zo_79 (zkb zk_cX4_init zn_cX4_init rfl)
theorem dX4_init_49 : decode cX4_init 49 = .ok (.aload_n 0, 1) := zo_42 (zkb zk_cX4_init zn_cX4_init rfl)
theorem dX4_init_50 : decode cX4_init 50 = .ok (.getfield 9, 3) := zo_180 (b1 := 0) (b2 := 9) (zkb3 zk_cX4_init zn_cX4_init rfl) rfl
theorem dX4_init_53 : decode cX4_init 53 = .ok (.bipush 11, 2) := zo_16 (b1 := 11) (zkb2 zk_cX4_init zn_cX4_init rfl) rfl
theorem dX4_init_55 : decode cX4_init 55 = .ok (.iconst 1, 1) := zo_4 (zkb zk_cX4_init zn_cX4_init rfl)
theorem dX4_init_56 : decode cX4_init 56 = .ok (.iastore, 1) := zo_79 (zkb zk_cX4_init zn_cX4_init rfl)
theorem dX4_init_57 : decode cX4_init 57 = .ok (.aload_n 0, 1) := zo_42 (zkb zk_cX4_init zn_cX4_init rfl)
theorem dX4_init_58 : decode cX4_init 58 = .ok (.invokevirtual 32, 3) := zo_182 (b1 := 0) (b2 := 32) (zkb3 zk_cX4_init zn_cX4_init rfl) rfl
theorem dX4_init_61 : decode cX4_init 61 = .ok (.return_, 1) := zo_177 (zkb zk_cX4_init zn_cX4_init rfl)
set_option maxRecDepth 20000 in
set_option maxHeartbeats 4000000 in
theorem cX4_init_met (st : Nat → Nat) (l : Launch) (D : va_G) (h0 : Nat) (x1 : Int32) (a2 : Nat) (a4 : Nat) (a5 : Nat) (hz1 : zbo x1 = true) (σ1 : zSt) (hf : fX4_clear (zsi (zsi (zsi zS0 6 0 x1) 34 10 1) 34 11 1) = some σ1) (sz : Nat) : zN st l yX4_init wzX4_init rmX4_init [.ref h0, .int x1, .ref a2, .ref a4, .ref a5] D [(h0, .inr (6, [.int 0, .null, .null, .null, .null, .null]))] sz (fun ad cy => wN6 ad cy σ1) tN6 (fun f => h0 = f 6 ∧ a2 = f 2 ∧ a4 = f 4 ∧ a5 = f 5) 2 24 := by
  refine zN.of (cc := cX4_init) (maxL := 5) (by decide) rfl rfl (Nat.le_of_ble_eq_true rfl) (fun p e s m args below meth c hC hnm A hI ls hl => ?_)
  have hx := hC.1
  have hb := hC.2.1
  refine lv_aload_n hx hb dX4_init_0 rfl (lv_at hl 0 rfl) ?_
  refine z_objInit hC hl (List.mem_cons_of_mem _ zw6_14) (List.mem_cons_of_mem _ zw1_16) (List.mem_cons_of_mem _ zw1_17) dX4_init_1 (Nat.le_of_ble_eq_true rfl) (Nat.le_of_ble_eq_true rfl) ?_
  refine lv_aload_n hx hb dX4_init_4 rfl (lv_at hl 0 rfl) ?_
  refine lv_bipush (v := 12) hx hb dX4_init_5 (by decide) ?_
  refine z_newi hC hI (List.mem_cons_of_mem _ zw3_15) 12 (by decide +kernel) (by decide +kernel) (by decide +kernel) (Nat.le_of_ble_eq_true rfl) (Nat.le_of_ble_eq_true rfl) dX4_init_7 (fun q1 c1 H hI => ?_)
  have hI : zI st D [(c1, .int)] [(h0, .inr (6, [.int 0, .null, .null, .null, .null, .null])), (q1, .inl (c1, 12, .inl (fun _ => 0)))] A s H _ := hI
  refine z_putF hC hnm hI (w1 := [(h0, .inr (6, [.int 0, .null, .null, .null, .ref q1, .null])), (q1, .inl (c1, 12, .inl (fun _ => 0)))]) (fun w h => List.mem_cons_of_mem _ (inlX4 w h)) tyX4_ok nmX4 0 rfl rfl 4 (by decide) (List.mem_cons_of_mem _ zw6_15) rfl rfl rfl rfl (Nat.le_of_ble_eq_true rfl) rfl dX4_init_9 (fun H locs hI => ?_)
  refine lv_aload_n hx hb dX4_init_12 rfl (lv_at hl 0 rfl) ?_
  refine lv_bipush (v := 12) hx hb dX4_init_13 (by decide) ?_
  refine z_newi hC hI (List.mem_cons_of_mem _ zw3_15) 12 (by decide +kernel) (by decide +kernel) (by decide +kernel) (Nat.le_of_ble_eq_true rfl) (Nat.le_of_ble_eq_true rfl) dX4_init_15 (fun q2 c2 H hI => ?_)
  have hI : zI st D [(c1, .int), (c2, .int)] [(h0, .inr (6, [.int 0, .null, .null, .null, .ref q1, .null])), (q1, .inl (c1, 12, .inl (fun _ => 0))), (q2, .inl (c2, 12, .inl (fun _ => 0)))] A s H _ := hI
  refine z_putF hC hnm hI (w1 := [(h0, .inr (6, [.int 0, .null, .null, .null, .ref q1, .ref q2])), (q1, .inl (c1, 12, .inl (fun _ => 0))), (q2, .inl (c2, 12, .inl (fun _ => 0)))]) (fun w h => List.mem_cons_of_mem _ (inlX4 w h)) tyX4_ok nmX4 0 rfl rfl 5 (by decide) (List.mem_cons_of_mem _ zw6_16) rfl rfl rfl rfl (Nat.le_of_ble_eq_true rfl) rfl dX4_init_17 (fun H locs hI => ?_)
  refine lv_aload_n hx hb dX4_init_20 rfl (lv_at hl 0 rfl) ?_
  refine lv_iload_n hx hb dX4_init_21 rfl (lv_at hl 1 rfl) ?_
  refine z_putF hC hnm hI (w1 := [(h0, .inr (6, [.int x1, .null, .null, .null, .ref q1, .ref q2])), (q1, .inl (c1, 12, .inl (fun _ => 0))), (q2, .inl (c2, 12, .inl (fun _ => 0)))]) (fun w h => List.mem_cons_of_mem _ (inlX4 w h)) tyX4_ok nmX4 0 rfl rfl 0 (by decide) (List.mem_cons_of_mem _ zw6_17) rfl rfl (zbo_n hz1) (zbo_f hz1) (Nat.le_of_ble_eq_true rfl) rfl dX4_init_22 (fun H locs hI => ?_)
  refine lv_aload_n hx hb dX4_init_25 rfl (lv_at hl 0 rfl) ?_
  refine lv_aload_n hx hb dX4_init_26 rfl (lv_at hl 2 rfl) ?_
  refine z_putF hC hnm hI (w1 := [(h0, .inr (6, [.int x1, .ref a2, .null, .null, .ref q1, .ref q2])), (q1, .inl (c1, 12, .inl (fun _ => 0))), (q2, .inl (c2, 12, .inl (fun _ => 0)))]) (fun w h => List.mem_cons_of_mem _ (inlX4 w h)) tyX4_ok nmX4 0 rfl rfl 1 (by decide) (List.mem_cons_of_mem _ zw6_18) rfl rfl rfl rfl (Nat.le_of_ble_eq_true rfl) rfl dX4_init_27 (fun H locs hI => ?_)
  refine lv_aload_n hx hb dX4_init_30 rfl (lv_at hl 0 rfl) ?_
  refine lv_aload_n hx hb dX4_init_31 rfl (lv_at hl 3 rfl) ?_
  refine z_putF hC hnm hI (w1 := [(h0, .inr (6, [.int x1, .ref a2, .ref a4, .null, .ref q1, .ref q2])), (q1, .inl (c1, 12, .inl (fun _ => 0))), (q2, .inl (c2, 12, .inl (fun _ => 0)))]) (fun w h => List.mem_cons_of_mem _ (inlX4 w h)) tyX4_ok nmX4 0 rfl rfl 2 (by decide) (List.mem_cons_of_mem _ zw6_19) rfl rfl rfl rfl (Nat.le_of_ble_eq_true rfl) rfl dX4_init_32 (fun H locs hI => ?_)
  refine lv_aload_n hx hb dX4_init_35 rfl (lv_at hl 0 rfl) ?_
  refine lv_aload hx hb dX4_init_36 (lv_at hl 4 rfl) ?_
  refine z_putF hC hnm hI (w1 := [(h0, .inr (6, [.int x1, .ref a2, .ref a4, .ref a5, .ref q1, .ref q2])), (q1, .inl (c1, 12, .inl (fun _ => 0))), (q2, .inl (c2, 12, .inl (fun _ => 0)))]) (fun w h => List.mem_cons_of_mem _ (inlX4 w h)) tyX4_ok nmX4 0 rfl rfl 3 (by decide) (List.mem_cons_of_mem _ zw6_20) rfl rfl rfl rfl (Nat.le_of_ble_eq_true rfl) rfl dX4_init_38 (fun H locs hI => ?_)
  refine lv_aload_n hx hb dX4_init_41 rfl (lv_at hl 0 rfl) ?_
  refine z_get (v := .ref q1) hC hI (fun w h => List.mem_cons_of_mem _ (inlX4 w h)) 0 rfl rfl 4 (by decide) (List.mem_cons_of_mem _ zw6_15) rfl dX4_init_42 ?_
  refine lv_bipush (v := 10) hx hb dX4_init_45 (by decide) ?_
  refine lv_iconst (v := 1) hx hb dX4_init_47 (by decide) ?_
  refine z_iast (w1 := [(h0, .inr (6, [.int x1, .ref a2, .ref a4, .ref a5, .ref q1, .ref q2])), (q1, .inl (c1, 12, .inl (upd (fun _ => 0) 10 1))), (q2, .inl (c2, 12, .inl (fun _ => 0)))]) hC hI 1 0 rfl rfl (by decide) rfl dX4_init_48 (fun H locs hI => ?_)
  refine lv_aload_n hx hb dX4_init_49 rfl (lv_at hl 0 rfl) ?_
  refine z_get (v := .ref q1) hC hI (fun w h => List.mem_cons_of_mem _ (inlX4 w h)) 0 rfl rfl 4 (by decide) (List.mem_cons_of_mem _ zw6_15) rfl dX4_init_50 ?_
  refine lv_bipush (v := 11) hx hb dX4_init_53 (by decide) ?_
  refine lv_iconst (v := 1) hx hb dX4_init_55 (by decide) ?_
  refine z_iast (w1 := [(h0, .inr (6, [.int x1, .ref a2, .ref a4, .ref a5, .ref q1, .ref q2])), (q1, .inl (c1, 12, .inl (upd (upd (fun _ => 0) 10 1) 11 1))), (q2, .inl (c2, 12, .inl (fun _ => 0)))]) hC hI 1 0 rfl rfl (by decide) rfl dX4_init_56 (fun H locs hI => ?_)
  refine lv_aload_n hx hb dX4_init_57 rfl (lv_at hl 0 rfl) ?_
  obtain ⟨ad, had⟩ : ∃ f : Nat → Nat, f = (fun j => if j = 6 then h0 else if j = 34 then q1 else if j = 35 then q2 else if j = 2 then a2 else if j = 4 then a4 else if j = 5 then a5 else 0) := ⟨_, rfl⟩
  obtain ⟨cy, hcy⟩ : ∃ f : Nat → ClassId, f = (fun j => if j = 34 then c1 else if j = 35 then c2 else 0) := ⟨_, rfl⟩
  have e6 : h0 = ad 6 := by rw [had]; rfl
  have e34 : q1 = ad 34 := by rw [had]; rfl
  have e35 : q2 = ad 35 := by rw [had]; rfl
  have e2 : a2 = ad 2 := by rw [had]; rfl
  have e4 : a4 = ad 4 := by rw [had]; rfl
  have e5 : a5 = ad 5 := by rw [had]; rfl
  have hI : zI st D (tN6 cy) (wN6 ad cy (zsi (zsi (zsi zS0 6 0 x1) 34 10 1) 34 11 1)) A s H locs := by rw [had, hcy]; exact hI
  refine z_callVu (As := []) (rest := []) hC hI (cX4_clear_w6_met st l D ad cy (zsi (zsi (zsi zS0 6 0 x1) 34 10 1) 34 11 1) σ1 hf) (zgV zw6_21 zw6_22 zw6_23 zw2_17 zw7_0) rfl ⟨rfl, rfl⟩ 0 hdX4_clear_w6 ⟨Nat.le_of_ble_eq_true rfl, Nat.le_of_ble_eq_true rfl⟩ rfl rfl (wN6_e6 ad cy (zsi (zsi (zsi zS0 6 0 x1) 34 10 1) 34 11 1)) rfl hl (by rw [e6]; rfl) (Nat.le_of_ble_eq_true rfl) dX4_init_58 ⟨Nat.le_of_ble_eq_true rfl, Nat.le_of_ble_eq_true rfl⟩ (fun H locs hI => ?_)
  exact z_nreturn0 (wn := fun ad cy => wN6 ad cy σ1) (tn := tN6) (ex := fun f => h0 = f 6 ∧ a2 = f 2 ∧ a4 = f 4 ∧ a5 = f 5) hC ad cy hI ⟨e6, e2, e4, e5⟩ (Nat.le_refl _) (Nat.le_refl _) dX4_init_61
theorem hdX4_init : yX4_init.cls ≠ "java/lang/invoke/MethodHandle" ∧ yX4_init.cls ≠ "java/lang/invoke/VarHandle" ∧ (parseMethodDescriptor yX4_init.desc).map (fun d => d.parameters.length) = some 4 := by decide +kernel
noncomputable def rmX5_init : Room := { frames := 1, cells := 2, slots := 58, locals := 20 }
noncomputable def wzX5_init : List Cond := .code yX5_init cX5_init 3 none :: wsL_law
noncomputable def kn_cX5_init : Nat := 0xb14f1c1212100900b42a1800b52c2a1400b52b2a1000b506102a0d00b50abc1d102a0900b50abc1d102a0100b72a
theorem zk_cX5_init : zkd cX5_init.data.toList kn_cX5_init = true := by decide +kernel
theorem zn_cX5_init : cX5_init.data.toList.length = 46 := by decide +kernel
theorem dX5_init_0 : decode cX5_init 0 = .ok (.aload_n 0, 1) := zo_42 (zkb zk_cX5_init zn_cX5_init rfl)
theorem dX5_init_1 : decode cX5_init 1 = .ok (.invokespecial 1, 3) := zo_183 (b1 := 0) (b2 := 1) (zkb3 zk_cX5_init zn_cX5_init rfl) rfl
theorem dX5_init_4 : decode cX5_init 4 = .ok (.aload_n 0, 1) := zo_42 (zkb zk_cX5_init zn_cX5_init rfl)
theorem dX5_init_5 : decode cX5_init 5 = .ok (.bipush 29, 2) := zo_16 (b1 := 29) (zkb2 zk_cX5_init zn_cX5_init rfl) rfl
theorem dX5_init_7 : decode cX5_init 7 = .ok (.newarray .int, 2) := by decide +kernel
theorem dX5_init_9 : decode cX5_init 9 = .ok (.putfield 9, 3) := zo_181 (b1 := 0) (b2 := 9) (zkb3 zk_cX5_init zn_cX5_init rfl) rfl
theorem dX5_init_12 : decode cX5_init 12 = .ok (.aload_n 0, 1) := zo_42 (zkb zk_cX5_init zn_cX5_init rfl)
theorem dX5_init_13 : decode cX5_init 13 = .ok (.bipush 29, 2) := zo_16 (b1 := 29) (zkb2 zk_cX5_init zn_cX5_init rfl) rfl
theorem dX5_init_15 : decode cX5_init 15 = .ok (.newarray .int, 2) := by decide +kernel
theorem dX5_init_17 : decode cX5_init 17 = .ok (.putfield 13, 3) := zo_181 (b1 := 0) (b2 := 13) (zkb3 zk_cX5_init zn_cX5_init rfl) rfl
theorem dX5_init_20 : decode cX5_init 20 = .ok (.aload_n 0, 1) := zo_42 (zkb zk_cX5_init zn_cX5_init rfl)
theorem dX5_init_21 : decode cX5_init 21 = .ok (.bipush 6, 2) := zo_16 (b1 := 6) (zkb2 zk_cX5_init zn_cX5_init rfl) rfl
theorem dX5_init_23 : decode cX5_init 23 = .ok (.putfield 16, 3) := zo_181 (b1 := 0) (b2 := 16) (zkb3 zk_cX5_init zn_cX5_init rfl) rfl
theorem dX5_init_26 : decode cX5_init 26 = .ok (.aload_n 0, 1) := zo_42 (zkb zk_cX5_init zn_cX5_init rfl)
theorem dX5_init_27 : decode cX5_init 27 = .ok (.aload_n 1, 1) := zo_43 (zkb zk_cX5_init zn_cX5_init rfl)
theorem dX5_init_28 : decode cX5_init 28 = .ok (.putfield 20, 3) := zo_181 (b1 := 0) (b2 := 20) (zkb3 zk_cX5_init zn_cX5_init rfl) rfl
theorem dX5_init_31 : decode cX5_init 31 = .ok (.aload_n 0, 1) := zo_42 (zkb zk_cX5_init zn_cX5_init rfl)
theorem dX5_init_32 : decode cX5_init 32 = .ok (.aload_n 2, 1) := zo_44 (zkb zk_cX5_init zn_cX5_init rfl)
theorem dX5_init_33 : decode cX5_init 33 = .ok (.putfield 24, 3) := zo_181 (b1 := 0) (b2 := 24) (zkb3 zk_cX5_init zn_cX5_init rfl) rfl
theorem dX5_init_36 : decode cX5_init 36 = .ok (.aload_n 0, 1) := zo_42 (zkb zk_cX5_init zn_cX5_init rfl)
theorem dX5_init_37 : decode cX5_init 37 = .ok (.getfield 9, 3) := zo_180 (b1 := 0) (b2 := 9) (zkb3 zk_cX5_init zn_cX5_init rfl) rfl
theorem dX5_init_40 : decode cX5_init 40 = .ok (.bipush 18, 2) := zo_16 (b1 := 18) (zkb2 zk_cX5_init zn_cX5_init rfl) rfl
theorem dX5_init_42 : decode cX5_init 42 = .ok (.ldc 28, 2) := zo_18 (b1 := 28) (zkb2 zk_cX5_init zn_cX5_init rfl)
theorem dX5_init_44 : decode cX5_init 44 = .ok (.iastore, 1) := zo_79 (zkb zk_cX5_init zn_cX5_init rfl)
theorem dX5_init_45 : decode cX5_init 45 = .ok (.return_, 1) := zo_177 (zkb zk_cX5_init zn_cX5_init rfl)
set_option maxRecDepth 20000 in
set_option maxHeartbeats 4000000 in
theorem cX5_init_met (st : Nat → Nat) (l : Launch) (D : va_G) (h0 : Nat) (a1 : Nat) (a6 : Nat)  (sz : Nat) : zN st l yX5_init wzX5_init rmX5_init [.ref h0, .ref a1, .ref a6] D [(h0, .inr (7, [.null, .null, .null, .null, .int 0, .int 0]))] sz (fun ad cy => wN7 ad cy (zsi (zsi zS0 7 4 6) 36 18 57328)) tN7 (fun f => h0 = f 7 ∧ a1 = f 1 ∧ a6 = f 6) 2 58 := by
  refine zN.of (cc := cX5_init) (maxL := 3) (by decide) rfl rfl (Nat.le_of_ble_eq_true rfl) (fun p e s m args below meth c hC hnm A hI ls hl => ?_)
  have hx := hC.1
  have hb := hC.2.1
  refine lv_aload_n hx hb dX5_init_0 rfl (lv_at hl 0 rfl) ?_
  refine z_objInit hC hl (List.mem_cons_of_mem _ zw7_4) (List.mem_cons_of_mem _ zw1_16) (List.mem_cons_of_mem _ zw1_17) dX5_init_1 (Nat.le_of_ble_eq_true rfl) (Nat.le_of_ble_eq_true rfl) ?_
  refine lv_aload_n hx hb dX5_init_4 rfl (lv_at hl 0 rfl) ?_
  refine lv_bipush (v := 29) hx hb dX5_init_5 (by decide) ?_
  refine z_newi hC hI (List.mem_cons_of_mem _ zw3_15) 29 (by decide +kernel) (by decide +kernel) (by decide +kernel) (Nat.le_of_ble_eq_true rfl) (Nat.le_of_ble_eq_true rfl) dX5_init_7 (fun q1 c1 H hI => ?_)
  have hI : zI st D [(c1, .int)] [(h0, .inr (7, [.null, .null, .null, .null, .int 0, .int 0])), (q1, .inl (c1, 29, .inl (fun _ => 0)))] A s H _ := hI
  refine z_putF hC hnm hI (w1 := [(h0, .inr (7, [.null, .null, .ref q1, .null, .int 0, .int 0])), (q1, .inl (c1, 29, .inl (fun _ => 0)))]) (fun w h => List.mem_cons_of_mem _ (inlX5 w h)) tyX5_ok nmX5 0 rfl rfl 2 (by decide) (List.mem_cons_of_mem _ zw7_5) rfl rfl rfl rfl (Nat.le_of_ble_eq_true rfl) rfl dX5_init_9 (fun H locs hI => ?_)
  refine lv_aload_n hx hb dX5_init_12 rfl (lv_at hl 0 rfl) ?_
  refine lv_bipush (v := 29) hx hb dX5_init_13 (by decide) ?_
  refine z_newi hC hI (List.mem_cons_of_mem _ zw3_15) 29 (by decide +kernel) (by decide +kernel) (by decide +kernel) (Nat.le_of_ble_eq_true rfl) (Nat.le_of_ble_eq_true rfl) dX5_init_15 (fun q2 c2 H hI => ?_)
  have hI : zI st D [(c1, .int), (c2, .int)] [(h0, .inr (7, [.null, .null, .ref q1, .null, .int 0, .int 0])), (q1, .inl (c1, 29, .inl (fun _ => 0))), (q2, .inl (c2, 29, .inl (fun _ => 0)))] A s H _ := hI
  refine z_putF hC hnm hI (w1 := [(h0, .inr (7, [.null, .null, .ref q1, .ref q2, .int 0, .int 0])), (q1, .inl (c1, 29, .inl (fun _ => 0))), (q2, .inl (c2, 29, .inl (fun _ => 0)))]) (fun w h => List.mem_cons_of_mem _ (inlX5 w h)) tyX5_ok nmX5 0 rfl rfl 3 (by decide) (List.mem_cons_of_mem _ zw7_6) rfl rfl rfl rfl (Nat.le_of_ble_eq_true rfl) rfl dX5_init_17 (fun H locs hI => ?_)
  refine lv_aload_n hx hb dX5_init_20 rfl (lv_at hl 0 rfl) ?_
  refine lv_bipush (v := 6) hx hb dX5_init_21 (by decide) ?_
  refine z_put hC hI (w1 := [(h0, .inr (7, [.null, .null, .ref q1, .ref q2, .int 6, .int 0])), (q1, .inl (c1, 29, .inl (fun _ => 0))), (q2, .inl (c2, 29, .inl (fun _ => 0)))]) (fun w h => List.mem_cons_of_mem _ (inlX5 w h)) tyX5_ok nmX5 0 rfl rfl 4 (by decide) (List.mem_cons_of_mem _ zw7_7) rfl rfl rfl (Nat.le_of_ble_eq_true rfl) rfl dX5_init_23 (fun H locs hI => ?_)
  refine lv_aload_n hx hb dX5_init_26 rfl (lv_at hl 0 rfl) ?_
  refine lv_aload_n hx hb dX5_init_27 rfl (lv_at hl 1 rfl) ?_
  refine z_putF hC hnm hI (w1 := [(h0, .inr (7, [.ref a1, .null, .ref q1, .ref q2, .int 6, .int 0])), (q1, .inl (c1, 29, .inl (fun _ => 0))), (q2, .inl (c2, 29, .inl (fun _ => 0)))]) (fun w h => List.mem_cons_of_mem _ (inlX5 w h)) tyX5_ok nmX5 0 rfl rfl 0 (by decide) (List.mem_cons_of_mem _ zw7_8) rfl rfl rfl rfl (Nat.le_of_ble_eq_true rfl) rfl dX5_init_28 (fun H locs hI => ?_)
  refine lv_aload_n hx hb dX5_init_31 rfl (lv_at hl 0 rfl) ?_
  refine lv_aload_n hx hb dX5_init_32 rfl (lv_at hl 2 rfl) ?_
  refine z_putF hC hnm hI (w1 := [(h0, .inr (7, [.ref a1, .ref a6, .ref q1, .ref q2, .int 6, .int 0])), (q1, .inl (c1, 29, .inl (fun _ => 0))), (q2, .inl (c2, 29, .inl (fun _ => 0)))]) (fun w h => List.mem_cons_of_mem _ (inlX5 w h)) tyX5_ok nmX5 0 rfl rfl 1 (by decide) (List.mem_cons_of_mem _ zw7_9) rfl rfl rfl rfl (Nat.le_of_ble_eq_true rfl) rfl dX5_init_33 (fun H locs hI => ?_)
  refine lv_aload_n hx hb dX5_init_36 rfl (lv_at hl 0 rfl) ?_
  refine z_get (v := .ref q1) hC hI (fun w h => List.mem_cons_of_mem _ (inlX5 w h)) 0 rfl rfl 2 (by decide) (List.mem_cons_of_mem _ zw7_5) rfl dX5_init_37 ?_
  refine lv_bipush (v := 18) hx hb dX5_init_40 (by decide) ?_
  refine lv_ldc (v := 57328) hx hb hC.2.2.2.1 (hC.2.2.2.2.1 _ (List.mem_cons_of_mem _ zw7_10)) dX5_init_42 ?_
  refine z_iast (w1 := [(h0, .inr (7, [.ref a1, .ref a6, .ref q1, .ref q2, .int 6, .int 0])), (q1, .inl (c1, 29, .inl (upd (fun _ => 0) 18 57328))), (q2, .inl (c2, 29, .inl (fun _ => 0)))]) hC hI 1 0 rfl rfl (by decide) rfl dX5_init_44 (fun H locs hI => ?_)
  obtain ⟨ad, had⟩ : ∃ f : Nat → Nat, f = (fun j => if j = 7 then h0 else if j = 36 then q1 else if j = 37 then q2 else if j = 1 then a1 else if j = 6 then a6 else 0) := ⟨_, rfl⟩
  obtain ⟨cy, hcy⟩ : ∃ f : Nat → ClassId, f = (fun j => if j = 36 then c1 else if j = 37 then c2 else 0) := ⟨_, rfl⟩
  have e7 : h0 = ad 7 := by rw [had]; rfl
  have e36 : q1 = ad 36 := by rw [had]; rfl
  have e37 : q2 = ad 37 := by rw [had]; rfl
  have e1 : a1 = ad 1 := by rw [had]; rfl
  have e6 : a6 = ad 6 := by rw [had]; rfl
  have hI : zI st D (tN7 cy) (wN7 ad cy (zsi (zsi zS0 7 4 6) 36 18 57328)) A s H locs := by rw [had, hcy]; exact hI
  exact z_nreturn0 (wn := fun ad cy => wN7 ad cy (zsi (zsi zS0 7 4 6) 36 18 57328)) (tn := tN7) (ex := fun f => h0 = f 7 ∧ a1 = f 1 ∧ a6 = f 6) hC ad cy hI ⟨e7, e1, e6⟩ (Nat.le_refl _) (Nat.le_refl _) dX5_init_45
theorem hdX5_init : yX5_init.cls ≠ "java/lang/invoke/MethodHandle" ∧ yX5_init.cls ≠ "java/lang/invoke/VarHandle" ∧ (parseMethodDescriptor yX5_init.desc).map (fun d => d.parameters.length) = some 2 := by decide +kernel
noncomputable def rmX1_init : Room := { frames := 1, cells := 5, slots := 1590, locals := 23 }
noncomputable def wzX1_init : List Cond := .code yX1_init cX1_init 1 none :: wsL_law
noncomputable def kn_cX1_init : Nat := 0xb11900b8021600b42a1600b50abc20102a1300b50abc0203112a1000b50abc0203112a0d00b50abc09102a0900b50abc09102a0100b72a
theorem zk_cX1_init : zkd cX1_init.data.toList kn_cX1_init = true := by decide +kernel
theorem zn_cX1_init : cX1_init.data.toList.length = 55 := by decide +kernel
theorem dX1_init_0 : decode cX1_init 0 = .ok (.aload_n 0, 1) := zo_42 (zkb zk_cX1_init zn_cX1_init rfl)
theorem dX1_init_1 : decode cX1_init 1 = .ok (.invokespecial 1, 3) := zo_183 (b1 := 0) (b2 := 1) (zkb3 zk_cX1_init zn_cX1_init rfl) rfl
theorem dX1_init_4 : decode cX1_init 4 = .ok (.aload_n 0, 1) := zo_42 (zkb zk_cX1_init zn_cX1_init rfl)
theorem dX1_init_5 : decode cX1_init 5 = .ok (.bipush 9, 2) := zo_16 (b1 := 9) (zkb2 zk_cX1_init zn_cX1_init rfl) rfl
theorem dX1_init_7 : decode cX1_init 7 = .ok (.newarray .int, 2) := by decide +kernel
theorem dX1_init_9 : decode cX1_init 9 = .ok (.putfield 9, 3) := zo_181 (b1 := 0) (b2 := 9) (zkb3 zk_cX1_init zn_cX1_init rfl) rfl
theorem dX1_init_12 : decode cX1_init 12 = .ok (.aload_n 0, 1) := zo_42 (zkb zk_cX1_init zn_cX1_init rfl)
theorem dX1_init_13 : decode cX1_init 13 = .ok (.bipush 9, 2) := zo_16 (b1 := 9) (zkb2 zk_cX1_init zn_cX1_init rfl) rfl
theorem dX1_init_15 : decode cX1_init 15 = .ok (.newarray .int, 2) := by decide +kernel
theorem dX1_init_17 : decode cX1_init 17 = .ok (.putfield 13, 3) := zo_181 (b1 := 0) (b2 := 13) (zkb3 zk_cX1_init zn_cX1_init rfl) rfl
theorem dX1_init_20 : decode cX1_init 20 = .ok (.aload_n 0, 1) := zo_42 (zkb zk_cX1_init zn_cX1_init rfl)
theorem dX1_init_21 : decode cX1_init 21 = .ok (.sipush 770, 3) := zo_17 (b1 := 3) (b2 := 2) (zkb3 zk_cX1_init zn_cX1_init rfl) rfl
theorem dX1_init_24 : decode cX1_init 24 = .ok (.newarray .int, 2) := by decide +kernel
theorem dX1_init_26 : decode cX1_init 26 = .ok (.putfield 16, 3) := zo_181 (b1 := 0) (b2 := 16) (zkb3 zk_cX1_init zn_cX1_init rfl) rfl
theorem dX1_init_29 : decode cX1_init 29 = .ok (.aload_n 0, 1) := zo_42 (zkb zk_cX1_init zn_cX1_init rfl)
theorem dX1_init_30 : decode cX1_init 30 = .ok (.sipush 770, 3) := zo_17 (b1 := 3) (b2 := 2) (zkb3 zk_cX1_init zn_cX1_init rfl) rfl
theorem dX1_init_33 : decode cX1_init 33 = .ok (.newarray .int, 2) := by decide +kernel
theorem dX1_init_35 : decode cX1_init 35 = .ok (.putfield 19, 3) := zo_181 (b1 := 0) (b2 := 19) (zkb3 zk_cX1_init zn_cX1_init rfl) rfl
theorem dX1_init_38 : decode cX1_init 38 = .ok (.aload_n 0, 1) := zo_42 (zkb zk_cX1_init zn_cX1_init rfl)
theorem dX1_init_39 : decode cX1_init 39 = .ok (.bipush 32, 2) := zo_16 (b1 := 32) (zkb2 zk_cX1_init zn_cX1_init rfl) rfl
theorem dX1_init_41 : decode cX1_init 41 = .ok (.newarray .int, 2) := by decide +kernel
theorem dX1_init_43 : decode cX1_init 43 = .ok (.putfield 22, 3) := zo_181 (b1 := 0) (b2 := 22) (zkb3 zk_cX1_init zn_cX1_init rfl) rfl
theorem dX1_init_46 : decode cX1_init 46 = .ok (.aload_n 0, 1) := zo_42 (zkb zk_cX1_init zn_cX1_init rfl)
theorem dX1_init_47 : decode cX1_init 47 = .ok (.getfield 22, 3) := zo_180 (b1 := 0) (b2 := 22) (zkb3 zk_cX1_init zn_cX1_init rfl) rfl
theorem dX1_init_50 : decode cX1_init 50 = .ok (.iconst (-1), 1) := zo_2 (zkb zk_cX1_init zn_cX1_init rfl)
theorem dX1_init_51 : decode cX1_init 51 = .ok (.invokestatic 25, 3) := zo_184 (b1 := 0) (b2 := 25) (zkb3 zk_cX1_init zn_cX1_init rfl) rfl
theorem dX1_init_54 : decode cX1_init 54 = .ok (.return_, 1) := zo_177 (zkb zk_cX1_init zn_cX1_init rfl)
set_option maxRecDepth 20000 in
set_option maxHeartbeats 4000000 in
theorem cX1_init_met (st : Nat → Nat) (l : Launch) (D : va_G) (h0 : Nat)  (σ1 : zSt) (hf : fJ7_fill_53178_k44 zS0 (-1) = some σ1) (sz : Nat) : zN st l yX1_init wzX1_init rmX1_init [.ref h0] D [(h0, .inr (3, [.null, .null, .null, .null, .null, .int 0]))] sz (fun ad cy => wN9 ad cy σ1) tN9 (fun f => h0 = f 9) 5 1590 := by
  refine zN.of (cc := cX1_init) (maxL := 1) (by decide) rfl rfl (Nat.le_of_ble_eq_true rfl) (fun p e s m args below meth c hC hnm A hI ls hl => ?_)
  have hx := hC.1
  have hb := hC.2.1
  refine lv_aload_n hx hb dX1_init_0 rfl (lv_at hl 0 rfl) ?_
  refine z_objInit hC hl (List.mem_cons_of_mem _ zw8_8) (List.mem_cons_of_mem _ zw1_16) (List.mem_cons_of_mem _ zw1_17) dX1_init_1 (Nat.le_of_ble_eq_true rfl) (Nat.le_of_ble_eq_true rfl) ?_
  refine lv_aload_n hx hb dX1_init_4 rfl (lv_at hl 0 rfl) ?_
  refine lv_bipush (v := 9) hx hb dX1_init_5 (by decide) ?_
  refine z_newi hC hI (List.mem_cons_of_mem _ zw3_15) 9 (by decide +kernel) (by decide +kernel) (by decide +kernel) (Nat.le_of_ble_eq_true rfl) (Nat.le_of_ble_eq_true rfl) dX1_init_7 (fun q1 c1 H hI => ?_)
  have hI : zI st D [(c1, .int)] [(h0, .inr (3, [.null, .null, .null, .null, .null, .int 0])), (q1, .inl (c1, 9, .inl (fun _ => 0)))] A s H _ := hI
  refine z_putF hC hnm hI (w1 := [(h0, .inr (3, [.ref q1, .null, .null, .null, .null, .int 0])), (q1, .inl (c1, 9, .inl (fun _ => 0)))]) (fun w h => List.mem_cons_of_mem _ (inlX1 w h)) tyX1_ok nmX1 0 rfl rfl 0 (by decide) (List.mem_cons_of_mem _ zw8_9) rfl rfl rfl rfl (Nat.le_of_ble_eq_true rfl) rfl dX1_init_9 (fun H locs hI => ?_)
  refine lv_aload_n hx hb dX1_init_12 rfl (lv_at hl 0 rfl) ?_
  refine lv_bipush (v := 9) hx hb dX1_init_13 (by decide) ?_
  refine z_newi hC hI (List.mem_cons_of_mem _ zw3_15) 9 (by decide +kernel) (by decide +kernel) (by decide +kernel) (Nat.le_of_ble_eq_true rfl) (Nat.le_of_ble_eq_true rfl) dX1_init_15 (fun q2 c2 H hI => ?_)
  have hI : zI st D [(c1, .int), (c2, .int)] [(h0, .inr (3, [.ref q1, .null, .null, .null, .null, .int 0])), (q1, .inl (c1, 9, .inl (fun _ => 0))), (q2, .inl (c2, 9, .inl (fun _ => 0)))] A s H _ := hI
  refine z_putF hC hnm hI (w1 := [(h0, .inr (3, [.ref q1, .ref q2, .null, .null, .null, .int 0])), (q1, .inl (c1, 9, .inl (fun _ => 0))), (q2, .inl (c2, 9, .inl (fun _ => 0)))]) (fun w h => List.mem_cons_of_mem _ (inlX1 w h)) tyX1_ok nmX1 0 rfl rfl 1 (by decide) (List.mem_cons_of_mem _ zw8_10) rfl rfl rfl rfl (Nat.le_of_ble_eq_true rfl) rfl dX1_init_17 (fun H locs hI => ?_)
  refine lv_aload_n hx hb dX1_init_20 rfl (lv_at hl 0 rfl) ?_
  refine lv_sipush (v := 770) hx hb dX1_init_21 (by decide) ?_
  refine z_newi hC hI (List.mem_cons_of_mem _ zw3_15) 770 (by decide +kernel) (by decide +kernel) (by decide +kernel) (Nat.le_of_ble_eq_true rfl) (Nat.le_of_ble_eq_true rfl) dX1_init_24 (fun q3 c3 H hI => ?_)
  have hI : zI st D [(c1, .int), (c2, .int), (c3, .int)] [(h0, .inr (3, [.ref q1, .ref q2, .null, .null, .null, .int 0])), (q1, .inl (c1, 9, .inl (fun _ => 0))), (q2, .inl (c2, 9, .inl (fun _ => 0))), (q3, .inl (c3, 770, .inl (fun _ => 0)))] A s H _ := hI
  refine z_putF hC hnm hI (w1 := [(h0, .inr (3, [.ref q1, .ref q2, .ref q3, .null, .null, .int 0])), (q1, .inl (c1, 9, .inl (fun _ => 0))), (q2, .inl (c2, 9, .inl (fun _ => 0))), (q3, .inl (c3, 770, .inl (fun _ => 0)))]) (fun w h => List.mem_cons_of_mem _ (inlX1 w h)) tyX1_ok nmX1 0 rfl rfl 2 (by decide) (List.mem_cons_of_mem _ zw8_11) rfl rfl rfl rfl (Nat.le_of_ble_eq_true rfl) rfl dX1_init_26 (fun H locs hI => ?_)
  refine lv_aload_n hx hb dX1_init_29 rfl (lv_at hl 0 rfl) ?_
  refine lv_sipush (v := 770) hx hb dX1_init_30 (by decide) ?_
  refine z_newi hC hI (List.mem_cons_of_mem _ zw3_15) 770 (by decide +kernel) (by decide +kernel) (by decide +kernel) (Nat.le_of_ble_eq_true rfl) (Nat.le_of_ble_eq_true rfl) dX1_init_33 (fun q4 c4 H hI => ?_)
  have hI : zI st D [(c1, .int), (c2, .int), (c3, .int), (c4, .int)] [(h0, .inr (3, [.ref q1, .ref q2, .ref q3, .null, .null, .int 0])), (q1, .inl (c1, 9, .inl (fun _ => 0))), (q2, .inl (c2, 9, .inl (fun _ => 0))), (q3, .inl (c3, 770, .inl (fun _ => 0))), (q4, .inl (c4, 770, .inl (fun _ => 0)))] A s H _ := hI
  refine z_putF hC hnm hI (w1 := [(h0, .inr (3, [.ref q1, .ref q2, .ref q3, .ref q4, .null, .int 0])), (q1, .inl (c1, 9, .inl (fun _ => 0))), (q2, .inl (c2, 9, .inl (fun _ => 0))), (q3, .inl (c3, 770, .inl (fun _ => 0))), (q4, .inl (c4, 770, .inl (fun _ => 0)))]) (fun w h => List.mem_cons_of_mem _ (inlX1 w h)) tyX1_ok nmX1 0 rfl rfl 3 (by decide) (List.mem_cons_of_mem _ zw8_12) rfl rfl rfl rfl (Nat.le_of_ble_eq_true rfl) rfl dX1_init_35 (fun H locs hI => ?_)
  refine lv_aload_n hx hb dX1_init_38 rfl (lv_at hl 0 rfl) ?_
  refine lv_bipush (v := 32) hx hb dX1_init_39 (by decide) ?_
  refine z_newi hC hI (List.mem_cons_of_mem _ zw3_15) 32 (by decide +kernel) (by decide +kernel) (by decide +kernel) (Nat.le_of_ble_eq_true rfl) (Nat.le_of_ble_eq_true rfl) dX1_init_41 (fun q5 c5 H hI => ?_)
  have hI : zI st D [(c1, .int), (c2, .int), (c3, .int), (c4, .int), (c5, .int)] [(h0, .inr (3, [.ref q1, .ref q2, .ref q3, .ref q4, .null, .int 0])), (q1, .inl (c1, 9, .inl (fun _ => 0))), (q2, .inl (c2, 9, .inl (fun _ => 0))), (q3, .inl (c3, 770, .inl (fun _ => 0))), (q4, .inl (c4, 770, .inl (fun _ => 0))), (q5, .inl (c5, 32, .inl (fun _ => 0)))] A s H _ := hI
  refine z_putF hC hnm hI (w1 := [(h0, .inr (3, [.ref q1, .ref q2, .ref q3, .ref q4, .ref q5, .int 0])), (q1, .inl (c1, 9, .inl (fun _ => 0))), (q2, .inl (c2, 9, .inl (fun _ => 0))), (q3, .inl (c3, 770, .inl (fun _ => 0))), (q4, .inl (c4, 770, .inl (fun _ => 0))), (q5, .inl (c5, 32, .inl (fun _ => 0)))]) (fun w h => List.mem_cons_of_mem _ (inlX1 w h)) tyX1_ok nmX1 0 rfl rfl 4 (by decide) (List.mem_cons_of_mem _ zw8_13) rfl rfl rfl rfl (Nat.le_of_ble_eq_true rfl) rfl dX1_init_43 (fun H locs hI => ?_)
  refine lv_aload_n hx hb dX1_init_46 rfl (lv_at hl 0 rfl) ?_
  refine z_get (v := .ref q5) hC hI (fun w h => List.mem_cons_of_mem _ (inlX1 w h)) 0 rfl rfl 4 (by decide) (List.mem_cons_of_mem _ zw8_13) rfl dX1_init_47 ?_
  refine lv_iconst (v := (-1)) hx hb dX1_init_50 (by decide) ?_
  obtain ⟨ad, had⟩ : ∃ f : Nat → Nat, f = (fun j => if j = 9 then h0 else if j = 40 then q1 else if j = 41 then q2 else if j = 42 then q3 else if j = 43 then q4 else if j = 44 then q5 else 0) := ⟨_, rfl⟩
  obtain ⟨cy, hcy⟩ : ∃ f : Nat → ClassId, f = (fun j => if j = 40 then c1 else if j = 41 then c2 else if j = 42 then c3 else if j = 43 then c4 else if j = 44 then c5 else 0) := ⟨_, rfl⟩
  have e9 : h0 = ad 9 := by rw [had]; rfl
  have e40 : q1 = ad 40 := by rw [had]; rfl
  have e41 : q2 = ad 41 := by rw [had]; rfl
  have e42 : q3 = ad 42 := by rw [had]; rfl
  have e43 : q4 = ad 43 := by rw [had]; rfl
  have e44 : q5 = ad 44 := by rw [had]; rfl
  have hI : zI st D (tN9 cy) (wN9 ad cy zS0) A s H locs := by rw [had, hcy]; exact hI
  refine z_callSu (As := [.ref (ad 44), .int (-1)]) (rest := []) hC hI (cJ7_fill_53178_k44_w9_met st l D ad cy zS0 (-1) σ1 hf) (zgS zw8_14 zw5_12 zw5_13 zw5_14) rfl ⟨rfl, rfl⟩ 2 hdJ7_fill_53178_k44_w9 ⟨Nat.le_of_ble_eq_true rfl, Nat.le_of_ble_eq_true rfl⟩ rfl hl (by rw [← e44]; rfl) (Nat.le_of_ble_eq_true rfl) dX1_init_51 ⟨Nat.le_of_ble_eq_true rfl, Nat.le_of_ble_eq_true rfl⟩ (fun H locs hI => ?_)
  exact z_nreturn0 (wn := fun ad cy => wN9 ad cy σ1) (tn := tN9) (ex := fun f => h0 = f 9) hC ad cy hI e9 (Nat.le_refl _) (Nat.le_refl _) dX1_init_54
theorem hdX1_init : yX1_init.cls ≠ "java/lang/invoke/MethodHandle" ∧ yX1_init.cls ≠ "java/lang/invoke/VarHandle" ∧ (parseMethodDescriptor yX1_init.desc).map (fun d => d.parameters.length) = some 0 := by decide +kernel
noncomputable def rmX8_init : Room := { frames := 1, cells := 1, slots := 32, locals := 20 }
noncomputable def wzX8_init : List Cond := .code yX8_init cX8_init 2 none :: wsL_law
noncomputable def kn_cX8_init : Nat := 0xb10d00b52b2a0900b50abc20102a0100b72a
theorem zk_cX8_init : zkd cX8_init.data.toList kn_cX8_init = true := by decide +kernel
theorem zn_cX8_init : cX8_init.data.toList.length = 18 := by decide +kernel
theorem dX8_init_0 : decode cX8_init 0 = .ok (.aload_n 0, 1) := zo_42 (zkb zk_cX8_init zn_cX8_init rfl)
theorem dX8_init_1 : decode cX8_init 1 = .ok (.invokespecial 1, 3) := zo_183 (b1 := 0) (b2 := 1) (zkb3 zk_cX8_init zn_cX8_init rfl) rfl
theorem dX8_init_4 : decode cX8_init 4 = .ok (.aload_n 0, 1) := zo_42 (zkb zk_cX8_init zn_cX8_init rfl)
theorem dX8_init_5 : decode cX8_init 5 = .ok (.bipush 32, 2) := zo_16 (b1 := 32) (zkb2 zk_cX8_init zn_cX8_init rfl) rfl
theorem dX8_init_7 : decode cX8_init 7 = .ok (.newarray .int, 2) := by decide +kernel
theorem dX8_init_9 : decode cX8_init 9 = .ok (.putfield 9, 3) := zo_181 (b1 := 0) (b2 := 9) (zkb3 zk_cX8_init zn_cX8_init rfl) rfl
theorem dX8_init_12 : decode cX8_init 12 = .ok (.aload_n 0, 1) := zo_42 (zkb zk_cX8_init zn_cX8_init rfl)
theorem dX8_init_13 : decode cX8_init 13 = .ok (.aload_n 1, 1) := zo_43 (zkb zk_cX8_init zn_cX8_init rfl)
theorem dX8_init_14 : decode cX8_init 14 = .ok (.putfield 13, 3) := zo_181 (b1 := 0) (b2 := 13) (zkb3 zk_cX8_init zn_cX8_init rfl) rfl
theorem dX8_init_17 : decode cX8_init 17 = .ok (.return_, 1) := zo_177 (zkb zk_cX8_init zn_cX8_init rfl)
set_option maxRecDepth 20000 in
set_option maxHeartbeats 4000000 in
theorem cX8_init_met (st : Nat → Nat) (l : Launch) (D : va_G) (h0 : Nat) (a1 : Nat)  (sz : Nat) : zN st l yX8_init wzX8_init rmX8_init [.ref h0, .ref a1] D [(h0, .inr (10, [.null, .null, .int 0, .int 0, .int 0, .int 0, .int 0, .int 0, .int 0, .int 0, .int 0]))] sz (fun ad cy => wN10 ad cy zS0) tN10 (fun f => h0 = f 10 ∧ a1 = f 1) 1 32 := by
  refine zN.of (cc := cX8_init) (maxL := 2) (by decide) rfl rfl (Nat.le_of_ble_eq_true rfl) (fun p e s m args below meth c hC hnm A hI ls hl => ?_)
  have hx := hC.1
  have hb := hC.2.1
  refine lv_aload_n hx hb dX8_init_0 rfl (lv_at hl 0 rfl) ?_
  refine z_objInit hC hl (List.mem_cons_of_mem _ zw8_18) (List.mem_cons_of_mem _ zw1_16) (List.mem_cons_of_mem _ zw1_17) dX8_init_1 (Nat.le_of_ble_eq_true rfl) (Nat.le_of_ble_eq_true rfl) ?_
  refine lv_aload_n hx hb dX8_init_4 rfl (lv_at hl 0 rfl) ?_
  refine lv_bipush (v := 32) hx hb dX8_init_5 (by decide) ?_
  refine z_newi hC hI (List.mem_cons_of_mem _ zw3_15) 32 (by decide +kernel) (by decide +kernel) (by decide +kernel) (Nat.le_of_ble_eq_true rfl) (Nat.le_of_ble_eq_true rfl) dX8_init_7 (fun q1 c1 H hI => ?_)
  have hI : zI st D [(c1, .int)] [(h0, .inr (10, [.null, .null, .int 0, .int 0, .int 0, .int 0, .int 0, .int 0, .int 0, .int 0, .int 0])), (q1, .inl (c1, 32, .inl (fun _ => 0)))] A s H _ := hI
  refine z_putF hC hnm hI (w1 := [(h0, .inr (10, [.null, .ref q1, .int 0, .int 0, .int 0, .int 0, .int 0, .int 0, .int 0, .int 0, .int 0])), (q1, .inl (c1, 32, .inl (fun _ => 0)))]) (fun w h => List.mem_cons_of_mem _ (inlX8 w h)) tyX8_ok nmX8 0 rfl rfl 1 (by decide) (List.mem_cons_of_mem _ zw8_19) rfl rfl rfl rfl (Nat.le_of_ble_eq_true rfl) rfl dX8_init_9 (fun H locs hI => ?_)
  refine lv_aload_n hx hb dX8_init_12 rfl (lv_at hl 0 rfl) ?_
  refine lv_aload_n hx hb dX8_init_13 rfl (lv_at hl 1 rfl) ?_
  refine z_putF hC hnm hI (w1 := [(h0, .inr (10, [.ref a1, .ref q1, .int 0, .int 0, .int 0, .int 0, .int 0, .int 0, .int 0, .int 0, .int 0])), (q1, .inl (c1, 32, .inl (fun _ => 0)))]) (fun w h => List.mem_cons_of_mem _ (inlX8 w h)) tyX8_ok nmX8 0 rfl rfl 0 (by decide) (List.mem_cons_of_mem _ zw8_20) rfl rfl rfl rfl (Nat.le_of_ble_eq_true rfl) rfl dX8_init_14 (fun H locs hI => ?_)
  obtain ⟨ad, had⟩ : ∃ f : Nat → Nat, f = (fun j => if j = 10 then h0 else if j = 45 then q1 else if j = 1 then a1 else 0) := ⟨_, rfl⟩
  obtain ⟨cy, hcy⟩ : ∃ f : Nat → ClassId, f = (fun j => if j = 45 then c1 else 0) := ⟨_, rfl⟩
  have e10 : h0 = ad 10 := by rw [had]; rfl
  have e45 : q1 = ad 45 := by rw [had]; rfl
  have e1 : a1 = ad 1 := by rw [had]; rfl
  have hI : zI st D (tN10 cy) (wN10 ad cy zS0) A s H locs := by rw [had, hcy]; exact hI
  exact z_nreturn0 (wn := fun ad cy => wN10 ad cy zS0) (tn := tN10) (ex := fun f => h0 = f 10 ∧ a1 = f 1) hC ad cy hI ⟨e10, e1⟩ (Nat.le_refl _) (Nat.le_refl _) dX8_init_17
theorem hdX8_init : yX8_init.cls ≠ "java/lang/invoke/MethodHandle" ∧ yX8_init.cls ≠ "java/lang/invoke/VarHandle" ∧ (parseMethodDescriptor yX8_init.desc).map (fun d => d.parameters.length) = some 1 := by decide +kernel
noncomputable def rmX6_init_k11 : Room := { frames := 1, cells := 2, slots := 8192, locals := 20 }
noncomputable def wzX6_init : List Cond := .code yX6_init cX6_init 1 none :: wsL_law
noncomputable def kn_cX6_init : Nat := 0xb10d00b50bbc0010112a0900b50bbc0010112a0100b72a
theorem zk_cX6_init : zkd cX6_init.data.toList kn_cX6_init = true := by decide +kernel
theorem zn_cX6_init : cX6_init.data.toList.length = 23 := by decide +kernel
theorem dX6_init_0 : decode cX6_init 0 = .ok (.aload_n 0, 1) := zo_42 (zkb zk_cX6_init zn_cX6_init rfl)
theorem dX6_init_1 : decode cX6_init 1 = .ok (.invokespecial 1, 3) := zo_183 (b1 := 0) (b2 := 1) (zkb3 zk_cX6_init zn_cX6_init rfl) rfl
theorem dX6_init_4 : decode cX6_init 4 = .ok (.aload_n 0, 1) := zo_42 (zkb zk_cX6_init zn_cX6_init rfl)
theorem dX6_init_5 : decode cX6_init 5 = .ok (.sipush 4096, 3) := zo_17 (b1 := 16) (b2 := 0) (zkb3 zk_cX6_init zn_cX6_init rfl) rfl
theorem dX6_init_8 : decode cX6_init 8 = .ok (.newarray .long, 2) := by decide +kernel
theorem dX6_init_10 : decode cX6_init 10 = .ok (.putfield 9, 3) := zo_181 (b1 := 0) (b2 := 9) (zkb3 zk_cX6_init zn_cX6_init rfl) rfl
theorem dX6_init_13 : decode cX6_init 13 = .ok (.aload_n 0, 1) := zo_42 (zkb zk_cX6_init zn_cX6_init rfl)
theorem dX6_init_14 : decode cX6_init 14 = .ok (.sipush 4096, 3) := zo_17 (b1 := 16) (b2 := 0) (zkb3 zk_cX6_init zn_cX6_init rfl) rfl
theorem dX6_init_17 : decode cX6_init 17 = .ok (.newarray .long, 2) := by decide +kernel
theorem dX6_init_19 : decode cX6_init 19 = .ok (.putfield 13, 3) := zo_181 (b1 := 0) (b2 := 13) (zkb3 zk_cX6_init zn_cX6_init rfl) rfl
theorem dX6_init_22 : decode cX6_init 22 = .ok (.return_, 1) := zo_177 (zkb zk_cX6_init zn_cX6_init rfl)
set_option maxRecDepth 20000 in
set_option maxHeartbeats 4000000 in
theorem cX6_init_k11_met (st : Nat → Nat) (l : Launch) (D : va_G) (h0 : Nat)   (sz : Nat) : zN st l yX6_init wzX6_init rmX6_init_k11 [.ref h0] D [(h0, .inr (8, [.null, .null, .int 0, .int 0, .int 0, .int 0]))] sz (fun ad cy => wN11 ad cy zS0) tN11 (fun f => h0 = f 11) 2 8192 := by
  refine zN.of (cc := cX6_init) (maxL := 1) (by decide) rfl rfl (Nat.le_of_ble_eq_true rfl) (fun p e s m args below meth c hC hnm A hI ls hl => ?_)
  have hx := hC.1
  have hb := hC.2.1
  refine lv_aload_n hx hb dX6_init_0 rfl (lv_at hl 0 rfl) ?_
  refine z_objInit hC hl (List.mem_cons_of_mem _ zw8_2) (List.mem_cons_of_mem _ zw1_16) (List.mem_cons_of_mem _ zw1_17) dX6_init_1 (Nat.le_of_ble_eq_true rfl) (Nat.le_of_ble_eq_true rfl) ?_
  refine lv_aload_n hx hb dX6_init_4 rfl (lv_at hl 0 rfl) ?_
  refine lv_sipush (v := 4096) hx hb dX6_init_5 (by decide) ?_
  refine z_newl hC hI (List.mem_cons_of_mem _ zw1_6) 4096 (by decide +kernel) (by decide +kernel) (by decide +kernel) (Nat.le_of_ble_eq_true rfl) (Nat.le_of_ble_eq_true rfl) dX6_init_8 (fun q1 c1 H hI => ?_)
  have hI : zI st D [(c1, .long)] [(h0, .inr (8, [.null, .null, .int 0, .int 0, .int 0, .int 0])), (q1, .inl (c1, 4096, .inr (.inl (fun _ => 0))))] A s H _ := hI
  refine z_putF hC hnm hI (w1 := [(h0, .inr (8, [.ref q1, .null, .int 0, .int 0, .int 0, .int 0])), (q1, .inl (c1, 4096, .inr (.inl (fun _ => 0))))]) (fun w h => List.mem_cons_of_mem _ (inlX6 w h)) tyX6_ok nmX6 0 rfl rfl 0 (by decide) (List.mem_cons_of_mem _ zw8_3) rfl rfl rfl rfl (Nat.le_of_ble_eq_true rfl) rfl dX6_init_10 (fun H locs hI => ?_)
  refine lv_aload_n hx hb dX6_init_13 rfl (lv_at hl 0 rfl) ?_
  refine lv_sipush (v := 4096) hx hb dX6_init_14 (by decide) ?_
  refine z_newl hC hI (List.mem_cons_of_mem _ zw1_6) 4096 (by decide +kernel) (by decide +kernel) (by decide +kernel) (Nat.le_of_ble_eq_true rfl) (Nat.le_of_ble_eq_true rfl) dX6_init_17 (fun q2 c2 H hI => ?_)
  have hI : zI st D [(c1, .long), (c2, .long)] [(h0, .inr (8, [.ref q1, .null, .int 0, .int 0, .int 0, .int 0])), (q1, .inl (c1, 4096, .inr (.inl (fun _ => 0)))), (q2, .inl (c2, 4096, .inr (.inl (fun _ => 0))))] A s H _ := hI
  refine z_putF hC hnm hI (w1 := [(h0, .inr (8, [.ref q1, .ref q2, .int 0, .int 0, .int 0, .int 0])), (q1, .inl (c1, 4096, .inr (.inl (fun _ => 0)))), (q2, .inl (c2, 4096, .inr (.inl (fun _ => 0))))]) (fun w h => List.mem_cons_of_mem _ (inlX6 w h)) tyX6_ok nmX6 0 rfl rfl 1 (by decide) (List.mem_cons_of_mem _ zw8_4) rfl rfl rfl rfl (Nat.le_of_ble_eq_true rfl) rfl dX6_init_19 (fun H locs hI => ?_)
  obtain ⟨ad, had⟩ : ∃ f : Nat → Nat, f = (fun j => if j = 11 then h0 else if j = 46 then q1 else if j = 47 then q2 else 0) := ⟨_, rfl⟩
  obtain ⟨cy, hcy⟩ : ∃ f : Nat → ClassId, f = (fun j => if j = 46 then c1 else if j = 47 then c2 else 0) := ⟨_, rfl⟩
  have e11 : h0 = ad 11 := by rw [had]; rfl
  have e46 : q1 = ad 46 := by rw [had]; rfl
  have e47 : q2 = ad 47 := by rw [had]; rfl
  have hI : zI st D (tN11 cy) (wN11 ad cy zS0) A s H locs := by rw [had, hcy]; exact hI
  exact z_nreturn0 (wn := fun ad cy => wN11 ad cy zS0) (tn := tN11) (ex := fun f => h0 = f 11) hC ad cy hI e11 (Nat.le_refl _) (Nat.le_refl _) dX6_init_22
theorem hdX6_init : yX6_init.cls ≠ "java/lang/invoke/MethodHandle" ∧ yX6_init.cls ≠ "java/lang/invoke/VarHandle" ∧ (parseMethodDescriptor yX6_init.desc).map (fun d => d.parameters.length) = some 0 := by decide +kernel
noncomputable def rmX6_init_k12 : Room := { frames := 1, cells := 2, slots := 8192, locals := 20 }
set_option maxRecDepth 20000 in
set_option maxHeartbeats 4000000 in
theorem cX6_init_k12_met (st : Nat → Nat) (l : Launch) (D : va_G) (h0 : Nat)   (sz : Nat) : zN st l yX6_init wzX6_init rmX6_init_k12 [.ref h0] D [(h0, .inr (8, [.null, .null, .int 0, .int 0, .int 0, .int 0]))] sz (fun ad cy => wN12 ad cy zS0) tN12 (fun f => h0 = f 12) 2 8192 := by
  refine zN.of (cc := cX6_init) (maxL := 1) (by decide) rfl rfl (Nat.le_of_ble_eq_true rfl) (fun p e s m args below meth c hC hnm A hI ls hl => ?_)
  have hx := hC.1
  have hb := hC.2.1
  refine lv_aload_n hx hb dX6_init_0 rfl (lv_at hl 0 rfl) ?_
  refine z_objInit hC hl (List.mem_cons_of_mem _ zw8_2) (List.mem_cons_of_mem _ zw1_16) (List.mem_cons_of_mem _ zw1_17) dX6_init_1 (Nat.le_of_ble_eq_true rfl) (Nat.le_of_ble_eq_true rfl) ?_
  refine lv_aload_n hx hb dX6_init_4 rfl (lv_at hl 0 rfl) ?_
  refine lv_sipush (v := 4096) hx hb dX6_init_5 (by decide) ?_
  refine z_newl hC hI (List.mem_cons_of_mem _ zw1_6) 4096 (by decide +kernel) (by decide +kernel) (by decide +kernel) (Nat.le_of_ble_eq_true rfl) (Nat.le_of_ble_eq_true rfl) dX6_init_8 (fun q1 c1 H hI => ?_)
  have hI : zI st D [(c1, .long)] [(h0, .inr (8, [.null, .null, .int 0, .int 0, .int 0, .int 0])), (q1, .inl (c1, 4096, .inr (.inl (fun _ => 0))))] A s H _ := hI
  refine z_putF hC hnm hI (w1 := [(h0, .inr (8, [.ref q1, .null, .int 0, .int 0, .int 0, .int 0])), (q1, .inl (c1, 4096, .inr (.inl (fun _ => 0))))]) (fun w h => List.mem_cons_of_mem _ (inlX6 w h)) tyX6_ok nmX6 0 rfl rfl 0 (by decide) (List.mem_cons_of_mem _ zw8_3) rfl rfl rfl rfl (Nat.le_of_ble_eq_true rfl) rfl dX6_init_10 (fun H locs hI => ?_)
  refine lv_aload_n hx hb dX6_init_13 rfl (lv_at hl 0 rfl) ?_
  refine lv_sipush (v := 4096) hx hb dX6_init_14 (by decide) ?_
  refine z_newl hC hI (List.mem_cons_of_mem _ zw1_6) 4096 (by decide +kernel) (by decide +kernel) (by decide +kernel) (Nat.le_of_ble_eq_true rfl) (Nat.le_of_ble_eq_true rfl) dX6_init_17 (fun q2 c2 H hI => ?_)
  have hI : zI st D [(c1, .long), (c2, .long)] [(h0, .inr (8, [.ref q1, .null, .int 0, .int 0, .int 0, .int 0])), (q1, .inl (c1, 4096, .inr (.inl (fun _ => 0)))), (q2, .inl (c2, 4096, .inr (.inl (fun _ => 0))))] A s H _ := hI
  refine z_putF hC hnm hI (w1 := [(h0, .inr (8, [.ref q1, .ref q2, .int 0, .int 0, .int 0, .int 0])), (q1, .inl (c1, 4096, .inr (.inl (fun _ => 0)))), (q2, .inl (c2, 4096, .inr (.inl (fun _ => 0))))]) (fun w h => List.mem_cons_of_mem _ (inlX6 w h)) tyX6_ok nmX6 0 rfl rfl 1 (by decide) (List.mem_cons_of_mem _ zw8_4) rfl rfl rfl rfl (Nat.le_of_ble_eq_true rfl) rfl dX6_init_19 (fun H locs hI => ?_)
  obtain ⟨ad, had⟩ : ∃ f : Nat → Nat, f = (fun j => if j = 12 then h0 else if j = 48 then q1 else if j = 49 then q2 else 0) := ⟨_, rfl⟩
  obtain ⟨cy, hcy⟩ : ∃ f : Nat → ClassId, f = (fun j => if j = 48 then c1 else if j = 49 then c2 else 0) := ⟨_, rfl⟩
  have e12 : h0 = ad 12 := by rw [had]; rfl
  have e48 : q1 = ad 48 := by rw [had]; rfl
  have e49 : q2 = ad 49 := by rw [had]; rfl
  have hI : zI st D (tN12 cy) (wN12 ad cy zS0) A s H locs := by rw [had, hcy]; exact hI
  exact z_nreturn0 (wn := fun ad cy => wN12 ad cy zS0) (tn := tN12) (ex := fun f => h0 = f 12) hC ad cy hI e12 (Nat.le_refl _) (Nat.le_refl _) dX6_init_22
noncomputable def rmX0_init : Room := { frames := 2, cells := 8, slots := 16410, locals := 40 }
noncomputable def wzX0_init : List Cond := .code yX0_init cX0_init 3 none :: wsL_law
noncomputable def kn_cX0_init : Nat := 0xb11e00b52c2a1a00b52b2a1700b50bbc07102a1300b50bbc07102a1000b50900b7590700bb2a0a00b50900b7590700bb2a0100b72a
theorem zk_cX0_init : zkd cX0_init.data.toList kn_cX0_init = true := by decide +kernel
theorem zn_cX0_init : cX0_init.data.toList.length = 53 := by decide +kernel
theorem dX0_init_0 : decode cX0_init 0 = .ok (.aload_n 0, 1) := zo_42 (zkb zk_cX0_init zn_cX0_init rfl)
theorem dX0_init_1 : decode cX0_init 1 = .ok (.invokespecial 1, 3) := zo_183 (b1 := 0) (b2 := 1) (zkb3 zk_cX0_init zn_cX0_init rfl) rfl
theorem dX0_init_4 : decode cX0_init 4 = .ok (.aload_n 0, 1) := zo_42 (zkb zk_cX0_init zn_cX0_init rfl)
theorem dX0_init_5 : decode cX0_init 5 = .ok (.new 7, 3) := zo_187 (b1 := 0) (b2 := 7) (zkb3 zk_cX0_init zn_cX0_init rfl) rfl
theorem dX0_init_8 : decode cX0_init 8 = .ok (.dup, 1) := zo_89 (zkb zk_cX0_init zn_cX0_init rfl)
theorem dX0_init_9 : decode cX0_init 9 = .ok (.invokespecial 9, 3) := zo_183 (b1 := 0) (b2 := 9) (zkb3 zk_cX0_init zn_cX0_init rfl) rfl
theorem dX0_init_12 : decode cX0_init 12 = .ok (.putfield 10, 3) := zo_181 (b1 := 0) (b2 := 10) (zkb3 zk_cX0_init zn_cX0_init rfl) rfl
theorem dX0_init_15 : decode cX0_init 15 = .ok (.aload_n 0, 1) := zo_42 (zkb zk_cX0_init zn_cX0_init rfl)
theorem dX0_init_16 : decode cX0_init 16 = .ok (.new 7, 3) := zo_187 (b1 := 0) (b2 := 7) (zkb3 zk_cX0_init zn_cX0_init rfl) rfl
theorem dX0_init_19 : decode cX0_init 19 = .ok (.dup, 1) := zo_89 (zkb zk_cX0_init zn_cX0_init rfl)
theorem dX0_init_20 : decode cX0_init 20 = .ok (.invokespecial 9, 3) := zo_183 (b1 := 0) (b2 := 9) (zkb3 zk_cX0_init zn_cX0_init rfl) rfl
theorem dX0_init_23 : decode cX0_init 23 = .ok (.putfield 16, 3) := zo_181 (b1 := 0) (b2 := 16) (zkb3 zk_cX0_init zn_cX0_init rfl) rfl
theorem dX0_init_26 : decode cX0_init 26 = .ok (.aload_n 0, 1) := zo_42 (zkb zk_cX0_init zn_cX0_init rfl)
theorem dX0_init_27 : decode cX0_init 27 = .ok (.bipush 7, 2) := zo_16 (b1 := 7) (zkb2 zk_cX0_init zn_cX0_init rfl) rfl
theorem dX0_init_29 : decode cX0_init 29 = .ok (.newarray .long, 2) := by decide +kernel
theorem dX0_init_31 : decode cX0_init 31 = .ok (.putfield 19, 3) := zo_181 (b1 := 0) (b2 := 19) (zkb3 zk_cX0_init zn_cX0_init rfl) rfl
theorem dX0_init_34 : decode cX0_init 34 = .ok (.aload_n 0, 1) := zo_42 (zkb zk_cX0_init zn_cX0_init rfl)
theorem dX0_init_35 : decode cX0_init 35 = .ok (.bipush 7, 2) := zo_16 (b1 := 7) (zkb2 zk_cX0_init zn_cX0_init rfl) rfl
theorem dX0_init_37 : decode cX0_init 37 = .ok (.newarray .long, 2) := by decide +kernel
theorem dX0_init_39 : decode cX0_init 39 = .ok (.putfield 23, 3) := zo_181 (b1 := 0) (b2 := 23) (zkb3 zk_cX0_init zn_cX0_init rfl) rfl
theorem dX0_init_42 : decode cX0_init 42 = .ok (.aload_n 0, 1) := zo_42 (zkb zk_cX0_init zn_cX0_init rfl)
theorem dX0_init_43 : decode cX0_init 43 = .ok (.aload_n 1, 1) := zo_43 (zkb zk_cX0_init zn_cX0_init rfl)
theorem dX0_init_44 : decode cX0_init 44 = .ok (.putfield 26, 3) := zo_181 (b1 := 0) (b2 := 26) (zkb3 zk_cX0_init zn_cX0_init rfl) rfl
theorem dX0_init_47 : decode cX0_init 47 = .ok (.aload_n 0, 1) := zo_42 (zkb zk_cX0_init zn_cX0_init rfl)
theorem dX0_init_48 : decode cX0_init 48 = .ok (.aload_n 2, 1) := zo_44 (zkb zk_cX0_init zn_cX0_init rfl)
theorem dX0_init_49 : decode cX0_init 49 = .ok (.putfield 30, 3) := zo_181 (b1 := 0) (b2 := 30) (zkb3 zk_cX0_init zn_cX0_init rfl) rfl
theorem dX0_init_52 : decode cX0_init 52 = .ok (.return_, 1) := zo_177 (zkb zk_cX0_init zn_cX0_init rfl)
set_option maxRecDepth 20000 in
set_option maxHeartbeats 4000000 in
theorem cX0_init_met (st : Nat → Nat) (l : Launch) (D : va_G) (h0 : Nat) (a4 : Nat) (a5 : Nat)  (sz : Nat) : zN st l yX0_init wzX0_init rmX0_init [.ref h0, .ref a4, .ref a5] D [(h0, .inr (2, [.null, .null, .null, .null, .null, .null]))] sz (fun ad cy => wN8 ad cy zS0) tN8 (fun f => h0 = f 8 ∧ a4 = f 4 ∧ a5 = f 5) 8 16410 := by
  refine zN.of (cc := cX0_init) (maxL := 3) (by decide) rfl rfl (Nat.le_of_ble_eq_true rfl) (fun p e s m args below meth c hC hnm A hI ls hl => ?_)
  have hx := hC.1
  have hb := hC.2.1
  refine lv_aload_n hx hb dX0_init_0 rfl (lv_at hl 0 rfl) ?_
  refine z_objInit hC hl (List.mem_cons_of_mem _ zw7_14) (List.mem_cons_of_mem _ zw1_16) (List.mem_cons_of_mem _ zw1_17) dX0_init_1 (Nat.le_of_ble_eq_true rfl) (Nat.le_of_ble_eq_true rfl) ?_
  refine lv_aload_n hx hb dX0_init_4 rfl (lv_at hl 0 rfl) ?_
  refine z_new (ci := 8) hC hI (fun w h => List.mem_cons_of_mem _ (inlX6 w h)) tyX6_ok (List.mem_cons_of_mem _ zw7_15) (List.mem_cons_of_mem _ zw7_16) (List.mem_cons_of_mem _ zw7_17) rfl [.null, .null, .int 0, .int 0, .int 0, .int 0] (fun j hj => by rcases (show j = 0 ∨ j = 1 ∨ j = 2 ∨ j = 3 ∨ j = 4 ∨ j = 5 by omega) with rfl | rfl | rfl | rfl | rfl | rfl <;> rfl) (Nat.le_of_ble_eq_true rfl) (Nat.le_of_ble_eq_true rfl) dX0_init_5 (fun q1 H hI => ?_)
  have hI : zI st D [] ([(h0, .inr (2, [.null, .null, .null, .null, .null, .null]))] ++ [(q1, .inr (8, [.null, .null, .int 0, .int 0, .int 0, .int 0]))]) A s H _ := hI
  refine lv_dup hx hb dX0_init_8 rfl ?_
  refine z_callIN (As := []) (rest := [.ref q1, .ref h0]) (host := "PadConsole") hC hI (cX6_init_k11_met st l D q1  ) (zgI zw8_1) rfl rfl rfl (List.mem_cons_of_mem _ zw7_17) (by decide) (List.mem_cons_of_mem _ zw8_0) rfl 0 hdX6_init ⟨Nat.le_of_ble_eq_true rfl, Nat.le_of_ble_eq_true rfl⟩ rfl hl rfl (Nat.le_of_ble_eq_true rfl) dX0_init_9 ⟨Nat.le_of_ble_eq_true rfl, Nat.le_of_ble_eq_true rfl⟩ (fun ad11 cy11 H locs hex hI2 => ?_)
  have hq11 : q1 = ad11 11 := hex
  subst hq11
  have hI : zI st D (tN11 cy11) ([(h0, .inr (2, [.null, .null, .null, .null, .null, .null]))] ++ wN11 ad11 cy11 zS0) A s H _ := hI2
  refine z_putF hC hnm hI (w1 := ([(h0, .inr (2, [.null, .null, .ref (ad11 11), .null, .null, .null]))] ++ wN11 ad11 cy11 zS0)) (fun w h => List.mem_cons_of_mem _ (inlX0 w h)) tyX0_ok nmX0 0 rfl rfl 2 (by decide) (List.mem_cons_of_mem _ zw7_18) rfl rfl rfl rfl (Nat.le_of_ble_eq_true rfl) rfl dX0_init_12 (fun H locs hI => ?_)
  refine lv_aload_n hx hb dX0_init_15 rfl (lv_at hl 0 rfl) ?_
  refine z_new (ci := 8) hC hI (fun w h => List.mem_cons_of_mem _ (inlX6 w h)) tyX6_ok (List.mem_cons_of_mem _ zw7_15) (List.mem_cons_of_mem _ zw7_16) (List.mem_cons_of_mem _ zw7_17) rfl [.null, .null, .int 0, .int 0, .int 0, .int 0] (fun j hj => by rcases (show j = 0 ∨ j = 1 ∨ j = 2 ∨ j = 3 ∨ j = 4 ∨ j = 5 by omega) with rfl | rfl | rfl | rfl | rfl | rfl <;> rfl) (Nat.le_of_ble_eq_true rfl) (Nat.le_of_ble_eq_true rfl) dX0_init_16 (fun q2 H hI => ?_)
  have hI : zI st D (tN11 cy11) (([(h0, .inr (2, [.null, .null, .ref (ad11 11), .null, .null, .null]))] ++ wN11 ad11 cy11 zS0) ++ [(q2, .inr (8, [.null, .null, .int 0, .int 0, .int 0, .int 0]))]) A s H _ := hI
  refine lv_dup hx hb dX0_init_19 rfl ?_
  refine z_callIN (As := []) (rest := [.ref q2, .ref h0]) (host := "PadConsole") hC hI (cX6_init_k12_met st l D q2  ) (zgI zw8_1) rfl rfl rfl (List.mem_cons_of_mem _ zw7_17) (by decide) (List.mem_cons_of_mem _ zw8_0) rfl 0 hdX6_init ⟨Nat.le_of_ble_eq_true rfl, Nat.le_of_ble_eq_true rfl⟩ rfl hl rfl (Nat.le_of_ble_eq_true rfl) dX0_init_20 ⟨Nat.le_of_ble_eq_true rfl, Nat.le_of_ble_eq_true rfl⟩ (fun ad12 cy12 H locs hex hI2 => ?_)
  have hq12 : q2 = ad12 12 := hex
  subst hq12
  have hI : zI st D (tN11 cy11 ++ tN12 cy12) (([(h0, .inr (2, [.null, .null, .ref (ad11 11), .null, .null, .null]))] ++ wN11 ad11 cy11 zS0) ++ wN12 ad12 cy12 zS0) A s H _ := hI2
  refine z_putF hC hnm hI (w1 := (([(h0, .inr (2, [.null, .null, .ref (ad11 11), .ref (ad12 12), .null, .null]))] ++ wN11 ad11 cy11 zS0) ++ wN12 ad12 cy12 zS0)) (fun w h => List.mem_cons_of_mem _ (inlX0 w h)) tyX0_ok nmX0 0 rfl rfl 3 (by decide) (List.mem_cons_of_mem _ zw7_19) rfl rfl rfl rfl (Nat.le_of_ble_eq_true rfl) rfl dX0_init_23 (fun H locs hI => ?_)
  refine lv_aload_n hx hb dX0_init_26 rfl (lv_at hl 0 rfl) ?_
  refine lv_bipush (v := 7) hx hb dX0_init_27 (by decide) ?_
  refine z_newl hC hI (List.mem_cons_of_mem _ zw1_6) 7 (by decide +kernel) (by decide +kernel) (by decide +kernel) (Nat.le_of_ble_eq_true rfl) (Nat.le_of_ble_eq_true rfl) dX0_init_29 (fun q3 c3 H hI => ?_)
  have hI : zI st D ((tN11 cy11 ++ tN12 cy12) ++ [(c3, .long)]) ((([(h0, .inr (2, [.null, .null, .ref (ad11 11), .ref (ad12 12), .null, .null]))] ++ wN11 ad11 cy11 zS0) ++ wN12 ad12 cy12 zS0) ++ [(q3, .inl (c3, 7, .inr (.inl (fun _ => 0))))]) A s H _ := hI
  refine z_putF hC hnm hI (w1 := ((([(h0, .inr (2, [.null, .null, .ref (ad11 11), .ref (ad12 12), .ref q3, .null]))] ++ wN11 ad11 cy11 zS0) ++ wN12 ad12 cy12 zS0) ++ [(q3, .inl (c3, 7, .inr (.inl (fun _ => 0))))])) (fun w h => List.mem_cons_of_mem _ (inlX0 w h)) tyX0_ok nmX0 0 rfl rfl 4 (by decide) (List.mem_cons_of_mem _ zw7_20) rfl rfl rfl rfl (Nat.le_of_ble_eq_true rfl) rfl dX0_init_31 (fun H locs hI => ?_)
  refine lv_aload_n hx hb dX0_init_34 rfl (lv_at hl 0 rfl) ?_
  refine lv_bipush (v := 7) hx hb dX0_init_35 (by decide) ?_
  refine z_newl hC hI (List.mem_cons_of_mem _ zw1_6) 7 (by decide +kernel) (by decide +kernel) (by decide +kernel) (Nat.le_of_ble_eq_true rfl) (Nat.le_of_ble_eq_true rfl) dX0_init_37 (fun q4 c4 H hI => ?_)
  have hI : zI st D ((tN11 cy11 ++ tN12 cy12) ++ [(c3, .long), (c4, .long)]) ((([(h0, .inr (2, [.null, .null, .ref (ad11 11), .ref (ad12 12), .ref q3, .null]))] ++ wN11 ad11 cy11 zS0) ++ wN12 ad12 cy12 zS0) ++ [(q3, .inl (c3, 7, .inr (.inl (fun _ => 0)))), (q4, .inl (c4, 7, .inr (.inl (fun _ => 0))))]) A s H _ := hI
  refine z_putF hC hnm hI (w1 := ((([(h0, .inr (2, [.null, .null, .ref (ad11 11), .ref (ad12 12), .ref q3, .ref q4]))] ++ wN11 ad11 cy11 zS0) ++ wN12 ad12 cy12 zS0) ++ [(q3, .inl (c3, 7, .inr (.inl (fun _ => 0)))), (q4, .inl (c4, 7, .inr (.inl (fun _ => 0))))])) (fun w h => List.mem_cons_of_mem _ (inlX0 w h)) tyX0_ok nmX0 0 rfl rfl 5 (by decide) (List.mem_cons_of_mem _ zw7_21) rfl rfl rfl rfl (Nat.le_of_ble_eq_true rfl) rfl dX0_init_39 (fun H locs hI => ?_)
  refine lv_aload_n hx hb dX0_init_42 rfl (lv_at hl 0 rfl) ?_
  refine lv_aload_n hx hb dX0_init_43 rfl (lv_at hl 1 rfl) ?_
  refine z_putF hC hnm hI (w1 := ((([(h0, .inr (2, [.ref a4, .null, .ref (ad11 11), .ref (ad12 12), .ref q3, .ref q4]))] ++ wN11 ad11 cy11 zS0) ++ wN12 ad12 cy12 zS0) ++ [(q3, .inl (c3, 7, .inr (.inl (fun _ => 0)))), (q4, .inl (c4, 7, .inr (.inl (fun _ => 0))))])) (fun w h => List.mem_cons_of_mem _ (inlX0 w h)) tyX0_ok nmX0 0 rfl rfl 0 (by decide) (List.mem_cons_of_mem _ zw7_22) rfl rfl rfl rfl (Nat.le_of_ble_eq_true rfl) rfl dX0_init_44 (fun H locs hI => ?_)
  refine lv_aload_n hx hb dX0_init_47 rfl (lv_at hl 0 rfl) ?_
  refine lv_aload_n hx hb dX0_init_48 rfl (lv_at hl 2 rfl) ?_
  refine z_putF hC hnm hI (w1 := ((([(h0, .inr (2, [.ref a4, .ref a5, .ref (ad11 11), .ref (ad12 12), .ref q3, .ref q4]))] ++ wN11 ad11 cy11 zS0) ++ wN12 ad12 cy12 zS0) ++ [(q3, .inl (c3, 7, .inr (.inl (fun _ => 0)))), (q4, .inl (c4, 7, .inr (.inl (fun _ => 0))))])) (fun w h => List.mem_cons_of_mem _ (inlX0 w h)) tyX0_ok nmX0 0 rfl rfl 1 (by decide) (List.mem_cons_of_mem _ zw7_23) rfl rfl rfl rfl (Nat.le_of_ble_eq_true rfl) rfl dX0_init_49 (fun H locs hI => ?_)
  obtain ⟨ad, had⟩ : ∃ f : Nat → Nat, f = (fun j => if j = 8 then h0 else if j = 11 then ad11 11 else if j = 46 then ad11 46 else if j = 47 then ad11 47 else if j = 12 then ad12 12 else if j = 48 then ad12 48 else if j = 49 then ad12 49 else if j = 38 then q3 else if j = 39 then q4 else if j = 4 then a4 else if j = 5 then a5 else 0) := ⟨_, rfl⟩
  obtain ⟨cy, hcy⟩ : ∃ f : Nat → ClassId, f = (fun j => if j = 46 then cy11 46 else if j = 47 then cy11 47 else if j = 48 then cy12 48 else if j = 49 then cy12 49 else if j = 38 then c3 else if j = 39 then c4 else 0) := ⟨_, rfl⟩
  have e8 : h0 = ad 8 := by rw [had]; rfl
  have e11 : ad11 11 = ad 11 := by rw [had]; rfl
  have e46 : ad11 46 = ad 46 := by rw [had]; rfl
  have e47 : ad11 47 = ad 47 := by rw [had]; rfl
  have e12 : ad12 12 = ad 12 := by rw [had]; rfl
  have e48 : ad12 48 = ad 48 := by rw [had]; rfl
  have e49 : ad12 49 = ad 49 := by rw [had]; rfl
  have e38 : q3 = ad 38 := by rw [had]; rfl
  have e39 : q4 = ad 39 := by rw [had]; rfl
  have e4 : a4 = ad 4 := by rw [had]; rfl
  have e5 : a5 = ad 5 := by rw [had]; rfl
  have hI : zI st D (tN8 cy) (wN8 ad cy zS0) A s H locs := by rw [had, hcy]; exact hI
  exact z_nreturn0 (wn := fun ad cy => wN8 ad cy zS0) (tn := tN8) (ex := fun f => h0 = f 8 ∧ a4 = f 4 ∧ a5 = f 5) hC ad cy hI ⟨e8, e4, e5⟩ (Nat.le_refl _) (Nat.le_refl _) dX0_init_52
theorem hdX0_init : yX0_init.cls ≠ "java/lang/invoke/MethodHandle" ∧ yX0_init.cls ≠ "java/lang/invoke/VarHandle" ∧ (parseMethodDescriptor yX0_init.desc).map (fun d => d.parameters.length) = some 2 := by decide +kernel
end ZJN1
