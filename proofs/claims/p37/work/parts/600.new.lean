section ZJN0
theorem zw1_6 : Cond.arrayClass .long ∈ wsL_law := zr1 _ (List.mem_of_getElem? (i := 6) rfl)
theorem zw1_15 : Cond.methodLink RX11 1 objectInit ∈ wsL_law := zr1 _ (List.mem_of_getElem? (i := 15) rfl)
theorem zw1_16 : Cond.instanceMethod objectInit ∈ wsL_law := zr1 _ (List.mem_of_getElem? (i := 16) rfl)
theorem zw1_17 : Cond.code objectInit ⟨#[0xb1]⟩ 1 none ∈ wsL_law := zr1 _ (List.mem_of_getElem? (i := 17) rfl)
theorem zw1_19 : Cond.classLink RX11 13 RX2 ∈ wsL_law := zr1 _ (List.mem_of_getElem? (i := 19) rfl)
theorem zw1_20 : Cond.instantiable RX2 14 ∈ wsL_law := zr1 _ (List.mem_of_getElem? (i := 20) rfl)
theorem zw1_23 : Cond.classLink RX11 20 RX9 ∈ wsL_law := zr1 _ (List.mem_of_getElem? (i := 23) rfl)
theorem zw2_0 : Cond.instantiable RX9 6 ∈ wsL_law := zr2 _ (List.mem_of_getElem? (i := 0) rfl)
theorem zw2_3 : Cond.classLink RX11 29 RX3 ∈ wsL_law := zr2 _ (List.mem_of_getElem? (i := 3) rfl)
theorem zw2_4 : Cond.instantiable RX3 9 ∈ wsL_law := zr2 _ (List.mem_of_getElem? (i := 4) rfl)
theorem zw2_7 : Cond.classLink RX11 38 RX7 ∈ wsL_law := zr2 _ (List.mem_of_getElem? (i := 7) rfl)
theorem zw2_8 : Cond.instantiable RX7 2 ∈ wsL_law := zr2 _ (List.mem_of_getElem? (i := 8) rfl)
theorem zw2_11 : Cond.classLink RX11 45 RX10 ∈ wsL_law := zr2 _ (List.mem_of_getElem? (i := 11) rfl)
theorem zw2_12 : Cond.instantiable RX10 8 ∈ wsL_law := zr2 _ (List.mem_of_getElem? (i := 12) rfl)
theorem zw2_15 : Cond.classLink RX11 52 RX4 ∈ wsL_law := zr2 _ (List.mem_of_getElem? (i := 15) rfl)
theorem zw2_16 : Cond.instantiable RX4 6 ∈ wsL_law := zr2 _ (List.mem_of_getElem? (i := 16) rfl)
theorem zw2_19 : Cond.classLink RX11 61 RX5 ∈ wsL_law := zr2 _ (List.mem_of_getElem? (i := 19) rfl)
theorem zw2_20 : Cond.instantiable RX5 6 ∈ wsL_law := zr2 _ (List.mem_of_getElem? (i := 20) rfl)
theorem zw2_23 : Cond.classLink RX11 70 RX0 ∈ wsL_law := zr2 _ (List.mem_of_getElem? (i := 23) rfl)
theorem zw3_0 : Cond.instantiable RX0 6 ∈ wsL_law := zr3 _ (List.mem_of_getElem? (i := 0) rfl)
theorem zw3_3 : Cond.classLink RX11 79 RX1 ∈ wsL_law := zr3 _ (List.mem_of_getElem? (i := 3) rfl)
theorem zw3_4 : Cond.instantiable RX1 6 ∈ wsL_law := zr3 _ (List.mem_of_getElem? (i := 4) rfl)
theorem zw3_7 : Cond.classLink RX11 86 RX8 ∈ wsL_law := zr3 _ (List.mem_of_getElem? (i := 7) rfl)
theorem zw3_8 : Cond.instantiable RX8 11 ∈ wsL_law := zr3 _ (List.mem_of_getElem? (i := 8) rfl)
theorem zw3_11 : Cond.instanceMethod yX2_init ∈ wsL_law := zr3 _ (List.mem_of_getElem? (i := 11) rfl)
theorem zw3_12 : Cond.code yX2_init cX2_init 1 none ∈ wsL_law := zr3 _ (List.mem_of_getElem? (i := 12) rfl)
theorem zw3_13 : Cond.methodLink RX2 1 objectInit ∈ wsL_law := zr3 _ (List.mem_of_getElem? (i := 13) rfl)
theorem zw3_15 : Cond.arrayClass .int ∈ wsL_law := zr3 _ (List.mem_of_getElem? (i := 15) rfl)
theorem zw4_2 : Cond.methodLink RX11 22 yX9_init ∈ wsL_law := zr4 _ (List.mem_of_getElem? (i := 2) rfl)
theorem zw4_3 : Cond.instanceMethod yX9_init ∈ wsL_law := zr4 _ (List.mem_of_getElem? (i := 3) rfl)
theorem zw4_4 : Cond.code yX9_init cX9_init 3 none ∈ wsL_law := zr4 _ (List.mem_of_getElem? (i := 4) rfl)
theorem zw4_5 : Cond.methodLink RX9 1 objectInit ∈ wsL_law := zr4 _ (List.mem_of_getElem? (i := 5) rfl)
theorem zw4_12 : Cond.methodLink RX11 31 yX3_init ∈ wsL_law := zr4 _ (List.mem_of_getElem? (i := 12) rfl)
theorem zw4_13 : Cond.instanceMethod yX3_init ∈ wsL_law := zr4 _ (List.mem_of_getElem? (i := 13) rfl)
theorem zw4_14 : Cond.code yX3_init cX3_init 3 none ∈ wsL_law := zr4 _ (List.mem_of_getElem? (i := 14) rfl)
theorem zw4_15 : Cond.methodLink RX3 1 objectInit ∈ wsL_law := zr4 _ (List.mem_of_getElem? (i := 15) rfl)
theorem zw4_16 : Cond.constant RX3 9 (61440) ∈ wsL_law := zr4 _ (List.mem_of_getElem? (i := 16) rfl)
theorem zw5_0 : Cond.methodLink RX11 40 yX7_init ∈ wsL_law := zr5 _ (List.mem_of_getElem? (i := 0) rfl)
theorem zw5_1 : Cond.instanceMethod yX7_init ∈ wsL_law := zr5 _ (List.mem_of_getElem? (i := 1) rfl)
theorem zw5_2 : Cond.code yX7_init cX7_init 1 none ∈ wsL_law := zr5 _ (List.mem_of_getElem? (i := 2) rfl)
theorem zw5_3 : Cond.methodLink RX7 1 objectInit ∈ wsL_law := zr5 _ (List.mem_of_getElem? (i := 3) rfl)
theorem zw5_6 : Cond.methodLink RX7 16 yX7_clear ∈ wsL_law := zr5 _ (List.mem_of_getElem? (i := 6) rfl)
theorem zw6_0 : Cond.methodLink RX11 47 yX10_init ∈ wsL_law := zr6 _ (List.mem_of_getElem? (i := 0) rfl)
theorem zw6_1 : Cond.instanceMethod yX10_init ∈ wsL_law := zr6 _ (List.mem_of_getElem? (i := 1) rfl)
theorem zw6_2 : Cond.code yX10_init cX10_init 1 none ∈ wsL_law := zr6 _ (List.mem_of_getElem? (i := 2) rfl)
theorem zw6_3 : Cond.methodLink RX10 1 objectInit ∈ wsL_law := zr6 _ (List.mem_of_getElem? (i := 3) rfl)
theorem zw6_6 : Cond.methodLink RX10 16 yX10_clear ∈ wsL_law := zr6 _ (List.mem_of_getElem? (i := 6) rfl)
theorem zw6_11 : Cond.methodLink RX11 54 yX4_init ∈ wsL_law := zr6 _ (List.mem_of_getElem? (i := 11) rfl)
theorem zw6_12 : Cond.instanceMethod yX4_init ∈ wsL_law := zr6 _ (List.mem_of_getElem? (i := 12) rfl)
theorem zw6_13 : Cond.code yX4_init cX4_init 5 none ∈ wsL_law := zr6 _ (List.mem_of_getElem? (i := 13) rfl)
theorem zw6_14 : Cond.methodLink RX4 1 objectInit ∈ wsL_law := zr6 _ (List.mem_of_getElem? (i := 14) rfl)
theorem zw6_21 : Cond.methodLink RX4 32 yX4_clear ∈ wsL_law := zr6 _ (List.mem_of_getElem? (i := 21) rfl)
theorem zw7_1 : Cond.methodLink RX11 63 yX5_init ∈ wsL_law := zr7 _ (List.mem_of_getElem? (i := 1) rfl)
theorem zw7_2 : Cond.instanceMethod yX5_init ∈ wsL_law := zr7 _ (List.mem_of_getElem? (i := 2) rfl)
theorem zw7_3 : Cond.code yX5_init cX5_init 3 none ∈ wsL_law := zr7 _ (List.mem_of_getElem? (i := 3) rfl)
theorem zw7_4 : Cond.methodLink RX5 1 objectInit ∈ wsL_law := zr7 _ (List.mem_of_getElem? (i := 4) rfl)
theorem zw7_11 : Cond.methodLink RX11 72 yX0_init ∈ wsL_law := zr7 _ (List.mem_of_getElem? (i := 11) rfl)
theorem zw7_12 : Cond.instanceMethod yX0_init ∈ wsL_law := zr7 _ (List.mem_of_getElem? (i := 12) rfl)
theorem zw7_13 : Cond.code yX0_init cX0_init 3 none ∈ wsL_law := zr7 _ (List.mem_of_getElem? (i := 13) rfl)
theorem zw7_14 : Cond.methodLink RX0 1 objectInit ∈ wsL_law := zr7 _ (List.mem_of_getElem? (i := 14) rfl)
theorem zw7_15 : Cond.classLink RX0 7 RX6 ∈ wsL_law := zr7 _ (List.mem_of_getElem? (i := 15) rfl)
theorem zw7_16 : Cond.instantiable RX6 6 ∈ wsL_law := zr7 _ (List.mem_of_getElem? (i := 16) rfl)
theorem zw8_0 : Cond.instanceMethod yX6_init ∈ wsL_law := zr8 _ (List.mem_of_getElem? (i := 0) rfl)
theorem zw8_1 : Cond.code yX6_init cX6_init 1 none ∈ wsL_law := zr8 _ (List.mem_of_getElem? (i := 1) rfl)
theorem zw8_2 : Cond.methodLink RX6 1 objectInit ∈ wsL_law := zr8 _ (List.mem_of_getElem? (i := 2) rfl)
theorem zw8_5 : Cond.methodLink RX11 81 yX1_init ∈ wsL_law := zr8 _ (List.mem_of_getElem? (i := 5) rfl)
theorem zw8_6 : Cond.instanceMethod yX1_init ∈ wsL_law := zr8 _ (List.mem_of_getElem? (i := 6) rfl)
theorem zw8_7 : Cond.code yX1_init cX1_init 1 none ∈ wsL_law := zr8 _ (List.mem_of_getElem? (i := 7) rfl)
theorem zw8_8 : Cond.methodLink RX1 1 objectInit ∈ wsL_law := zr8 _ (List.mem_of_getElem? (i := 8) rfl)
theorem zw8_14 : Cond.methodLink RX1 25 yJ7_fill_53178 ∈ wsL_law := zr8 _ (List.mem_of_getElem? (i := 14) rfl)
theorem zw8_15 : Cond.methodLink RX11 88 yX8_init ∈ wsL_law := zr8 _ (List.mem_of_getElem? (i := 15) rfl)
theorem zw8_16 : Cond.instanceMethod yX8_init ∈ wsL_law := zr8 _ (List.mem_of_getElem? (i := 16) rfl)
theorem zw8_17 : Cond.code yX8_init cX8_init 2 none ∈ wsL_law := zr8 _ (List.mem_of_getElem? (i := 17) rfl)
theorem zw8_18 : Cond.methodLink RX8 1 objectInit ∈ wsL_law := zr8 _ (List.mem_of_getElem? (i := 18) rfl)
/-! Constructors: worlds that grow -/
/-- one look at the cells serves both what they hold and that they differ -/
theorem z_fmap {α β : Type} (f : α → Option β) : ∀ (l : List α) (r : List β), l.map f = r.map some → l.filterMap f = r
  | [], [], _ => rfl
  | [], _ :: _, h => by cases h
  | _ :: _, [], h => by cases h
  | a :: l, b :: r, h => by
    have h1 : f a = some b := (List.cons.inj h).1
    have h2 := z_fmap f l r (List.cons.inj h).2
    rw [List.filterMap_cons, h1]
    exact congrArg (fun x => b :: x) h2
theorem z_resub {st : Nat → Nat} {D : va_G} {tys tys' : List (ClassId × FieldType)} {w w' : va_W} {A : Nat → Prop} {s : State} {H : Heap} {locs : List Loc} (h : zI st D tys w A s H locs) (it is : List Nat) (ht : it.filterMap (fun i => tys[i]?) = tys') (hn : va_nd is = true) (hs : is.map (fun i => w[i]?) = w'.map some) : zI st D tys' w' A s H locs :=
  ⟨h.1.sub it ht, h.2.1.sub is (z_fmap _ _ _ hs), h.2.2.1.sub is hn hs, h.2.2.2⟩
section ZN
variable {p : Program} {l : Launch} {e : Env} {R : Room} {s : State} {m : MethodId} {args : Array Value} {below : List Frame} {meth : Method} {c : Code} {H : Heap} {locs : List Loc} {cells slots : Nat} {Q : State → Prop}
variable {st : Nat → Nat} {D : va_G} {tys : List (ClassId × FieldType)} {A : Nat → Prop} {cc : ByteArray} {nL : Nat} {Ts : List Cond} {own : String} {pc : Nat} {ls : Array Slot} {rest : List Value} {ret : Option FieldType} {a : Nat} {w w1 : va_W}
theorem z_newa (hC : zC p m c cc nL s args Ts own meth ret) (hI : zI st D tys w A s H locs) {atype : ArrayType} {ty : FieldType} (hty : newarray.typeOf atype = ty) (harr : Cond.arrayClass ty ∈ Ts) {n : Int32} (N' : Nat) {a0 : vp_A} (ha : ∀ cA : ClassId, vp_cell cA a0 = arrV cA N' (fun _ => defaultValue ty)) (hn : ¬ n < 0) (hN : n.toNatClampNeg = N') (hbytes : N' * componentBytes ty ≤ 536870912) (hcells : cells + 1 ≤ R.cells) (hslots : slots + N' ≤ R.slots) (hdg : decode cc pc = .ok (.newarray atype, 2))
    (kk : ∀ (q : Nat) (cA : ClassId) (H1 : Heap), zI st D (tys ++ [(cA, ty)]) (w ++ [(q, .inl (cA, a0))]) A s H1 locs → W p l e R s m args below meth c H1 locs (cells + 1) (slots + N') Q (F0 m (pc + 2) ls (.ref q :: rest))) : W p l e R s m args below meth c H locs cells slots Q (F0 m pc ls (.int n :: rest)) := by
  subst hty
  exact va_newa hC.1 hC.2.1 (hC.2.2.2.2.1 _ harr) rfl hI.1 hI.2.1 hI.2.2.1 hI.2.2.2.1 hI.2.2.2.2.1 ha hn hN hbytes hcells hslots hdg (fun q cA H1 hK hP hD hS => kk q cA H1 ⟨hK, hP, hD, hS, hI.2.2.2.2⟩)
theorem z_new (hC : zC p m c cc nL s args Ts own meth ret) (hI : zI st D tys w A s H locs) {C : String} {T : u_T} {N ci index : Nat} (hin : ∀ w ∈ u_ws C T N, w ∈ Ts) {ty0 : Nat → FieldType} (hty : ∀ k, k < N → parseFieldDescriptor (T k).2.2.1 = some (ty0 k)) (hcl : Cond.classLink own index C ∈ Ts) (hinst : Cond.instantiable C N ∈ Ts) (hini : Cond.initialized C ∈ Ts) (hc : vwCl[ci]? = some (C, T, N)) (fs : List Value) (hfs : ∀ j, j < N → defaultValue (ty0 j) = vp_V fs j) (hcells : cells + 1 ≤ R.cells) (hslots : slots + N ≤ R.slots) (hdg : decode cc pc = .ok (.new index, 3))
    (kk : ∀ (q : Nat) (H1 : Heap), zI st D tys (w ++ [(q, .inr (ci, fs))]) A s H1 locs → W p l e R s m args below meth c H1 locs (cells + 1) (slots + N) Q (F0 m (pc + 3) ls (.ref q :: rest))) : W p l e R s m args below meth c H locs cells slots Q (F0 m pc ls rest) :=
  va_new hC.1 hC.2.1 hC.2.2.2.2.1 hin ty0 hty hC.2.2.2.1 (hC.2.2.2.2.1 _ hcl) (hC.2.2.2.2.1 _ hinst) (hC.2.2.2.2.1 _ hini) hI.1 hI.2.1 hI.2.2.1 hI.2.2.2.1 hI.2.2.2.2.1 hc hfs hcells hslots hdg (fun q H1 hP hD hS => kk q H1 ⟨hI.1, hP, hD, hS, hI.2.2.2.2⟩)
theorem z_putF (hC : zC p m c cc nL s args Ts own meth ret) (hnm0 : meth.name = "<init>") (hI : zI st D tys w A s H locs) {C : String} {T : u_T} {N ci index : Nat} (hin : ∀ w ∈ u_ws C T N, w ∈ Ts) {ty0 : Nat → FieldType} (hty : ∀ k, k < N → parseFieldDescriptor (T k).2.2.1 = some (ty0 k)) (hnm : ∀ a, a < N → ∀ b, b < N → a ≠ b → (T a).2.1 ≠ (T b).2.1) (q0 : Nat) {fs : List Value} (he : w[q0]? = some (a, .inr (ci, fs))) (hc : vwCl[ci]? = some (C, T, N)) (k : Nat) (hk : k < N) (hlink : Cond.fieldLink own index (T k).1 (T k).2.1 (T k).2.2.1 ∈ Ts) (hfin : (T k).2.2.2 = true) (hdecl : (T k).1 = own) {v : Value} (hn : narrow (ty0 k) v = v) (hfit : fits (ty0 k) v = true) (hl : k < fs.length) (hs : w.set q0 (a, .inr (ci, fs.set k v)) = w1) (hdg : decode cc pc = .ok (.putfield index, 3))
    (kk : ∀ (H1 : Heap) (locs1 : List Loc), zI st D tys w1 A s H1 locs1 → W p l e R s m args below meth c H1 locs1 cells slots Q (F0 m (pc + 3) ls rest)) : W p l e R s m args below meth c H locs cells slots Q (F0 m pc ls (v :: .ref a :: rest)) := by
  subst hs
  exact va_putF hC.1 hC.2.1 hC.2.2.2.2.1 hin ty0 hty hnm hC.2.2.2.1 hI.1 hI.2.1 hI.2.2.1 hI.2.2.2.1 q0 he hc k hk (hC.2.2.2.2.1 _ hlink) (fun _ h => h) hfin hnm0 hdecl (hty k hk) hn hfit hl hdg (fun H1 locs1 h1 h2 h3 => kk H1 locs1 ⟨hI.1, h1, h2, h3, hI.2.2.2.2⟩)
theorem z_objInit (hC : zC p m c cc nL s args Ts own meth ret) {lv : List (Nat × Value)} (hl : lv_has ls nL lv) {idx : Nat} (hlink : Cond.methodLink own idx Lib.objectInit ∈ Ts) (hinst : Cond.instanceMethod Lib.objectInit ∈ Ts) (hcode : Cond.code Lib.objectInit ⟨#[0xb1]⟩ 1 none ∈ Ts) (hd : decode cc pc = .ok (.invokespecial idx, 3)) (hframes : 1 ≤ R.frames) (hlocals : (rest.map fun v => v.category).sum + 12 ≤ R.locals)
    (kk : W p l e R s m args below meth c H locs cells slots Q (F0 m (pc + 3) ls rest)) : W p l e R s m args below meth c H locs cells slots Q (F0 m pc ls (.ref a :: rest)) :=
  W.objInit (g := F0 m pc ls (.ref a :: rest)) hC.1 hC.2.1 hC.2.2.2.1 (hC.2.2.2.2.1 _ hlink) (hC.2.2.2.2.1 _ hinst) (hC.2.2.2.2.1 _ hcode) rfl (hl.1.trans hC.2.2.1.symm) rfl hd hframes (by show 2 * 0 + _ + 12 ≤ _; omega) kk
/-- a constructor's contract: its own cell as it was made; behind it the cells of its part of the world -/
noncomputable def zN (st : Nat → Nat) (l : Launch) (y : MethodName) (ws : List Cond) (rm : Room) (av : List Value) (D : va_G) (w0 : va_W) (sz : Nat) (wn : (Nat → Nat) → (Nat → ClassId) → va_W) (tn : (Nat → ClassId) → List (ClassId × FieldType)) (ex : (Nat → Nat) → Prop) (mc ms : Nat) : Prop :=
  Met l y ws rm (va_Pc av (zP st D [] w0 sz)) (va_Qv (fun (u : (Nat → Nat) × (Nat → ClassId)) => ex u.1) (fun u t => va_P D vwCl (wn u.1 u.2) t.heap ∧ va_K D vwCl (tn u.2) t ∧ va_D (va_A w0 sz) (wn u.1 u.2)) (va_A w0 sz)) mc ms (va_A w0 sz)
theorem zN.of {y : MethodName} {ws ws' : List Cond} {rm : Room} {av : List Value} {w0 : va_W} {sz : Nat} {wn : (Nat → Nat) → (Nat → ClassId) → va_W} {tn : (Nat → ClassId) → List (ClassId × FieldType)} {ex : (Nat → Nat) → Prop} {mc ms maxL : Nat} (hy : plainName y.cls = true) (hyn : y.name = "<init>") (hw : ws = Cond.code y cc maxL none :: ws') (hle : (lg_sl av).length ≤ maxL)
    (kk : ∀ (p : Program) (e : Env) (s : State) (m : MethodId) (args : Array Value) (below : List Frame) (meth : Method) (c : Code), zC p m c cc maxL s args ws y.cls meth none → meth.name = "<init>" → ∀ A : Nat → Prop, zI st D [] w0 A s s.heap [] → ∀ ls : Array Slot, lv_has ls maxL (lv_args 0 av) → W p l e (headSpec ws rm).room s m args below meth c s.heap [] 0 0 (MQ below (va_Qv (fun (u : (Nat → Nat) × (Nat → ClassId)) => ex u.1) (fun u t => va_P D vwCl (wn u.1 u.2) t.heap ∧ va_K D vwCl (tn u.2) t ∧ va_D A (wn u.1 u.2)) A) args s mc ms A) (F0 m 0 ls [])) : zN st l y ws rm av D w0 sz wn tn ex mc ms := by
  refine Met.ofW (cc := cc) (maxL := maxL) (ret := none) hy hw ?_
  intro p e s m args below meth c s₁ B hml hv
  obtain ⟨rfl, hsz, hP, hK, hD, hT⟩ := hv
  have hl := lv_entry av (n := maxL) hle
  rw [lg_entry_eq]
  exact kk p e s m av.toArray below meth c ⟨B.exec, B.bytes, hml, findClass_of_methodNamed B.named, atoms_spec (ws := ws) B.pre, B.returns, B.notSynchronized⟩ ((name_of_methodNamed B.named B.method).1.trans hyn) _ ⟨hK, hP, hD.self, va_S.rf, fun q h => by rw [hsz] at h; exact Or.inr h, hT⟩ _ hl
theorem z_nreturn0 (hC : zC p m c cc nL s args Ts own meth none) {wn : (Nat → Nat) → (Nat → ClassId) → va_W} {tn : (Nat → ClassId) → List (ClassId × FieldType)} {ex : (Nat → Nat) → Prop} {mc ms : Nat} (ad : Nat → Nat) (cy : Nat → ClassId) (hI : zI st D (tn cy) (wn ad cy) A s H locs) (hh : ex ad) (hc : cells ≤ mc) (hs : slots ≤ ms) (hdg : decode cc pc = .ok (.return_, 1)) : W p l e R s m args below meth c H locs cells slots (MQ below (va_Qv (fun (u : (Nat → Nat) × (Nat → ClassId)) => ex u.1) (fun u t => va_P D vwCl (wn u.1 u.2) t.heap ∧ va_K D vwCl (tn u.2) t ∧ va_D A (wn u.1 u.2)) A) args s mc ms A) (F0 m pc ls []) := by
  obtain ⟨hx, hb, hml, hown, hts, hr, hlk⟩ := hC
  obtain ⟨hK, hP, hD, hS, hA, hT⟩ := hI
  refine W.widen (k := mc) (n := ms) hc hs ?_
  exact W.vret hx hb hr (fun t ht hW => ⟨⟨(ad, cy), rfl, hh, by rw [ht]; exact hP, va_K.moved hW.alike hK, hD⟩, hS.F ht⟩) hS.2.2 hdg hlk
/-- what is ahead of the last cell, and the last cell -/
theorem z_sub_last {x : Nat × va_E} (hP : va_P D vwCl (w ++ [x]) H) (hD : va_D A (w ++ [x])) : va_P D vwCl [x] H ∧ va_D A [x] := by
  have e : (w ++ [x])[w.length]? = some x := by simp
  refine ⟨fun k q hk => ?_, ⟨fun i j p q hi hj _ => ?_, fun k q hk => ?_⟩⟩
  · cases k with
    | zero => cases hk; exact hP _ _ e
    | succ k => simp at hk
  · cases i with
    | zero => cases j with
      | zero => rfl
      | succ j => simp at hj
    | succ i => simp at hi
  · cases k with
    | zero => cases hk; exact hD.2 _ _ e
    | succ k => simp at hk
theorem z_range_map (w : va_W) (x : Nat × va_E) : (List.range w.length).map (fun i => (w ++ [x])[i]?) = w.map some := by
  apply List.ext_getElem?
  intro i
  by_cases h : i < w.length
  · simp only [List.getElem?_map, List.getElem?_range h, Option.map_some, List.getElem?_append_left h]
    rw [List.getElem?_eq_getElem h]
    rfl
  · simp [List.getElem?_map, List.getElem?_eq_none (Nat.le_of_not_lt h), List.getElem?_eq_none (show (List.range w.length).length ≤ i by simpa using Nat.le_of_not_lt h)]
theorem va_nd_nodup : ∀ l : List Nat, l.Nodup → va_nd l = true
  | [], _ => rfl
  | a :: l, h => by
    have h := List.nodup_cons.mp h
    simp only [va_nd, Bool.and_eq_true, decide_eq_true_eq]
    exact ⟨h.1, va_nd_nodup l h.2⟩
theorem z_joinL {x : Nat × va_E} {w2 : va_W} {H1 : Heap} (hP : va_P D vwCl (w ++ [x]) H) (hD : va_D A (w ++ [x])) (hk : ∀ q : Nat, q < H.size → ¬ va_A [x] H.size q → H1[q]? = H[q]?) (hF : ∀ q, va_A [x] H.size q → A q) (hP1 : va_P D vwCl w2 H1) (hD1 : va_D (va_A [x] H.size) w2) : va_P D vwCl (w ++ w2) H1 ∧ va_D A (w ++ w2) :=
  va_join hP hD [w.length] (List.range w.length) (by simp) (z_range_map w x) (va_nd_nodup _ List.nodup_range) (fun i hi h => by simp at hi h; omega) hk hF hP1 hD1
theorem z_freeL {x : Nat × va_E} (hI : zI st D tys (w ++ [x]) A s H locs) : ∀ q, va_A [x] H.size q → A q := by
  intro q h
  rcases h with ⟨k2, e2, h⟩ | h
  · exact (z_sub_last hI.2.1 hI.2.2.1).2.2 k2 (q, e2) h
  · exact hI.2.2.2.2.1 _ (Nat.le_trans hI.2.2.2.1.1 h)
theorem zP.atL {av : List Value} {x : Nat × va_E} (hI : zI st D tys (w ++ [x]) A s H locs) : ∀ U : State, U.heap = H → s.WarmedH U.vm → va_Pc av (zP st D [] [x] H.size) av.toArray U := fun U hU hW =>
  ⟨rfl, by rw [hU], by rw [hU]; exact (z_sub_last hI.2.1 hI.2.2.1).1, va_K.moved hW.alike (hI.1.sub [] rfl), (z_sub_last hI.2.1 hI.2.2.1).2.weaken (fun _ _ _ _ => trivial), by rw [hU]; exact zT.warm hW ((hI.2.2.2.2.2.kept hI.2.2.2.1.2.1).narrow (z_freeL hI))⟩
variable {y : MethodName} {ws ws' : List Cond} {rm : Room} {bytes : ByteArray} {maxL index n : Nat} {As : List Value} {lv : List (Nat × Value)} {st0 : List Value} {q0 : Nat} {e0 : va_E}
theorem z_callI (hC : zC p m c cc nL s args Ts own meth ret) (hI : zI st D tys (w ++ [(q0, e0)]) A s H locs) {wn : (Nat → Nat) → (Nat → ClassId) → va_W} {tn : (Nat → ClassId) → List (ClassId × FieldType)} {ex : (Nat → Nat) → Prop} {mc ms : Nat} (hM : ∀ sz, zN st l y ws rm (.ref q0 :: As) D [(q0, e0)] sz wn tn ex mc ms) (hG : GoodIn Ts ws) (hw : ws = Cond.code y bytes maxL none :: ws') (hrc : rm.cells = mc) (hrs : rm.slots = ms) (hini : Cond.initialized y.cls ∈ Ts) (hlk : Cond.methodLink own index y ∈ Ts) (hin : Cond.instanceMethod y ∈ Ts) (hy1 : y.name = "<init>") (n : Nat)
    (hd : y.cls ≠ "java/lang/invoke/MethodHandle" ∧ y.cls ≠ "java/lang/invoke/VarHandle" ∧ (parseMethodDescriptor y.desc).map (fun d => d.parameters.length) = some n) (hR : rm.frames + 1 ≤ R.frames ∧ 8 + (maxL + 11) + rm.locals ≤ R.locals) (hn : As.length = n) (hl : lv_has ls nL lv) (hst : st0 = As.reverse ++ .ref q0 :: rest) (hW : (rest.map fun v => v.category).sum ≤ 8) (hdg : decode cc pc = .ok (.invokespecial index, 3)) (hf : cells + mc ≤ R.cells ∧ slots + ms ≤ R.slots)
    (kk : ∀ (ad : Nat → Nat) (cy : Nat → ClassId) (H1 : Heap) (locs1 : List Loc), ex ad → zI st D (tys ++ tn cy) (w ++ wn ad cy) A s H1 locs1 → W p l e R s m args below meth c H1 locs1 (cells + mc) (slots + ms) Q (F0 m (pc + 3) ls rest)) : W p l e R s m args below meth c H locs cells slots Q (F0 m pc ls st0) := by
  refine va_callv (va_runI (As := As) (rest := rest) ⟨hC.1, hC.2.1, hC.2.2.1, hC.2.2.2.1, hC.2.2.2.2.1⟩ (hM H.size) (cwI n hC.2.2.2.2.1 hG hw hrc hrs (hC.2.2.2.2.1 _ hini) (hC.2.2.2.2.1 _ hlk) (hC.2.2.2.2.1 _ hin) hy1 hd hR) ⟨zP.blind, zP.atL hI⟩ rfl hn hl.1 hst (lv_room hW) hdg hf) hI.2.2.2.1 (fun q _ h => z_freeL hI q h) (z_freeL hI) (fun u t H1 locs1 ht hvm hw' hB _ hk1 hS => ?_)
  obtain ⟨hP1, hK1, hD1⟩ := hB
  rw [ht] at hP1
  obtain ⟨hP, hD⟩ := z_joinL hI.2.1 hI.2.2.1 hk1 (z_freeL hI) hP1 hD1
  exact kk u.1 u.2 H1 locs1 hw' ⟨hI.1.app (va_K.moved hvm.symm hK1), hP, hD, hS, hI.2.2.2.2⟩
theorem z_callIN (hC : zC p m c cc nL s args Ts own meth ret) (hI : zI st D tys (w ++ [(q0, e0)]) A s H locs) {wn : (Nat → Nat) → (Nat → ClassId) → va_W} {tn : (Nat → ClassId) → List (ClassId × FieldType)} {ex : (Nat → Nat) → Prop} {mc ms : Nat} (hM : ∀ sz, zN st l y ws rm (.ref q0 :: As) D [(q0, e0)] sz wn tn ex mc ms) (hG : GoodIn Ts ws) (hw : ws = Cond.code y bytes maxL none :: ws') (hrc : rm.cells = mc) (hrs : rm.slots = ms) (hini : Cond.initialized y.cls ∈ Ts) {host : String} (hlk : (own, index, y, host) ∈ zNe) (hin : Cond.instanceMethod y ∈ Ts) (hy1 : y.name = "<init>") (n : Nat)
    (hd : y.cls ≠ "java/lang/invoke/MethodHandle" ∧ y.cls ≠ "java/lang/invoke/VarHandle" ∧ (parseMethodDescriptor y.desc).map (fun d => d.parameters.length) = some n) (hR : rm.frames + 1 ≤ R.frames ∧ 8 + (maxL + 11) + rm.locals ≤ R.locals) (hn : As.length = n) (hl : lv_has ls nL lv) (hst : st0 = As.reverse ++ .ref q0 :: rest) (hW : (rest.map fun v => v.category).sum ≤ 8) (hdg : decode cc pc = .ok (.invokespecial index, 3)) (hf : cells + mc ≤ R.cells ∧ slots + ms ≤ R.slots)
    (kk : ∀ (ad : Nat → Nat) (cy : Nat → ClassId) (H1 : Heap) (locs1 : List Loc), ex ad → zI st D (tys ++ tn cy) (w ++ wn ad cy) A s H1 locs1 → W p l e R s m args below meth c H1 locs1 (cells + mc) (slots + ms) Q (F0 m (pc + 3) ls rest)) : W p l e R s m args below meth c H locs cells slots Q (F0 m pc ls st0) := by
  refine va_callv (va_runIN (As := As) (rest := rest) ⟨hC.1, hC.2.1, hC.2.2.1, hC.2.2.2.1, hC.2.2.2.2.1⟩ (hM H.size) ⟨va_cnB n hC.2.2.2.2.1 hG hw hrc hrs (hI.2.2.2.2.2.2.2.2.2.2.2.2.2.2.2 _ hlk) (hC.2.2.2.2.1 _ hini) hd hR, hy1, hC.2.2.2.2.1 _ hin⟩ ⟨zP.blind, zP.atL hI⟩ rfl hn hl.1 hst (lv_room hW) hdg hf) hI.2.2.2.1 (fun q _ h => z_freeL hI q h) (z_freeL hI) (fun u t H1 locs1 ht hvm hw' hB _ hk1 hS => ?_)
  obtain ⟨hP1, hK1, hD1⟩ := hB
  rw [ht] at hP1
  obtain ⟨hP, hD⟩ := z_joinL hI.2.1 hI.2.2.1 hk1 (z_freeL hI) hP1 hD1
  exact kk u.1 u.2 H1 locs1 hw' ⟨hI.1.app (va_K.moved hvm.symm hK1), hP, hD, hS, hI.2.2.2.2⟩
end ZN
theorem zgI {cd cd1 : Cond} (h5 : cd1 ∈ wsL_law) : GoodIn (cd :: wsL_law) (cd1 :: wsL_law) := fun w hw => by
  rcases List.mem_cons.mp hw with rfl | h
  · exact ⟨List.mem_cons_of_mem _ h5, zgood_all _ h5⟩
  · exact ⟨List.mem_cons_of_mem _ h, zgood_all _ h⟩
/-- all zeros -/
noncomputable def zS0 : zSt := (fun _ _ => 0, fun _ _ => 0)
noncomputable def wN1 (ad : Nat → Nat) (cy : Nat → ClassId) (σ : zSt) : va_W := [(ad 1, .inr (4, wCf1 ad σ)), (ad 13, .inl (cy 13, 262656, .inl (zgi σ 13))), (ad 14, .inl (cy 14, 262656, .inl (zgi σ 14))), (ad 15, .inl (cy 15, 8192, .inl (zgi σ 15))), (ad 16, .inl (cy 16, 8192, .inl (zgi σ 16))), (ad 17, .inl (cy 17, 32768, .inl (zgi σ 17))), (ad 18, .inl (cy 18, 32768, .inl (zgi σ 18))), (ad 19, .inl (cy 19, 4, .inl (zgi σ 19))), (ad 20, .inl (cy 20, 4, .inl (zgi σ 20)))]
noncomputable def tN1 (cy : Nat → ClassId) : List (ClassId × FieldType) := [(cy 13, .int), (cy 14, .int), (cy 15, .int), (cy 16, .int), (cy 17, .int), (cy 18, .int), (cy 19, .int), (cy 20, .int)]
theorem wN1_e1 (ad : Nat → Nat) (cy : Nat → ClassId) (σ : zSt) : (wN1 ad cy σ)[0]? = some (ad 1, .inr (4, wCf1 ad σ)) := rfl
theorem wN1_s1_2 (ad : Nat → Nat) (cy : Nat → ClassId) (σ : zSt) (v : Int32) : (wN1 ad cy σ).set 0 (ad 1, .inr (4, (wCf1 ad σ).set 2 (.int v))) = wN1 ad cy (zsi σ 1 2 v) := rfl
theorem wN1_s1_3 (ad : Nat → Nat) (cy : Nat → ClassId) (σ : zSt) (v : Int32) : (wN1 ad cy σ).set 0 (ad 1, .inr (4, (wCf1 ad σ).set 3 (.int v))) = wN1 ad cy (zsi σ 1 3 v) := rfl
theorem wN1_s1_4 (ad : Nat → Nat) (cy : Nat → ClassId) (σ : zSt) (v : Int32) : (wN1 ad cy σ).set 0 (ad 1, .inr (4, (wCf1 ad σ).set 4 (.int v))) = wN1 ad cy (zsi σ 1 4 v) := rfl
theorem wN1_s1_5 (ad : Nat → Nat) (cy : Nat → ClassId) (σ : zSt) (v : Int32) : (wN1 ad cy σ).set 0 (ad 1, .inr (4, (wCf1 ad σ).set 5 (.int v))) = wN1 ad cy (zsi σ 1 5 v) := rfl
theorem wN1_s1_6 (ad : Nat → Nat) (cy : Nat → ClassId) (σ : zSt) (v : Int32) : (wN1 ad cy σ).set 0 (ad 1, .inr (4, (wCf1 ad σ).set 6 (.int v))) = wN1 ad cy (zsi σ 1 6 v) := rfl
theorem wN1_s1_7 (ad : Nat → Nat) (cy : Nat → ClassId) (σ : zSt) (v : Int32) : (wN1 ad cy σ).set 0 (ad 1, .inr (4, (wCf1 ad σ).set 7 (.int v))) = wN1 ad cy (zsi σ 1 7 v) := rfl
theorem wN1_e13 (ad : Nat → Nat) (cy : Nat → ClassId) (σ : zSt) : (wN1 ad cy σ)[1]? = some (ad 13, .inl (cy 13, 262656, .inl (zgi σ 13))) := rfl
theorem wN1_s13 (ad : Nat → Nat) (cy : Nat → ClassId) (σ : zSt) (j : Nat) (v : Int32) : (wN1 ad cy σ).set 1 (ad 13, .inl (cy 13, 262656, .inl (upd (zgi σ 13) j v))) = wN1 ad cy (zsi σ 13 j v) := rfl
theorem tN1_t13 (cy : Nat → ClassId) : (tN1 cy)[0]? = some (cy 13, .int) := rfl
theorem wN1_e14 (ad : Nat → Nat) (cy : Nat → ClassId) (σ : zSt) : (wN1 ad cy σ)[2]? = some (ad 14, .inl (cy 14, 262656, .inl (zgi σ 14))) := rfl
theorem wN1_s14 (ad : Nat → Nat) (cy : Nat → ClassId) (σ : zSt) (j : Nat) (v : Int32) : (wN1 ad cy σ).set 2 (ad 14, .inl (cy 14, 262656, .inl (upd (zgi σ 14) j v))) = wN1 ad cy (zsi σ 14 j v) := rfl
theorem tN1_t14 (cy : Nat → ClassId) : (tN1 cy)[1]? = some (cy 14, .int) := rfl
theorem wN1_e15 (ad : Nat → Nat) (cy : Nat → ClassId) (σ : zSt) : (wN1 ad cy σ)[3]? = some (ad 15, .inl (cy 15, 8192, .inl (zgi σ 15))) := rfl
theorem wN1_s15 (ad : Nat → Nat) (cy : Nat → ClassId) (σ : zSt) (j : Nat) (v : Int32) : (wN1 ad cy σ).set 3 (ad 15, .inl (cy 15, 8192, .inl (upd (zgi σ 15) j v))) = wN1 ad cy (zsi σ 15 j v) := rfl
theorem tN1_t15 (cy : Nat → ClassId) : (tN1 cy)[2]? = some (cy 15, .int) := rfl
theorem wN1_e16 (ad : Nat → Nat) (cy : Nat → ClassId) (σ : zSt) : (wN1 ad cy σ)[4]? = some (ad 16, .inl (cy 16, 8192, .inl (zgi σ 16))) := rfl
theorem wN1_s16 (ad : Nat → Nat) (cy : Nat → ClassId) (σ : zSt) (j : Nat) (v : Int32) : (wN1 ad cy σ).set 4 (ad 16, .inl (cy 16, 8192, .inl (upd (zgi σ 16) j v))) = wN1 ad cy (zsi σ 16 j v) := rfl
theorem tN1_t16 (cy : Nat → ClassId) : (tN1 cy)[3]? = some (cy 16, .int) := rfl
theorem wN1_e17 (ad : Nat → Nat) (cy : Nat → ClassId) (σ : zSt) : (wN1 ad cy σ)[5]? = some (ad 17, .inl (cy 17, 32768, .inl (zgi σ 17))) := rfl
theorem wN1_s17 (ad : Nat → Nat) (cy : Nat → ClassId) (σ : zSt) (j : Nat) (v : Int32) : (wN1 ad cy σ).set 5 (ad 17, .inl (cy 17, 32768, .inl (upd (zgi σ 17) j v))) = wN1 ad cy (zsi σ 17 j v) := rfl
theorem tN1_t17 (cy : Nat → ClassId) : (tN1 cy)[4]? = some (cy 17, .int) := rfl
theorem wN1_e18 (ad : Nat → Nat) (cy : Nat → ClassId) (σ : zSt) : (wN1 ad cy σ)[6]? = some (ad 18, .inl (cy 18, 32768, .inl (zgi σ 18))) := rfl
theorem wN1_s18 (ad : Nat → Nat) (cy : Nat → ClassId) (σ : zSt) (j : Nat) (v : Int32) : (wN1 ad cy σ).set 6 (ad 18, .inl (cy 18, 32768, .inl (upd (zgi σ 18) j v))) = wN1 ad cy (zsi σ 18 j v) := rfl
theorem tN1_t18 (cy : Nat → ClassId) : (tN1 cy)[5]? = some (cy 18, .int) := rfl
theorem wN1_e19 (ad : Nat → Nat) (cy : Nat → ClassId) (σ : zSt) : (wN1 ad cy σ)[7]? = some (ad 19, .inl (cy 19, 4, .inl (zgi σ 19))) := rfl
theorem wN1_s19 (ad : Nat → Nat) (cy : Nat → ClassId) (σ : zSt) (j : Nat) (v : Int32) : (wN1 ad cy σ).set 7 (ad 19, .inl (cy 19, 4, .inl (upd (zgi σ 19) j v))) = wN1 ad cy (zsi σ 19 j v) := rfl
theorem tN1_t19 (cy : Nat → ClassId) : (tN1 cy)[6]? = some (cy 19, .int) := rfl
theorem wN1_e20 (ad : Nat → Nat) (cy : Nat → ClassId) (σ : zSt) : (wN1 ad cy σ)[8]? = some (ad 20, .inl (cy 20, 4, .inl (zgi σ 20))) := rfl
theorem wN1_s20 (ad : Nat → Nat) (cy : Nat → ClassId) (σ : zSt) (j : Nat) (v : Int32) : (wN1 ad cy σ).set 8 (ad 20, .inl (cy 20, 4, .inl (upd (zgi σ 20) j v))) = wN1 ad cy (zsi σ 20 j v) := rfl
theorem tN1_t20 (cy : Nat → ClassId) : (tN1 cy)[7]? = some (cy 20, .int) := rfl
noncomputable def wN2 (ad : Nat → Nat) (cy : Nat → ClassId) (σ : zSt) : va_W := [(ad 2, .inr (11, wCf2 ad σ)), (ad 21, .inl (cy 21, 16384, .inl (zgi σ 21))), (ad 22, .inl (cy 22, 16384, .inl (zgi σ 22))), (ad 23, .inl (cy 23, 96, .inl (zgi σ 23))), (ad 24, .inl (cy 24, 96, .inl (zgi σ 24)))]
noncomputable def tN2 (cy : Nat → ClassId) : List (ClassId × FieldType) := [(cy 21, .int), (cy 22, .int), (cy 23, .int), (cy 24, .int)]
theorem wN2_e2 (ad : Nat → Nat) (cy : Nat → ClassId) (σ : zSt) : (wN2 ad cy σ)[0]? = some (ad 2, .inr (11, wCf2 ad σ)) := rfl
theorem wN2_e21 (ad : Nat → Nat) (cy : Nat → ClassId) (σ : zSt) : (wN2 ad cy σ)[1]? = some (ad 21, .inl (cy 21, 16384, .inl (zgi σ 21))) := rfl
theorem wN2_s21 (ad : Nat → Nat) (cy : Nat → ClassId) (σ : zSt) (j : Nat) (v : Int32) : (wN2 ad cy σ).set 1 (ad 21, .inl (cy 21, 16384, .inl (upd (zgi σ 21) j v))) = wN2 ad cy (zsi σ 21 j v) := rfl
theorem tN2_t21 (cy : Nat → ClassId) : (tN2 cy)[0]? = some (cy 21, .int) := rfl
theorem wN2_e22 (ad : Nat → Nat) (cy : Nat → ClassId) (σ : zSt) : (wN2 ad cy σ)[2]? = some (ad 22, .inl (cy 22, 16384, .inl (zgi σ 22))) := rfl
theorem wN2_s22 (ad : Nat → Nat) (cy : Nat → ClassId) (σ : zSt) (j : Nat) (v : Int32) : (wN2 ad cy σ).set 2 (ad 22, .inl (cy 22, 16384, .inl (upd (zgi σ 22) j v))) = wN2 ad cy (zsi σ 22 j v) := rfl
theorem tN2_t22 (cy : Nat → ClassId) : (tN2 cy)[1]? = some (cy 22, .int) := rfl
theorem wN2_e23 (ad : Nat → Nat) (cy : Nat → ClassId) (σ : zSt) : (wN2 ad cy σ)[3]? = some (ad 23, .inl (cy 23, 96, .inl (zgi σ 23))) := rfl
theorem wN2_s23 (ad : Nat → Nat) (cy : Nat → ClassId) (σ : zSt) (j : Nat) (v : Int32) : (wN2 ad cy σ).set 3 (ad 23, .inl (cy 23, 96, .inl (upd (zgi σ 23) j v))) = wN2 ad cy (zsi σ 23 j v) := rfl
theorem tN2_t23 (cy : Nat → ClassId) : (tN2 cy)[2]? = some (cy 23, .int) := rfl
theorem wN2_e24 (ad : Nat → Nat) (cy : Nat → ClassId) (σ : zSt) : (wN2 ad cy σ)[4]? = some (ad 24, .inl (cy 24, 96, .inl (zgi σ 24))) := rfl
theorem wN2_s24 (ad : Nat → Nat) (cy : Nat → ClassId) (σ : zSt) (j : Nat) (v : Int32) : (wN2 ad cy σ).set 4 (ad 24, .inl (cy 24, 96, .inl (upd (zgi σ 24) j v))) = wN2 ad cy (zsi σ 24 j v) := rfl
theorem tN2_t24 (cy : Nat → ClassId) : (tN2 cy)[3]? = some (cy 24, .int) := rfl
noncomputable def wN3 (ad : Nat → Nat) (cy : Nat → ClassId) (σ : zSt) : va_W := [(ad 3, .inr (5, wCf3 ad σ)), (ad 25, .inl (cy 25, 61440, .inl (zgi σ 25))), (ad 26, .inl (cy 26, 61440, .inl (zgi σ 26))), (ad 27, .inl (cy 27, 256, .inl (zgi σ 27))), (ad 28, .inl (cy 28, 256, .inl (zgi σ 28))), (ad 29, .inl (cy 29, 32, .inl (zgi σ 29)))]
noncomputable def tN3 (cy : Nat → ClassId) : List (ClassId × FieldType) := [(cy 25, .int), (cy 26, .int), (cy 27, .int), (cy 28, .int), (cy 29, .int)]
theorem wN3_e3 (ad : Nat → Nat) (cy : Nat → ClassId) (σ : zSt) : (wN3 ad cy σ)[0]? = some (ad 3, .inr (5, wCf3 ad σ)) := rfl
theorem wN3_s3_7 (ad : Nat → Nat) (cy : Nat → ClassId) (σ : zSt) (v : Int32) : (wN3 ad cy σ).set 0 (ad 3, .inr (5, (wCf3 ad σ).set 7 (.int v))) = wN3 ad cy (zsi σ 3 7 v) := rfl
theorem wN3_s3_8 (ad : Nat → Nat) (cy : Nat → ClassId) (σ : zSt) (v : Int32) : (wN3 ad cy σ).set 0 (ad 3, .inr (5, (wCf3 ad σ).set 8 (.int v))) = wN3 ad cy (zsi σ 3 8 v) := rfl
theorem wN3_e25 (ad : Nat → Nat) (cy : Nat → ClassId) (σ : zSt) : (wN3 ad cy σ)[1]? = some (ad 25, .inl (cy 25, 61440, .inl (zgi σ 25))) := rfl
theorem wN3_s25 (ad : Nat → Nat) (cy : Nat → ClassId) (σ : zSt) (j : Nat) (v : Int32) : (wN3 ad cy σ).set 1 (ad 25, .inl (cy 25, 61440, .inl (upd (zgi σ 25) j v))) = wN3 ad cy (zsi σ 25 j v) := rfl
theorem tN3_t25 (cy : Nat → ClassId) : (tN3 cy)[0]? = some (cy 25, .int) := rfl
theorem wN3_e26 (ad : Nat → Nat) (cy : Nat → ClassId) (σ : zSt) : (wN3 ad cy σ)[2]? = some (ad 26, .inl (cy 26, 61440, .inl (zgi σ 26))) := rfl
theorem wN3_s26 (ad : Nat → Nat) (cy : Nat → ClassId) (σ : zSt) (j : Nat) (v : Int32) : (wN3 ad cy σ).set 2 (ad 26, .inl (cy 26, 61440, .inl (upd (zgi σ 26) j v))) = wN3 ad cy (zsi σ 26 j v) := rfl
theorem tN3_t26 (cy : Nat → ClassId) : (tN3 cy)[1]? = some (cy 26, .int) := rfl
theorem wN3_e27 (ad : Nat → Nat) (cy : Nat → ClassId) (σ : zSt) : (wN3 ad cy σ)[3]? = some (ad 27, .inl (cy 27, 256, .inl (zgi σ 27))) := rfl
theorem wN3_s27 (ad : Nat → Nat) (cy : Nat → ClassId) (σ : zSt) (j : Nat) (v : Int32) : (wN3 ad cy σ).set 3 (ad 27, .inl (cy 27, 256, .inl (upd (zgi σ 27) j v))) = wN3 ad cy (zsi σ 27 j v) := rfl
theorem tN3_t27 (cy : Nat → ClassId) : (tN3 cy)[2]? = some (cy 27, .int) := rfl
theorem wN3_e28 (ad : Nat → Nat) (cy : Nat → ClassId) (σ : zSt) : (wN3 ad cy σ)[4]? = some (ad 28, .inl (cy 28, 256, .inl (zgi σ 28))) := rfl
theorem wN3_s28 (ad : Nat → Nat) (cy : Nat → ClassId) (σ : zSt) (j : Nat) (v : Int32) : (wN3 ad cy σ).set 4 (ad 28, .inl (cy 28, 256, .inl (upd (zgi σ 28) j v))) = wN3 ad cy (zsi σ 28 j v) := rfl
theorem tN3_t28 (cy : Nat → ClassId) : (tN3 cy)[3]? = some (cy 28, .int) := rfl
theorem wN3_e29 (ad : Nat → Nat) (cy : Nat → ClassId) (σ : zSt) : (wN3 ad cy σ)[5]? = some (ad 29, .inl (cy 29, 32, .inl (zgi σ 29))) := rfl
theorem wN3_s29 (ad : Nat → Nat) (cy : Nat → ClassId) (σ : zSt) (j : Nat) (v : Int32) : (wN3 ad cy σ).set 5 (ad 29, .inl (cy 29, 32, .inl (upd (zgi σ 29) j v))) = wN3 ad cy (zsi σ 29 j v) := rfl
theorem tN3_t29 (cy : Nat → ClassId) : (tN3 cy)[4]? = some (cy 29, .int) := rfl
noncomputable def wN4 (ad : Nat → Nat) (cy : Nat → ClassId) (σ : zSt) : va_W := [(ad 4, .inr (9, wCf4 ad σ)), (ad 30, .inl (cy 30, 19, .inl (zgi σ 30))), (ad 31, .inl (cy 31, 19, .inl (zgi σ 31)))]
noncomputable def tN4 (cy : Nat → ClassId) : List (ClassId × FieldType) := [(cy 30, .int), (cy 31, .int)]
theorem wN4_e4 (ad : Nat → Nat) (cy : Nat → ClassId) (σ : zSt) : (wN4 ad cy σ)[0]? = some (ad 4, .inr (9, wCf4 ad σ)) := rfl
theorem wN4_e30 (ad : Nat → Nat) (cy : Nat → ClassId) (σ : zSt) : (wN4 ad cy σ)[1]? = some (ad 30, .inl (cy 30, 19, .inl (zgi σ 30))) := rfl
theorem wN4_s30 (ad : Nat → Nat) (cy : Nat → ClassId) (σ : zSt) (j : Nat) (v : Int32) : (wN4 ad cy σ).set 1 (ad 30, .inl (cy 30, 19, .inl (upd (zgi σ 30) j v))) = wN4 ad cy (zsi σ 30 j v) := rfl
theorem tN4_t30 (cy : Nat → ClassId) : (tN4 cy)[0]? = some (cy 30, .int) := rfl
theorem wN4_e31 (ad : Nat → Nat) (cy : Nat → ClassId) (σ : zSt) : (wN4 ad cy σ)[2]? = some (ad 31, .inl (cy 31, 19, .inl (zgi σ 31))) := rfl
theorem wN4_s31 (ad : Nat → Nat) (cy : Nat → ClassId) (σ : zSt) (j : Nat) (v : Int32) : (wN4 ad cy σ).set 2 (ad 31, .inl (cy 31, 19, .inl (upd (zgi σ 31) j v))) = wN4 ad cy (zsi σ 31 j v) := rfl
theorem tN4_t31 (cy : Nat → ClassId) : (tN4 cy)[1]? = some (cy 31, .int) := rfl
noncomputable def wN5 (ad : Nat → Nat) (cy : Nat → ClassId) (σ : zSt) : va_W := [(ad 5, .inr (12, wCf5 ad σ)), (ad 32, .inl (cy 32, 272, .inl (zgi σ 32))), (ad 33, .inl (cy 33, 272, .inl (zgi σ 33)))]
noncomputable def tN5 (cy : Nat → ClassId) : List (ClassId × FieldType) := [(cy 32, .int), (cy 33, .int)]
theorem wN5_e5 (ad : Nat → Nat) (cy : Nat → ClassId) (σ : zSt) : (wN5 ad cy σ)[0]? = some (ad 5, .inr (12, wCf5 ad σ)) := rfl
theorem wN5_s5_2 (ad : Nat → Nat) (cy : Nat → ClassId) (σ : zSt) (v : Int32) : (wN5 ad cy σ).set 0 (ad 5, .inr (12, (wCf5 ad σ).set 2 (.int v))) = wN5 ad cy (zsi σ 5 2 v) := rfl
theorem wN5_s5_3 (ad : Nat → Nat) (cy : Nat → ClassId) (σ : zSt) (v : Int32) : (wN5 ad cy σ).set 0 (ad 5, .inr (12, (wCf5 ad σ).set 3 (.int v))) = wN5 ad cy (zsi σ 5 3 v) := rfl
theorem wN5_s5_4 (ad : Nat → Nat) (cy : Nat → ClassId) (σ : zSt) (v : Int32) : (wN5 ad cy σ).set 0 (ad 5, .inr (12, (wCf5 ad σ).set 4 (.int v))) = wN5 ad cy (zsi σ 5 4 v) := rfl
theorem wN5_s5_5 (ad : Nat → Nat) (cy : Nat → ClassId) (σ : zSt) (v : Int32) : (wN5 ad cy σ).set 0 (ad 5, .inr (12, (wCf5 ad σ).set 5 (.int v))) = wN5 ad cy (zsi σ 5 5 v) := rfl
theorem wN5_s5_6 (ad : Nat → Nat) (cy : Nat → ClassId) (σ : zSt) (v : Int64) : (wN5 ad cy σ).set 0 (ad 5, .inr (12, (wCf5 ad σ).set 6 (.long v))) = wN5 ad cy (zsl σ 5 6 v) := rfl
theorem wN5_s5_7 (ad : Nat → Nat) (cy : Nat → ClassId) (σ : zSt) (v : Int64) : (wN5 ad cy σ).set 0 (ad 5, .inr (12, (wCf5 ad σ).set 7 (.long v))) = wN5 ad cy (zsl σ 5 7 v) := rfl
theorem wN5_e32 (ad : Nat → Nat) (cy : Nat → ClassId) (σ : zSt) : (wN5 ad cy σ)[1]? = some (ad 32, .inl (cy 32, 272, .inl (zgi σ 32))) := rfl
theorem wN5_s32 (ad : Nat → Nat) (cy : Nat → ClassId) (σ : zSt) (j : Nat) (v : Int32) : (wN5 ad cy σ).set 1 (ad 32, .inl (cy 32, 272, .inl (upd (zgi σ 32) j v))) = wN5 ad cy (zsi σ 32 j v) := rfl
theorem tN5_t32 (cy : Nat → ClassId) : (tN5 cy)[0]? = some (cy 32, .int) := rfl
theorem wN5_e33 (ad : Nat → Nat) (cy : Nat → ClassId) (σ : zSt) : (wN5 ad cy σ)[2]? = some (ad 33, .inl (cy 33, 272, .inl (zgi σ 33))) := rfl
theorem wN5_s33 (ad : Nat → Nat) (cy : Nat → ClassId) (σ : zSt) (j : Nat) (v : Int32) : (wN5 ad cy σ).set 2 (ad 33, .inl (cy 33, 272, .inl (upd (zgi σ 33) j v))) = wN5 ad cy (zsi σ 33 j v) := rfl
theorem tN5_t33 (cy : Nat → ClassId) : (tN5 cy)[1]? = some (cy 33, .int) := rfl
noncomputable def wN6 (ad : Nat → Nat) (cy : Nat → ClassId) (σ : zSt) : va_W := [(ad 6, .inr (6, wCf6 ad σ)), (ad 34, .inl (cy 34, 12, .inl (zgi σ 34))), (ad 35, .inl (cy 35, 12, .inl (zgi σ 35)))]
noncomputable def tN6 (cy : Nat → ClassId) : List (ClassId × FieldType) := [(cy 34, .int), (cy 35, .int)]
theorem wN6_e6 (ad : Nat → Nat) (cy : Nat → ClassId) (σ : zSt) : (wN6 ad cy σ)[0]? = some (ad 6, .inr (6, wCf6 ad σ)) := rfl
theorem wN6_e34 (ad : Nat → Nat) (cy : Nat → ClassId) (σ : zSt) : (wN6 ad cy σ)[1]? = some (ad 34, .inl (cy 34, 12, .inl (zgi σ 34))) := rfl
theorem wN6_s34 (ad : Nat → Nat) (cy : Nat → ClassId) (σ : zSt) (j : Nat) (v : Int32) : (wN6 ad cy σ).set 1 (ad 34, .inl (cy 34, 12, .inl (upd (zgi σ 34) j v))) = wN6 ad cy (zsi σ 34 j v) := rfl
theorem tN6_t34 (cy : Nat → ClassId) : (tN6 cy)[0]? = some (cy 34, .int) := rfl
theorem wN6_e35 (ad : Nat → Nat) (cy : Nat → ClassId) (σ : zSt) : (wN6 ad cy σ)[2]? = some (ad 35, .inl (cy 35, 12, .inl (zgi σ 35))) := rfl
theorem wN6_s35 (ad : Nat → Nat) (cy : Nat → ClassId) (σ : zSt) (j : Nat) (v : Int32) : (wN6 ad cy σ).set 2 (ad 35, .inl (cy 35, 12, .inl (upd (zgi σ 35) j v))) = wN6 ad cy (zsi σ 35 j v) := rfl
theorem tN6_t35 (cy : Nat → ClassId) : (tN6 cy)[1]? = some (cy 35, .int) := rfl
noncomputable def wN7 (ad : Nat → Nat) (cy : Nat → ClassId) (σ : zSt) : va_W := [(ad 7, .inr (7, wCf7 ad σ)), (ad 36, .inl (cy 36, 29, .inl (zgi σ 36))), (ad 37, .inl (cy 37, 29, .inl (zgi σ 37)))]
noncomputable def tN7 (cy : Nat → ClassId) : List (ClassId × FieldType) := [(cy 36, .int), (cy 37, .int)]
theorem wN7_e7 (ad : Nat → Nat) (cy : Nat → ClassId) (σ : zSt) : (wN7 ad cy σ)[0]? = some (ad 7, .inr (7, wCf7 ad σ)) := rfl
theorem wN7_s7_4 (ad : Nat → Nat) (cy : Nat → ClassId) (σ : zSt) (v : Int32) : (wN7 ad cy σ).set 0 (ad 7, .inr (7, (wCf7 ad σ).set 4 (.int v))) = wN7 ad cy (zsi σ 7 4 v) := rfl
theorem wN7_s7_5 (ad : Nat → Nat) (cy : Nat → ClassId) (σ : zSt) (v : Int32) : (wN7 ad cy σ).set 0 (ad 7, .inr (7, (wCf7 ad σ).set 5 (.int v))) = wN7 ad cy (zsi σ 7 5 v) := rfl
theorem wN7_e36 (ad : Nat → Nat) (cy : Nat → ClassId) (σ : zSt) : (wN7 ad cy σ)[1]? = some (ad 36, .inl (cy 36, 29, .inl (zgi σ 36))) := rfl
theorem wN7_s36 (ad : Nat → Nat) (cy : Nat → ClassId) (σ : zSt) (j : Nat) (v : Int32) : (wN7 ad cy σ).set 1 (ad 36, .inl (cy 36, 29, .inl (upd (zgi σ 36) j v))) = wN7 ad cy (zsi σ 36 j v) := rfl
theorem tN7_t36 (cy : Nat → ClassId) : (tN7 cy)[0]? = some (cy 36, .int) := rfl
theorem wN7_e37 (ad : Nat → Nat) (cy : Nat → ClassId) (σ : zSt) : (wN7 ad cy σ)[2]? = some (ad 37, .inl (cy 37, 29, .inl (zgi σ 37))) := rfl
theorem wN7_s37 (ad : Nat → Nat) (cy : Nat → ClassId) (σ : zSt) (j : Nat) (v : Int32) : (wN7 ad cy σ).set 2 (ad 37, .inl (cy 37, 29, .inl (upd (zgi σ 37) j v))) = wN7 ad cy (zsi σ 37 j v) := rfl
theorem tN7_t37 (cy : Nat → ClassId) : (tN7 cy)[1]? = some (cy 37, .int) := rfl
noncomputable def wN8 (ad : Nat → Nat) (cy : Nat → ClassId) (σ : zSt) : va_W := [(ad 8, .inr (2, wCf8 ad σ)), (ad 11, .inr (8, wCf11 ad σ)), (ad 46, .inl (cy 46, 4096, .inr (.inl (zgl σ 46)))), (ad 47, .inl (cy 47, 4096, .inr (.inl (zgl σ 47)))), (ad 12, .inr (8, wCf12 ad σ)), (ad 48, .inl (cy 48, 4096, .inr (.inl (zgl σ 48)))), (ad 49, .inl (cy 49, 4096, .inr (.inl (zgl σ 49)))), (ad 38, .inl (cy 38, 7, .inr (.inl (zgl σ 38)))), (ad 39, .inl (cy 39, 7, .inr (.inl (zgl σ 39))))]
noncomputable def tN8 (cy : Nat → ClassId) : List (ClassId × FieldType) := [(cy 46, .long), (cy 47, .long), (cy 48, .long), (cy 49, .long), (cy 38, .long), (cy 39, .long)]
theorem wN8_e8 (ad : Nat → Nat) (cy : Nat → ClassId) (σ : zSt) : (wN8 ad cy σ)[0]? = some (ad 8, .inr (2, wCf8 ad σ)) := rfl
theorem wN8_e11 (ad : Nat → Nat) (cy : Nat → ClassId) (σ : zSt) : (wN8 ad cy σ)[1]? = some (ad 11, .inr (8, wCf11 ad σ)) := rfl
theorem wN8_s11_2 (ad : Nat → Nat) (cy : Nat → ClassId) (σ : zSt) (v : Int32) : (wN8 ad cy σ).set 1 (ad 11, .inr (8, (wCf11 ad σ).set 2 (.int v))) = wN8 ad cy (zsi σ 11 2 v) := rfl
theorem wN8_s11_3 (ad : Nat → Nat) (cy : Nat → ClassId) (σ : zSt) (v : Int32) : (wN8 ad cy σ).set 1 (ad 11, .inr (8, (wCf11 ad σ).set 3 (.int v))) = wN8 ad cy (zsi σ 11 3 v) := rfl
theorem wN8_s11_4 (ad : Nat → Nat) (cy : Nat → ClassId) (σ : zSt) (v : Int32) : (wN8 ad cy σ).set 1 (ad 11, .inr (8, (wCf11 ad σ).set 4 (.int v))) = wN8 ad cy (zsi σ 11 4 v) := rfl
theorem wN8_s11_5 (ad : Nat → Nat) (cy : Nat → ClassId) (σ : zSt) (v : Int32) : (wN8 ad cy σ).set 1 (ad 11, .inr (8, (wCf11 ad σ).set 5 (.int v))) = wN8 ad cy (zsi σ 11 5 v) := rfl
theorem wN8_e46 (ad : Nat → Nat) (cy : Nat → ClassId) (σ : zSt) : (wN8 ad cy σ)[2]? = some (ad 46, .inl (cy 46, 4096, .inr (.inl (zgl σ 46)))) := rfl
theorem wN8_s46 (ad : Nat → Nat) (cy : Nat → ClassId) (σ : zSt) (j : Nat) (v : Int64) : (wN8 ad cy σ).set 2 (ad 46, .inl (cy 46, 4096, .inr (.inl (vp_updL (zgl σ 46) j v)))) = wN8 ad cy (zsl σ 46 j v) := rfl
theorem tN8_t46 (cy : Nat → ClassId) : (tN8 cy)[0]? = some (cy 46, .long) := rfl
theorem wN8_e47 (ad : Nat → Nat) (cy : Nat → ClassId) (σ : zSt) : (wN8 ad cy σ)[3]? = some (ad 47, .inl (cy 47, 4096, .inr (.inl (zgl σ 47)))) := rfl
theorem wN8_s47 (ad : Nat → Nat) (cy : Nat → ClassId) (σ : zSt) (j : Nat) (v : Int64) : (wN8 ad cy σ).set 3 (ad 47, .inl (cy 47, 4096, .inr (.inl (vp_updL (zgl σ 47) j v)))) = wN8 ad cy (zsl σ 47 j v) := rfl
theorem tN8_t47 (cy : Nat → ClassId) : (tN8 cy)[1]? = some (cy 47, .long) := rfl
theorem wN8_e12 (ad : Nat → Nat) (cy : Nat → ClassId) (σ : zSt) : (wN8 ad cy σ)[4]? = some (ad 12, .inr (8, wCf12 ad σ)) := rfl
theorem wN8_s12_2 (ad : Nat → Nat) (cy : Nat → ClassId) (σ : zSt) (v : Int32) : (wN8 ad cy σ).set 4 (ad 12, .inr (8, (wCf12 ad σ).set 2 (.int v))) = wN8 ad cy (zsi σ 12 2 v) := rfl
theorem wN8_s12_3 (ad : Nat → Nat) (cy : Nat → ClassId) (σ : zSt) (v : Int32) : (wN8 ad cy σ).set 4 (ad 12, .inr (8, (wCf12 ad σ).set 3 (.int v))) = wN8 ad cy (zsi σ 12 3 v) := rfl
theorem wN8_s12_4 (ad : Nat → Nat) (cy : Nat → ClassId) (σ : zSt) (v : Int32) : (wN8 ad cy σ).set 4 (ad 12, .inr (8, (wCf12 ad σ).set 4 (.int v))) = wN8 ad cy (zsi σ 12 4 v) := rfl
theorem wN8_s12_5 (ad : Nat → Nat) (cy : Nat → ClassId) (σ : zSt) (v : Int32) : (wN8 ad cy σ).set 4 (ad 12, .inr (8, (wCf12 ad σ).set 5 (.int v))) = wN8 ad cy (zsi σ 12 5 v) := rfl
theorem wN8_e48 (ad : Nat → Nat) (cy : Nat → ClassId) (σ : zSt) : (wN8 ad cy σ)[5]? = some (ad 48, .inl (cy 48, 4096, .inr (.inl (zgl σ 48)))) := rfl
theorem wN8_s48 (ad : Nat → Nat) (cy : Nat → ClassId) (σ : zSt) (j : Nat) (v : Int64) : (wN8 ad cy σ).set 5 (ad 48, .inl (cy 48, 4096, .inr (.inl (vp_updL (zgl σ 48) j v)))) = wN8 ad cy (zsl σ 48 j v) := rfl
theorem tN8_t48 (cy : Nat → ClassId) : (tN8 cy)[2]? = some (cy 48, .long) := rfl
theorem wN8_e49 (ad : Nat → Nat) (cy : Nat → ClassId) (σ : zSt) : (wN8 ad cy σ)[6]? = some (ad 49, .inl (cy 49, 4096, .inr (.inl (zgl σ 49)))) := rfl
theorem wN8_s49 (ad : Nat → Nat) (cy : Nat → ClassId) (σ : zSt) (j : Nat) (v : Int64) : (wN8 ad cy σ).set 6 (ad 49, .inl (cy 49, 4096, .inr (.inl (vp_updL (zgl σ 49) j v)))) = wN8 ad cy (zsl σ 49 j v) := rfl
theorem tN8_t49 (cy : Nat → ClassId) : (tN8 cy)[3]? = some (cy 49, .long) := rfl
theorem wN8_e38 (ad : Nat → Nat) (cy : Nat → ClassId) (σ : zSt) : (wN8 ad cy σ)[7]? = some (ad 38, .inl (cy 38, 7, .inr (.inl (zgl σ 38)))) := rfl
theorem wN8_s38 (ad : Nat → Nat) (cy : Nat → ClassId) (σ : zSt) (j : Nat) (v : Int64) : (wN8 ad cy σ).set 7 (ad 38, .inl (cy 38, 7, .inr (.inl (vp_updL (zgl σ 38) j v)))) = wN8 ad cy (zsl σ 38 j v) := rfl
theorem tN8_t38 (cy : Nat → ClassId) : (tN8 cy)[4]? = some (cy 38, .long) := rfl
theorem wN8_e39 (ad : Nat → Nat) (cy : Nat → ClassId) (σ : zSt) : (wN8 ad cy σ)[8]? = some (ad 39, .inl (cy 39, 7, .inr (.inl (zgl σ 39)))) := rfl
theorem wN8_s39 (ad : Nat → Nat) (cy : Nat → ClassId) (σ : zSt) (j : Nat) (v : Int64) : (wN8 ad cy σ).set 8 (ad 39, .inl (cy 39, 7, .inr (.inl (vp_updL (zgl σ 39) j v)))) = wN8 ad cy (zsl σ 39 j v) := rfl
theorem tN8_t39 (cy : Nat → ClassId) : (tN8 cy)[5]? = some (cy 39, .long) := rfl
noncomputable def wN9 (ad : Nat → Nat) (cy : Nat → ClassId) (σ : zSt) : va_W := [(ad 9, .inr (3, wCf9 ad σ)), (ad 40, .inl (cy 40, 9, .inl (zgi σ 40))), (ad 41, .inl (cy 41, 9, .inl (zgi σ 41))), (ad 42, .inl (cy 42, 770, .inl (zgi σ 42))), (ad 43, .inl (cy 43, 770, .inl (zgi σ 43))), (ad 44, .inl (cy 44, 32, .inl (zgi σ 44)))]
noncomputable def tN9 (cy : Nat → ClassId) : List (ClassId × FieldType) := [(cy 40, .int), (cy 41, .int), (cy 42, .int), (cy 43, .int), (cy 44, .int)]
theorem wN9_e9 (ad : Nat → Nat) (cy : Nat → ClassId) (σ : zSt) : (wN9 ad cy σ)[0]? = some (ad 9, .inr (3, wCf9 ad σ)) := rfl
theorem wN9_s9_5 (ad : Nat → Nat) (cy : Nat → ClassId) (σ : zSt) (v : Int32) : (wN9 ad cy σ).set 0 (ad 9, .inr (3, (wCf9 ad σ).set 5 (.int v))) = wN9 ad cy (zsi σ 9 5 v) := rfl
theorem wN9_e40 (ad : Nat → Nat) (cy : Nat → ClassId) (σ : zSt) : (wN9 ad cy σ)[1]? = some (ad 40, .inl (cy 40, 9, .inl (zgi σ 40))) := rfl
theorem wN9_s40 (ad : Nat → Nat) (cy : Nat → ClassId) (σ : zSt) (j : Nat) (v : Int32) : (wN9 ad cy σ).set 1 (ad 40, .inl (cy 40, 9, .inl (upd (zgi σ 40) j v))) = wN9 ad cy (zsi σ 40 j v) := rfl
theorem tN9_t40 (cy : Nat → ClassId) : (tN9 cy)[0]? = some (cy 40, .int) := rfl
theorem wN9_e41 (ad : Nat → Nat) (cy : Nat → ClassId) (σ : zSt) : (wN9 ad cy σ)[2]? = some (ad 41, .inl (cy 41, 9, .inl (zgi σ 41))) := rfl
theorem wN9_s41 (ad : Nat → Nat) (cy : Nat → ClassId) (σ : zSt) (j : Nat) (v : Int32) : (wN9 ad cy σ).set 2 (ad 41, .inl (cy 41, 9, .inl (upd (zgi σ 41) j v))) = wN9 ad cy (zsi σ 41 j v) := rfl
theorem tN9_t41 (cy : Nat → ClassId) : (tN9 cy)[1]? = some (cy 41, .int) := rfl
theorem wN9_e42 (ad : Nat → Nat) (cy : Nat → ClassId) (σ : zSt) : (wN9 ad cy σ)[3]? = some (ad 42, .inl (cy 42, 770, .inl (zgi σ 42))) := rfl
theorem wN9_s42 (ad : Nat → Nat) (cy : Nat → ClassId) (σ : zSt) (j : Nat) (v : Int32) : (wN9 ad cy σ).set 3 (ad 42, .inl (cy 42, 770, .inl (upd (zgi σ 42) j v))) = wN9 ad cy (zsi σ 42 j v) := rfl
theorem tN9_t42 (cy : Nat → ClassId) : (tN9 cy)[2]? = some (cy 42, .int) := rfl
theorem wN9_e43 (ad : Nat → Nat) (cy : Nat → ClassId) (σ : zSt) : (wN9 ad cy σ)[4]? = some (ad 43, .inl (cy 43, 770, .inl (zgi σ 43))) := rfl
theorem wN9_s43 (ad : Nat → Nat) (cy : Nat → ClassId) (σ : zSt) (j : Nat) (v : Int32) : (wN9 ad cy σ).set 4 (ad 43, .inl (cy 43, 770, .inl (upd (zgi σ 43) j v))) = wN9 ad cy (zsi σ 43 j v) := rfl
theorem tN9_t43 (cy : Nat → ClassId) : (tN9 cy)[3]? = some (cy 43, .int) := rfl
theorem wN9_e44 (ad : Nat → Nat) (cy : Nat → ClassId) (σ : zSt) : (wN9 ad cy σ)[5]? = some (ad 44, .inl (cy 44, 32, .inl (zgi σ 44))) := rfl
theorem wN9_s44 (ad : Nat → Nat) (cy : Nat → ClassId) (σ : zSt) (j : Nat) (v : Int32) : (wN9 ad cy σ).set 5 (ad 44, .inl (cy 44, 32, .inl (upd (zgi σ 44) j v))) = wN9 ad cy (zsi σ 44 j v) := rfl
theorem tN9_t44 (cy : Nat → ClassId) : (tN9 cy)[4]? = some (cy 44, .int) := rfl
noncomputable def wN10 (ad : Nat → Nat) (cy : Nat → ClassId) (σ : zSt) : va_W := [(ad 10, .inr (10, wCf10 ad σ)), (ad 45, .inl (cy 45, 32, .inl (zgi σ 45)))]
noncomputable def tN10 (cy : Nat → ClassId) : List (ClassId × FieldType) := [(cy 45, .int)]
theorem wN10_e10 (ad : Nat → Nat) (cy : Nat → ClassId) (σ : zSt) : (wN10 ad cy σ)[0]? = some (ad 10, .inr (10, wCf10 ad σ)) := rfl
theorem wN10_s10_2 (ad : Nat → Nat) (cy : Nat → ClassId) (σ : zSt) (v : Int32) : (wN10 ad cy σ).set 0 (ad 10, .inr (10, (wCf10 ad σ).set 2 (.int v))) = wN10 ad cy (zsi σ 10 2 v) := rfl
theorem wN10_s10_3 (ad : Nat → Nat) (cy : Nat → ClassId) (σ : zSt) (v : Int32) : (wN10 ad cy σ).set 0 (ad 10, .inr (10, (wCf10 ad σ).set 3 (.int v))) = wN10 ad cy (zsi σ 10 3 v) := rfl
theorem wN10_s10_4 (ad : Nat → Nat) (cy : Nat → ClassId) (σ : zSt) (v : Int32) : (wN10 ad cy σ).set 0 (ad 10, .inr (10, (wCf10 ad σ).set 4 (.int v))) = wN10 ad cy (zsi σ 10 4 v) := rfl
theorem wN10_s10_5 (ad : Nat → Nat) (cy : Nat → ClassId) (σ : zSt) (v : Int32) : (wN10 ad cy σ).set 0 (ad 10, .inr (10, (wCf10 ad σ).set 5 (.int v))) = wN10 ad cy (zsi σ 10 5 v) := rfl
theorem wN10_s10_6 (ad : Nat → Nat) (cy : Nat → ClassId) (σ : zSt) (v : Int32) : (wN10 ad cy σ).set 0 (ad 10, .inr (10, (wCf10 ad σ).set 6 (.int v))) = wN10 ad cy (zsi σ 10 6 v) := rfl
theorem wN10_s10_7 (ad : Nat → Nat) (cy : Nat → ClassId) (σ : zSt) (v : Int32) : (wN10 ad cy σ).set 0 (ad 10, .inr (10, (wCf10 ad σ).set 7 (.int v))) = wN10 ad cy (zsi σ 10 7 v) := rfl
theorem wN10_s10_8 (ad : Nat → Nat) (cy : Nat → ClassId) (σ : zSt) (v : Int32) : (wN10 ad cy σ).set 0 (ad 10, .inr (10, (wCf10 ad σ).set 8 (.int v))) = wN10 ad cy (zsi σ 10 8 v) := rfl
theorem wN10_s10_9 (ad : Nat → Nat) (cy : Nat → ClassId) (σ : zSt) (v : Int32) : (wN10 ad cy σ).set 0 (ad 10, .inr (10, (wCf10 ad σ).set 9 (.int v))) = wN10 ad cy (zsi σ 10 9 v) := rfl
theorem wN10_s10_10 (ad : Nat → Nat) (cy : Nat → ClassId) (σ : zSt) (v : Int32) : (wN10 ad cy σ).set 0 (ad 10, .inr (10, (wCf10 ad σ).set 10 (.int v))) = wN10 ad cy (zsi σ 10 10 v) := rfl
theorem wN10_e45 (ad : Nat → Nat) (cy : Nat → ClassId) (σ : zSt) : (wN10 ad cy σ)[1]? = some (ad 45, .inl (cy 45, 32, .inl (zgi σ 45))) := rfl
theorem wN10_s45 (ad : Nat → Nat) (cy : Nat → ClassId) (σ : zSt) (j : Nat) (v : Int32) : (wN10 ad cy σ).set 1 (ad 45, .inl (cy 45, 32, .inl (upd (zgi σ 45) j v))) = wN10 ad cy (zsi σ 45 j v) := rfl
theorem tN10_t45 (cy : Nat → ClassId) : (tN10 cy)[0]? = some (cy 45, .int) := rfl
noncomputable def wN11 (ad : Nat → Nat) (cy : Nat → ClassId) (σ : zSt) : va_W := [(ad 11, .inr (8, wCf11 ad σ)), (ad 46, .inl (cy 46, 4096, .inr (.inl (zgl σ 46)))), (ad 47, .inl (cy 47, 4096, .inr (.inl (zgl σ 47))))]
noncomputable def tN11 (cy : Nat → ClassId) : List (ClassId × FieldType) := [(cy 46, .long), (cy 47, .long)]
theorem wN11_e11 (ad : Nat → Nat) (cy : Nat → ClassId) (σ : zSt) : (wN11 ad cy σ)[0]? = some (ad 11, .inr (8, wCf11 ad σ)) := rfl
theorem wN11_s11_2 (ad : Nat → Nat) (cy : Nat → ClassId) (σ : zSt) (v : Int32) : (wN11 ad cy σ).set 0 (ad 11, .inr (8, (wCf11 ad σ).set 2 (.int v))) = wN11 ad cy (zsi σ 11 2 v) := rfl
theorem wN11_s11_3 (ad : Nat → Nat) (cy : Nat → ClassId) (σ : zSt) (v : Int32) : (wN11 ad cy σ).set 0 (ad 11, .inr (8, (wCf11 ad σ).set 3 (.int v))) = wN11 ad cy (zsi σ 11 3 v) := rfl
theorem wN11_s11_4 (ad : Nat → Nat) (cy : Nat → ClassId) (σ : zSt) (v : Int32) : (wN11 ad cy σ).set 0 (ad 11, .inr (8, (wCf11 ad σ).set 4 (.int v))) = wN11 ad cy (zsi σ 11 4 v) := rfl
theorem wN11_s11_5 (ad : Nat → Nat) (cy : Nat → ClassId) (σ : zSt) (v : Int32) : (wN11 ad cy σ).set 0 (ad 11, .inr (8, (wCf11 ad σ).set 5 (.int v))) = wN11 ad cy (zsi σ 11 5 v) := rfl
theorem wN11_e46 (ad : Nat → Nat) (cy : Nat → ClassId) (σ : zSt) : (wN11 ad cy σ)[1]? = some (ad 46, .inl (cy 46, 4096, .inr (.inl (zgl σ 46)))) := rfl
theorem wN11_s46 (ad : Nat → Nat) (cy : Nat → ClassId) (σ : zSt) (j : Nat) (v : Int64) : (wN11 ad cy σ).set 1 (ad 46, .inl (cy 46, 4096, .inr (.inl (vp_updL (zgl σ 46) j v)))) = wN11 ad cy (zsl σ 46 j v) := rfl
theorem tN11_t46 (cy : Nat → ClassId) : (tN11 cy)[0]? = some (cy 46, .long) := rfl
theorem wN11_e47 (ad : Nat → Nat) (cy : Nat → ClassId) (σ : zSt) : (wN11 ad cy σ)[2]? = some (ad 47, .inl (cy 47, 4096, .inr (.inl (zgl σ 47)))) := rfl
theorem wN11_s47 (ad : Nat → Nat) (cy : Nat → ClassId) (σ : zSt) (j : Nat) (v : Int64) : (wN11 ad cy σ).set 2 (ad 47, .inl (cy 47, 4096, .inr (.inl (vp_updL (zgl σ 47) j v)))) = wN11 ad cy (zsl σ 47 j v) := rfl
theorem tN11_t47 (cy : Nat → ClassId) : (tN11 cy)[1]? = some (cy 47, .long) := rfl
noncomputable def wN12 (ad : Nat → Nat) (cy : Nat → ClassId) (σ : zSt) : va_W := [(ad 12, .inr (8, wCf12 ad σ)), (ad 48, .inl (cy 48, 4096, .inr (.inl (zgl σ 48)))), (ad 49, .inl (cy 49, 4096, .inr (.inl (zgl σ 49))))]
noncomputable def tN12 (cy : Nat → ClassId) : List (ClassId × FieldType) := [(cy 48, .long), (cy 49, .long)]
theorem wN12_e12 (ad : Nat → Nat) (cy : Nat → ClassId) (σ : zSt) : (wN12 ad cy σ)[0]? = some (ad 12, .inr (8, wCf12 ad σ)) := rfl
theorem wN12_s12_2 (ad : Nat → Nat) (cy : Nat → ClassId) (σ : zSt) (v : Int32) : (wN12 ad cy σ).set 0 (ad 12, .inr (8, (wCf12 ad σ).set 2 (.int v))) = wN12 ad cy (zsi σ 12 2 v) := rfl
theorem wN12_s12_3 (ad : Nat → Nat) (cy : Nat → ClassId) (σ : zSt) (v : Int32) : (wN12 ad cy σ).set 0 (ad 12, .inr (8, (wCf12 ad σ).set 3 (.int v))) = wN12 ad cy (zsi σ 12 3 v) := rfl
theorem wN12_s12_4 (ad : Nat → Nat) (cy : Nat → ClassId) (σ : zSt) (v : Int32) : (wN12 ad cy σ).set 0 (ad 12, .inr (8, (wCf12 ad σ).set 4 (.int v))) = wN12 ad cy (zsi σ 12 4 v) := rfl
theorem wN12_s12_5 (ad : Nat → Nat) (cy : Nat → ClassId) (σ : zSt) (v : Int32) : (wN12 ad cy σ).set 0 (ad 12, .inr (8, (wCf12 ad σ).set 5 (.int v))) = wN12 ad cy (zsi σ 12 5 v) := rfl
theorem wN12_e48 (ad : Nat → Nat) (cy : Nat → ClassId) (σ : zSt) : (wN12 ad cy σ)[1]? = some (ad 48, .inl (cy 48, 4096, .inr (.inl (zgl σ 48)))) := rfl
theorem wN12_s48 (ad : Nat → Nat) (cy : Nat → ClassId) (σ : zSt) (j : Nat) (v : Int64) : (wN12 ad cy σ).set 1 (ad 48, .inl (cy 48, 4096, .inr (.inl (vp_updL (zgl σ 48) j v)))) = wN12 ad cy (zsl σ 48 j v) := rfl
theorem tN12_t48 (cy : Nat → ClassId) : (tN12 cy)[0]? = some (cy 48, .long) := rfl
theorem wN12_e49 (ad : Nat → Nat) (cy : Nat → ClassId) (σ : zSt) : (wN12 ad cy σ)[2]? = some (ad 49, .inl (cy 49, 4096, .inr (.inl (zgl σ 49)))) := rfl
theorem wN12_s49 (ad : Nat → Nat) (cy : Nat → ClassId) (σ : zSt) (j : Nat) (v : Int64) : (wN12 ad cy σ).set 2 (ad 49, .inl (cy 49, 4096, .inr (.inl (vp_updL (zgl σ 49) j v)))) = wN12 ad cy (zsl σ 49 j v) := rfl
theorem tN12_t49 (cy : Nat → ClassId) : (tN12 cy)[1]? = some (cy 49, .long) := rfl
noncomputable def rmJ7_fill_53178_k30_w4 : Room := { frames := 0, cells := 0, slots := 0, locals := 0 }
set_option maxRecDepth 20000 in
set_option maxHeartbeats 4000000 in
theorem bJ7_fill_53178_k30_w4_5_body {st : Nat → Nat} {p : Program} {l : Launch} {e : Env} {s : State} {m : MethodId} {args : Array Value} {below : List Frame} {meth : Method} {c : Code} {D : va_G} {A : Nat → Prop} {ad : Nat → Nat} {cy : Nat → ClassId} (hC : zC p m c cJ7_fill_53178 4 s args wzJ7_fill_53178 RJ7 meth none) {k5 : zSt → Int32 → Int32 → Int32 → Option (zSt)} {res : zSt} (hk5 : ∀ (H : Heap) (locs : List Loc) (σ : zSt) (ls : Array Slot) (x1 : Int32) (x2 : Int32) (x3 : Int32), zI st D (tN4 cy) (wN4 ad cy σ) A s H locs → lv_has ls 4 [(0, .ref (ad 30)), (1, .int x1), (2, .int x2), (3, .int x3)] → k5 σ x1 x2 x3 = some res → W p l e rmJ7_fill_53178_k30_w4 s m args below meth c H locs 0 0 (zQu below args s D (tN4 cy) (wN4 ad cy) A res) (F0 m 5 ls [])) {H : Heap} {locs : List Loc} {σ : zSt} {ls : Array Slot} {x1 : Int32} {x2 : Int32} {x3 : Int32} (hI : zI st D (tN4 cy) (wN4 ad cy σ) A s H locs) (hl : lv_has ls 4 [(0, .ref (ad 30)), (1, .int x1), (2, .int x2), (3, .int x3)]) (hf : fJ7_fill_53178_k30_5_body k5 σ x1 x2 x3 = some res) : W p l e rmJ7_fill_53178_k30_w4 s m args below meth c H locs 0 0 (zQu below args s D (tN4 cy) (wN4 ad cy) A res) (F0 m 5 ls []) := by
  have hx := hC.1
  have hb := hC.2.1
  unfold fJ7_fill_53178_k30_5_body at hf
  refine lv_iload_n hx hb dJ7_fill_53178_5 rfl (lv_at hl 2 rfl) ?_
  refine lv_iload_n hx hb dJ7_fill_53178_6 rfl (lv_at hl 3 rfl) ?_
  refine lv_icmp_ge (tgt := 20) hx hb dJ7_fill_53178_7 (by decide) (fun q => ?_) (fun q => ?_)
  · replace hf := zif_t q hf
    exact z_return hC hI hf dJ7_fill_53178_20
  replace hf := zif_f q hf
  refine lv_aload_n hx hb dJ7_fill_53178_10 rfl (lv_at hl 0 rfl) ?_
  refine lv_iload_n hx hb dJ7_fill_53178_11 rfl (lv_at hl 2 rfl) ?_
  refine lv_iload_n hx hb dJ7_fill_53178_12 rfl (lv_at hl 1 rfl) ?_
  obtain ⟨q, hf⟩ := zck_use hf
  obtain ⟨σ1, eσ1⟩ : ∃ z, z = zsi σ 30 (x2.toNatClampNeg) x1 := ⟨_, rfl⟩
  replace hf := zbv_use eσ1 hf
  refine z_iast hC hI 1 0 (wN4_e30 ad cy σ) (tN4_t30 cy) q ((wN4_s30 ad cy σ _ _).trans (congrArg (wN4 ad cy) eσ1.symm)) dJ7_fill_53178_13 (fun H locs hI => ?_)
  obtain ⟨v2, ev2⟩ : ∃ z : Int32, z = x2 + 1 := ⟨_, rfl⟩
  replace hf := zbv_use ev2 hf
  refine lv_iinc (v := v2) (lv' := [(2, .int v2), (0, .ref (ad 30)), (1, .int x1), (3, .int x3)]) hx hb dJ7_fill_53178_14 hl (k := 2) rfl (by rw [ev2]; rfl) (by decide) rfl (fun ls hl => ?_)
  refine lv_goto (tgt := 5) hx hb dJ7_fill_53178_17 (by decide) ?_
  exact hk5 _ _ _ _ _ _ _ hI (lv_sub hl [1, 2, 0, 3] rfl) hf
theorem blJ7_fill_53178_k30_w4_5 {st : Nat → Nat} {p : Program} {l : Launch} {e : Env} {s : State} {m : MethodId} {args : Array Value} {below : List Frame} {meth : Method} {c : Code} {D : va_G} {A : Nat → Prop} {ad : Nat → Nat} {cy : Nat → ClassId} (hC : zC p m c cJ7_fill_53178 4 s args wzJ7_fill_53178 RJ7 meth none)  {res : zSt} : ∀ (n : Nat) (H : Heap) (locs : List Loc) (σ : zSt) (ls : Array Slot) (x1 : Int32) (x2 : Int32) (x3 : Int32), zI st D (tN4 cy) (wN4 ad cy σ) A s H locs → lv_has ls 4 [(0, .ref (ad 30)), (1, .int x1), (2, .int x2), (3, .int x3)] → fJ7_fill_53178_k30_5  n σ x1 x2 x3 = some res → W p l e rmJ7_fill_53178_k30_w4 s m args below meth c H locs 0 0 (zQu below args s D (tN4 cy) (wN4 ad cy) A res) (F0 m 5 ls []) := by
  intro n
  induction n with
  | zero => intro H locs σ ls x1 x2 x3 hI hl hf; cases hf
  | succ n ih => intro H locs σ ls x1 x2 x3 hI hl hf; exact bJ7_fill_53178_k30_w4_5_body hC ih hI hl hf
set_option maxRecDepth 20000 in
set_option maxHeartbeats 4000000 in
theorem bJ7_fill_53178_k30_w4 {st : Nat → Nat} {p : Program} {l : Launch} {e : Env} {s : State} {m : MethodId} {args : Array Value} {below : List Frame} {meth : Method} {c : Code} {D : va_G} {A : Nat → Prop} {ad : Nat → Nat} {cy : Nat → ClassId} (hC : zC p m c cJ7_fill_53178 4 s args wzJ7_fill_53178 RJ7 meth none)  {res : zSt} {H : Heap} {locs : List Loc} {σ : zSt} {ls : Array Slot} {x1 : Int32} (hI : zI st D (tN4 cy) (wN4 ad cy σ) A s H locs) (hl : lv_has ls 4 [(0, .ref (ad 30)), (1, .int x1)]) (hf : fJ7_fill_53178_k30  σ x1 = some res) : W p l e rmJ7_fill_53178_k30_w4 s m args below meth c H locs 0 0 (zQu below args s D (tN4 cy) (wN4 ad cy) A res) (F0 m 0 ls []) := by
  have hx := hC.1
  have hb := hC.2.1
  unfold fJ7_fill_53178_k30 at hf
  refine lv_iconst (v := 0) hx hb dJ7_fill_53178_0 (by decide) ?_
  refine lv_istore_n (lv' := [(2, .int 0), (0, .ref (ad 30)), (1, .int x1)]) hx hb dJ7_fill_53178_1 rfl hl (by decide) rfl (fun ls hl => ?_)
  refine lv_aload_n hx hb dJ7_fill_53178_2 rfl (lv_at hl 1 rfl) ?_
  refine z_alen (v := 19) hC hI 1 0 (wN4_e30 ad cy σ) (tN4_t30 cy) rfl dJ7_fill_53178_3 ?_
  refine lv_istore_n (lv' := [(3, .int 19), (2, .int 0), (0, .ref (ad 30)), (1, .int x1)]) hx hb dJ7_fill_53178_4 rfl hl (by decide) rfl (fun ls hl => ?_)
  exact blJ7_fill_53178_k30_w4_5 hC  zfuel _ _ _ _ _ _ _ hI (lv_sub hl [2, 3, 1, 0] rfl) hf
set_option maxRecDepth 20000 in
theorem cJ7_fill_53178_k30_w4_met (st : Nat → Nat) (l : Launch) (D : va_G) (ad : Nat → Nat) (cy : Nat → ClassId) (σ : zSt) (x1 : Int32) (res : zSt) (hf : fJ7_fill_53178_k30 σ x1 = some res) (sz : Nat) : zMu st l yJ7_fill_53178 wzJ7_fill_53178 rmJ7_fill_53178_k30_w4 [.ref (ad 30), .int x1] D (tN4 cy) (wN4 ad cy) sz σ res :=
  zMu.of (cc := cJ7_fill_53178) (maxL := 4) (ret := none) (by decide) rfl (Nat.le_of_ble_eq_true rfl) (fun p e s m args below meth c hC A hI ls hl => bJ7_fill_53178_k30_w4 hC hI hl hf)
theorem hdJ7_fill_53178_k30_w4 : yJ7_fill_53178.cls ≠ "java/lang/invoke/MethodHandle" ∧ yJ7_fill_53178.cls ≠ "java/lang/invoke/VarHandle" ∧ (parseMethodDescriptor yJ7_fill_53178.desc).map (fun d => d.parameters.length) = some 2 := by decide +kernel
noncomputable def rmJ7_rangeCheck_23922_w4 : Room := { frames := 0, cells := 0, slots := 0, locals := 0 }
set_option maxRecDepth 20000 in
set_option maxHeartbeats 4000000 in
theorem bJ7_rangeCheck_23922_w4 {st : Nat → Nat} {p : Program} {l : Launch} {e : Env} {s : State} {m : MethodId} {args : Array Value} {below : List Frame} {meth : Method} {c : Code} {D : va_G} {A : Nat → Prop} {ad : Nat → Nat} {cy : Nat → ClassId} (hC : zC p m c cJ7_rangeCheck_23922 3 s args wzJ7_rangeCheck_23922 RJ7 meth none)  {res : zSt} {H : Heap} {locs : List Loc} {σ : zSt} {ls : Array Slot} {x0 : Int32} {x1 : Int32} {x2 : Int32} (hI : zI st D (tN4 cy) (wN4 ad cy σ) A s H locs) (hl : lv_has ls 3 [(0, .int x0), (1, .int x1), (2, .int x2)]) (hf : fJ7_rangeCheck_23922  σ x0 x1 x2 = some res) : W p l e rmJ7_rangeCheck_23922_w4 s m args below meth c H locs 0 0 (zQu below args s D (tN4 cy) (wN4 ad cy) A res) (F0 m 0 ls []) := by
  have hx := hC.1
  have hb := hC.2.1
  unfold fJ7_rangeCheck_23922 at hf
  refine lv_iload_n hx hb dJ7_rangeCheck_23922_0 rfl (lv_at hl 1 rfl) ?_
  refine lv_iload_n hx hb dJ7_rangeCheck_23922_1 rfl (lv_at hl 2 rfl) ?_
  refine lv_icmp_le (tgt := 46) hx hb dJ7_rangeCheck_23922_2 (by decide) (fun q => ?_) (fun q => ?_)
  · replace hf := zif_t q hf
    refine lv_iload_n hx hb dJ7_rangeCheck_23922_46 rfl (lv_at hl 1 rfl) ?_
    refine lv_if_ge (tgt := 59) hx hb dJ7_rangeCheck_23922_47 (by decide) (fun q => ?_) (fun q => ?_)
    · replace hf := zif_t q hf
      refine lv_iload_n hx hb dJ7_rangeCheck_23922_59 rfl (lv_at hl 2 rfl) ?_
      refine lv_iload_n hx hb dJ7_rangeCheck_23922_60 rfl (lv_at hl 0 rfl) ?_
      refine lv_icmp_le (tgt := 73) hx hb dJ7_rangeCheck_23922_61 (by decide) (fun q => ?_) (fun q => ?_)
      · replace hf := zif_t q hf
        exact z_return hC hI hf dJ7_rangeCheck_23922_73
      replace hf := zif_f q hf
      cases hf
    replace hf := zif_f q hf
    cases hf
  replace hf := zif_f q hf
  cases hf
set_option maxRecDepth 20000 in
theorem cJ7_rangeCheck_23922_w4_met (st : Nat → Nat) (l : Launch) (D : va_G) (ad : Nat → Nat) (cy : Nat → ClassId) (σ : zSt) (x0 : Int32) (x1 : Int32) (x2 : Int32) (res : zSt) (hf : fJ7_rangeCheck_23922 σ x0 x1 x2 = some res) (sz : Nat) : zMu st l yJ7_rangeCheck_23922 wzJ7_rangeCheck_23922 rmJ7_rangeCheck_23922_w4 [.int x0, .int x1, .int x2] D (tN4 cy) (wN4 ad cy) sz σ res :=
  zMu.of (cc := cJ7_rangeCheck_23922) (maxL := 3) (ret := none) (by decide) rfl (Nat.le_of_ble_eq_true rfl) (fun p e s m args below meth c hC A hI ls hl => bJ7_rangeCheck_23922_w4 hC hI hl hf)
theorem hdJ7_rangeCheck_23922_w4 : yJ7_rangeCheck_23922.cls ≠ "java/lang/invoke/MethodHandle" ∧ yJ7_rangeCheck_23922.cls ≠ "java/lang/invoke/VarHandle" ∧ (parseMethodDescriptor yJ7_rangeCheck_23922.desc).map (fun d => d.parameters.length) = some 3 := by decide +kernel
noncomputable def rmJ7_fill_fda19_k30_w4 : Room := { frames := 1, cells := 0, slots := 0, locals := 22 }
set_option maxRecDepth 20000 in
set_option maxHeartbeats 4000000 in
theorem bJ7_fill_fda19_k30_w4_10_body {st : Nat → Nat} {p : Program} {l : Launch} {e : Env} {s : State} {m : MethodId} {args : Array Value} {below : List Frame} {meth : Method} {c : Code} {D : va_G} {A : Nat → Prop} {ad : Nat → Nat} {cy : Nat → ClassId} (hC : zC p m c cJ7_fill_fda19 5 s args wzJ7_fill_fda19 RJ7 meth none) {k10 : zSt → Int32 → Int32 → Int32 → Option (zSt)} {res : zSt} (hk10 : ∀ (H : Heap) (locs : List Loc) (σ : zSt) (ls : Array Slot) (x2 : Int32) (x3 : Int32) (x4 : Int32), zI st D (tN4 cy) (wN4 ad cy σ) A s H locs → lv_has ls 5 [(0, .ref (ad 30)), (2, .int x2), (3, .int x3), (4, .int x4)] → k10 σ x2 x3 x4 = some res → W p l e rmJ7_fill_fda19_k30_w4 s m args below meth c H locs 0 0 (zQu below args s D (tN4 cy) (wN4 ad cy) A res) (F0 m 10 ls [])) {H : Heap} {locs : List Loc} {σ : zSt} {ls : Array Slot} {x2 : Int32} {x3 : Int32} {x4 : Int32} (hI : zI st D (tN4 cy) (wN4 ad cy σ) A s H locs) (hl : lv_has ls 5 [(0, .ref (ad 30)), (2, .int x2), (3, .int x3), (4, .int x4)]) (hf : fJ7_fill_fda19_k30_10_body k10 σ x2 x3 x4 = some res) : W p l e rmJ7_fill_fda19_k30_w4 s m args below meth c H locs 0 0 (zQu below args s D (tN4 cy) (wN4 ad cy) A res) (F0 m 10 ls []) := by
  have hx := hC.1
  have hb := hC.2.1
  unfold fJ7_fill_fda19_k30_10_body at hf
  refine lv_iload hx hb dJ7_fill_fda19_10 (lv_at hl 3 rfl) ?_
  refine lv_iload_n hx hb dJ7_fill_fda19_12 rfl (lv_at hl 1 rfl) ?_
  refine lv_icmp_ge (tgt := 27) hx hb dJ7_fill_fda19_13 (by decide) (fun q => ?_) (fun q => ?_)
  · replace hf := zif_t q hf
    exact z_return hC hI hf dJ7_fill_fda19_27
  replace hf := zif_f q hf
  refine lv_aload_n hx hb dJ7_fill_fda19_16 rfl (lv_at hl 0 rfl) ?_
  refine lv_iload hx hb dJ7_fill_fda19_17 (lv_at hl 3 rfl) ?_
  refine lv_iload_n hx hb dJ7_fill_fda19_19 rfl (lv_at hl 2 rfl) ?_
  obtain ⟨q, hf⟩ := zck_use hf
  obtain ⟨σ1, eσ1⟩ : ∃ z, z = zsi σ 30 (x4.toNatClampNeg) x3 := ⟨_, rfl⟩
  replace hf := zbv_use eσ1 hf
  refine z_iast hC hI 1 0 (wN4_e30 ad cy σ) (tN4_t30 cy) q ((wN4_s30 ad cy σ _ _).trans (congrArg (wN4 ad cy) eσ1.symm)) dJ7_fill_fda19_20 (fun H locs hI => ?_)
  obtain ⟨v2, ev2⟩ : ∃ z : Int32, z = x4 + 1 := ⟨_, rfl⟩
  replace hf := zbv_use ev2 hf
  refine lv_iinc (v := v2) (lv' := [(4, .int v2), (0, .ref (ad 30)), (2, .int x2), (3, .int x3)]) hx hb dJ7_fill_fda19_21 hl (k := 3) rfl (by rw [ev2]; rfl) (by decide) rfl (fun ls hl => ?_)
  refine lv_goto (tgt := 10) hx hb dJ7_fill_fda19_24 (by decide) ?_
  exact hk10 _ _ _ _ _ _ _ hI (lv_sub hl [1, 2, 3, 0] rfl) hf
theorem blJ7_fill_fda19_k30_w4_10 {st : Nat → Nat} {p : Program} {l : Launch} {e : Env} {s : State} {m : MethodId} {args : Array Value} {below : List Frame} {meth : Method} {c : Code} {D : va_G} {A : Nat → Prop} {ad : Nat → Nat} {cy : Nat → ClassId} (hC : zC p m c cJ7_fill_fda19 5 s args wzJ7_fill_fda19 RJ7 meth none)  {res : zSt} : ∀ (n : Nat) (H : Heap) (locs : List Loc) (σ : zSt) (ls : Array Slot) (x2 : Int32) (x3 : Int32) (x4 : Int32), zI st D (tN4 cy) (wN4 ad cy σ) A s H locs → lv_has ls 5 [(0, .ref (ad 30)), (2, .int x2), (3, .int x3), (4, .int x4)] → fJ7_fill_fda19_k30_10  n σ x2 x3 x4 = some res → W p l e rmJ7_fill_fda19_k30_w4 s m args below meth c H locs 0 0 (zQu below args s D (tN4 cy) (wN4 ad cy) A res) (F0 m 10 ls []) := by
  intro n
  induction n with
  | zero => intro H locs σ ls x2 x3 x4 hI hl hf; cases hf
  | succ n ih => intro H locs σ ls x2 x3 x4 hI hl hf; exact bJ7_fill_fda19_k30_w4_10_body hC ih hI hl hf
set_option maxRecDepth 20000 in
set_option maxHeartbeats 4000000 in
theorem bJ7_fill_fda19_k30_w4 {st : Nat → Nat} {p : Program} {l : Launch} {e : Env} {s : State} {m : MethodId} {args : Array Value} {below : List Frame} {meth : Method} {c : Code} {D : va_G} {A : Nat → Prop} {ad : Nat → Nat} {cy : Nat → ClassId} (hC : zC p m c cJ7_fill_fda19 5 s args wzJ7_fill_fda19 RJ7 meth none)  {res : zSt} {H : Heap} {locs : List Loc} {σ : zSt} {ls : Array Slot} {x1 : Int32} {x2 : Int32} {x3 : Int32} (hI : zI st D (tN4 cy) (wN4 ad cy σ) A s H locs) (hl : lv_has ls 5 [(0, .ref (ad 30)), (1, .int x1), (2, .int x2), (3, .int x3)]) (hf : fJ7_fill_fda19_k30  σ x1 x2 x3 = some res) : W p l e rmJ7_fill_fda19_k30_w4 s m args below meth c H locs 0 0 (zQu below args s D (tN4 cy) (wN4 ad cy) A res) (F0 m 0 ls []) := by
  have hx := hC.1
  have hb := hC.2.1
  unfold fJ7_fill_fda19_k30 at hf
  refine lv_aload_n hx hb dJ7_fill_fda19_0 rfl (lv_at hl 0 rfl) ?_
  refine z_alen (v := 19) hC hI 1 0 (wN4_e30 ad cy σ) (tN4_t30 cy) rfl dJ7_fill_fda19_1 ?_
  refine lv_iload_n hx hb dJ7_fill_fda19_2 rfl (lv_at hl 1 rfl) ?_
  refine lv_iload_n hx hb dJ7_fill_fda19_3 rfl (lv_at hl 2 rfl) ?_
  obtain ⟨σ3, g3, hf⟩ := zbu_use hf
  refine z_callSu (As := [.int 19, .int x1, .int x2]) (rest := []) hC hI (cJ7_rangeCheck_23922_w4_met st l D ad cy σ 19 x1 x2 _ g3) (zgS zw5_18 zw5_19 zw5_13 zw5_20) rfl ⟨rfl, rfl⟩ 3 hdJ7_rangeCheck_23922_w4 ⟨Nat.le_of_ble_eq_true rfl, Nat.le_of_ble_eq_true rfl⟩ rfl hl rfl (Nat.le_of_ble_eq_true rfl) dJ7_fill_fda19_4 ⟨Nat.zero_le _, Nat.zero_le _⟩ (fun H locs hI => ?_)
  refine lv_iload_n hx hb dJ7_fill_fda19_7 rfl (lv_at hl 1 rfl) ?_
  refine lv_istore (lv' := [(4, .int x1), (0, .ref (ad 30)), (1, .int x1), (2, .int x2), (3, .int x3)]) hx hb dJ7_fill_fda19_8 hl (by decide) rfl (fun ls hl => ?_)
  exact blJ7_fill_fda19_k30_w4_10 hC  zfuel _ _ _ _ _ _ _ hI (lv_sub hl [1, 3, 4, 0] rfl) hf
set_option maxRecDepth 20000 in
theorem cJ7_fill_fda19_k30_w4_met (st : Nat → Nat) (l : Launch) (D : va_G) (ad : Nat → Nat) (cy : Nat → ClassId) (σ : zSt) (x1 : Int32) (x2 : Int32) (x3 : Int32) (res : zSt) (hf : fJ7_fill_fda19_k30 σ x1 x2 x3 = some res) (sz : Nat) : zMu st l yJ7_fill_fda19 wzJ7_fill_fda19 rmJ7_fill_fda19_k30_w4 [.ref (ad 30), .int x1, .int x2, .int x3] D (tN4 cy) (wN4 ad cy) sz σ res :=
  zMu.of (cc := cJ7_fill_fda19) (maxL := 5) (ret := none) (by decide) rfl (Nat.le_of_ble_eq_true rfl) (fun p e s m args below meth c hC A hI ls hl => bJ7_fill_fda19_k30_w4 hC hI hl hf)
theorem hdJ7_fill_fda19_k30_w4 : yJ7_fill_fda19.cls ≠ "java/lang/invoke/MethodHandle" ∧ yJ7_fill_fda19.cls ≠ "java/lang/invoke/VarHandle" ∧ (parseMethodDescriptor yJ7_fill_fda19.desc).map (fun d => d.parameters.length) = some 4 := by decide +kernel
noncomputable def rmX7_clear_w4 : Room := { frames := 2, cells := 0, slots := 0, locals := 46 }
theorem hinX7_clear_w4_X70 : ∀ w ∈ wsX70, w ∈ wzX7_clear := fun w h => List.mem_cons_of_mem _ (inlX7 w h)
set_option maxRecDepth 20000 in
set_option maxHeartbeats 4000000 in
theorem bX7_clear_w4 {st : Nat → Nat} {p : Program} {l : Launch} {e : Env} {s : State} {m : MethodId} {args : Array Value} {below : List Frame} {meth : Method} {c : Code} {D : va_G} {A : Nat → Prop} {ad : Nat → Nat} {cy : Nat → ClassId} (hC : zC p m c cX7_clear 1 s args wzX7_clear RX7 meth none)  {res : zSt} {H : Heap} {locs : List Loc} {σ : zSt} {ls : Array Slot}  (hI : zI st D (tN4 cy) (wN4 ad cy σ) A s H locs) (hl : lv_has ls 1 [(0, .ref (ad 4))]) (hf : fX7_clear  σ  = some res) : W p l e rmX7_clear_w4 s m args below meth c H locs 0 0 (zQu below args s D (tN4 cy) (wN4 ad cy) A res) (F0 m 0 ls []) := by
  have hx := hC.1
  have hb := hC.2.1
  unfold fX7_clear at hf
  refine lv_aload_n hx hb dX7_clear_0 rfl (lv_at hl 0 rfl) ?_
  refine z_get hC hI hinX7_clear_w4_X70 0 (wN4_e4 ad cy σ) rfl 0 (by decide) (List.mem_cons_of_mem _ zw5_4) rfl dX7_clear_1 ?_
  refine lv_iconst (v := 0) hx hb dX7_clear_4 (by decide) ?_
  obtain ⟨σ1, g1, hf⟩ := zbu_use hf
  refine z_callSu (As := [.ref (ad 30), .int 0]) (rest := []) hC hI (cJ7_fill_53178_k30_w4_met st l D ad cy σ 0 _ g1) (zgS zw5_11 zw5_12 zw5_13 zw5_14) rfl ⟨rfl, rfl⟩ 2 hdJ7_fill_53178_k30_w4 ⟨Nat.le_of_ble_eq_true rfl, Nat.le_of_ble_eq_true rfl⟩ rfl hl rfl (Nat.le_of_ble_eq_true rfl) dX7_clear_5 ⟨Nat.zero_le _, Nat.zero_le _⟩ (fun H locs hI => ?_)
  refine lv_aload_n hx hb dX7_clear_8 rfl (lv_at hl 0 rfl) ?_
  refine z_get hC hI hinX7_clear_w4_X70 0 (wN4_e4 ad cy σ1) rfl 0 (by decide) (List.mem_cons_of_mem _ zw5_4) rfl dX7_clear_9 ?_
  refine lv_bipush (v := 9) hx hb dX7_clear_12 (by decide) ?_
  refine lv_bipush (v := 13) hx hb dX7_clear_14 (by decide) ?_
  refine lv_bipush (v := 15) hx hb dX7_clear_16 (by decide) ?_
  obtain ⟨σ2, g2, hf⟩ := zbu_use hf
  refine z_callSu (As := [.ref (ad 30), .int 9, .int 13, .int 15]) (rest := []) hC hI (cJ7_fill_fda19_k30_w4_met st l D ad cy σ1 9 13 15 _ g2) (zgS zw5_15 zw5_16 zw5_13 zw5_17) rfl ⟨rfl, rfl⟩ 4 hdJ7_fill_fda19_k30_w4 ⟨Nat.le_of_ble_eq_true rfl, Nat.le_of_ble_eq_true rfl⟩ rfl hl rfl (Nat.le_of_ble_eq_true rfl) dX7_clear_18 ⟨Nat.zero_le _, Nat.zero_le _⟩ (fun H locs hI => ?_)
  refine lv_aload_n hx hb dX7_clear_21 rfl (lv_at hl 0 rfl) ?_
  refine z_get hC hI hinX7_clear_w4_X70 0 (wN4_e4 ad cy σ2) rfl 0 (by decide) (List.mem_cons_of_mem _ zw5_4) rfl dX7_clear_22 ?_
  refine lv_bipush (v := 16) hx hb dX7_clear_25 (by decide) ?_
  refine lv_ldc (v := 32768) hx hb hC.2.2.2.1 (hC.2.2.2.2.1 _ (List.mem_cons_of_mem _ zw5_10)) dX7_clear_27 ?_
  obtain ⟨q, hf⟩ := zck_use hf
  obtain ⟨σ3, eσ3⟩ : ∃ z, z = zsi σ2 30 ((16 : Int32).toNatClampNeg) 32768 := ⟨_, rfl⟩
  replace hf := zbv_use eσ3 hf
  refine z_iast hC hI 1 0 (wN4_e30 ad cy σ2) (tN4_t30 cy) q ((wN4_s30 ad cy σ2 _ _).trans (congrArg (wN4 ad cy) eσ3.symm)) dX7_clear_29 (fun H locs hI => ?_)
  refine lv_aload_n hx hb dX7_clear_30 rfl (lv_at hl 0 rfl) ?_
  refine z_get hC hI hinX7_clear_w4_X70 0 (wN4_e4 ad cy σ3) rfl 0 (by decide) (List.mem_cons_of_mem _ zw5_4) rfl dX7_clear_31 ?_
  refine lv_bipush (v := 18) hx hb dX7_clear_34 (by decide) ?_
  refine lv_sipush (v := 255) hx hb dX7_clear_36 (by decide) ?_
  obtain ⟨q, hf⟩ := zck_use hf
  obtain ⟨σ4, eσ4⟩ : ∃ z, z = zsi σ3 30 ((18 : Int32).toNatClampNeg) 255 := ⟨_, rfl⟩
  replace hf := zbv_use eσ4 hf
  refine z_iast hC hI 1 0 (wN4_e30 ad cy σ3) (tN4_t30 cy) q ((wN4_s30 ad cy σ3 _ _).trans (congrArg (wN4 ad cy) eσ4.symm)) dX7_clear_39 (fun H locs hI => ?_)
  exact z_return hC hI hf dX7_clear_40
set_option maxRecDepth 20000 in
theorem cX7_clear_w4_met (st : Nat → Nat) (l : Launch) (D : va_G) (ad : Nat → Nat) (cy : Nat → ClassId) (σ : zSt)  (res : zSt) (hf : fX7_clear σ  = some res) (sz : Nat) : zMu st l yX7_clear wzX7_clear rmX7_clear_w4 [.ref (ad 4)] D (tN4 cy) (wN4 ad cy) sz σ res :=
  zMu.of (cc := cX7_clear) (maxL := 1) (ret := none) (by decide) rfl (Nat.le_of_ble_eq_true rfl) (fun p e s m args below meth c hC A hI ls hl => bX7_clear_w4 hC hI hl hf)
theorem hdX7_clear_w4 : yX7_clear.cls = RX7 ∧ yX7_clear.cls ≠ "java/lang/invoke/MethodHandle" ∧ yX7_clear.cls ≠ "java/lang/invoke/VarHandle" ∧ (parseMethodDescriptor yX7_clear.desc).map (fun d => d.parameters.length) = some 0 := by decide +kernel
noncomputable def rmJ7_fill_53178_k32_w5 : Room := { frames := 0, cells := 0, slots := 0, locals := 0 }
set_option maxRecDepth 20000 in
set_option maxHeartbeats 4000000 in
theorem bJ7_fill_53178_k32_w5_5_body {st : Nat → Nat} {p : Program} {l : Launch} {e : Env} {s : State} {m : MethodId} {args : Array Value} {below : List Frame} {meth : Method} {c : Code} {D : va_G} {A : Nat → Prop} {ad : Nat → Nat} {cy : Nat → ClassId} (hC : zC p m c cJ7_fill_53178 4 s args wzJ7_fill_53178 RJ7 meth none) {k5 : zSt → Int32 → Int32 → Int32 → Option (zSt)} {res : zSt} (hk5 : ∀ (H : Heap) (locs : List Loc) (σ : zSt) (ls : Array Slot) (x1 : Int32) (x2 : Int32) (x3 : Int32), zI st D (tN5 cy) (wN5 ad cy σ) A s H locs → lv_has ls 4 [(0, .ref (ad 32)), (1, .int x1), (2, .int x2), (3, .int x3)] → k5 σ x1 x2 x3 = some res → W p l e rmJ7_fill_53178_k32_w5 s m args below meth c H locs 0 0 (zQu below args s D (tN5 cy) (wN5 ad cy) A res) (F0 m 5 ls [])) {H : Heap} {locs : List Loc} {σ : zSt} {ls : Array Slot} {x1 : Int32} {x2 : Int32} {x3 : Int32} (hI : zI st D (tN5 cy) (wN5 ad cy σ) A s H locs) (hl : lv_has ls 4 [(0, .ref (ad 32)), (1, .int x1), (2, .int x2), (3, .int x3)]) (hf : fJ7_fill_53178_k32_5_body k5 σ x1 x2 x3 = some res) : W p l e rmJ7_fill_53178_k32_w5 s m args below meth c H locs 0 0 (zQu below args s D (tN5 cy) (wN5 ad cy) A res) (F0 m 5 ls []) := by
  have hx := hC.1
  have hb := hC.2.1
  unfold fJ7_fill_53178_k32_5_body at hf
  refine lv_iload_n hx hb dJ7_fill_53178_5 rfl (lv_at hl 2 rfl) ?_
  refine lv_iload_n hx hb dJ7_fill_53178_6 rfl (lv_at hl 3 rfl) ?_
  refine lv_icmp_ge (tgt := 20) hx hb dJ7_fill_53178_7 (by decide) (fun q => ?_) (fun q => ?_)
  · replace hf := zif_t q hf
    exact z_return hC hI hf dJ7_fill_53178_20
  replace hf := zif_f q hf
  refine lv_aload_n hx hb dJ7_fill_53178_10 rfl (lv_at hl 0 rfl) ?_
  refine lv_iload_n hx hb dJ7_fill_53178_11 rfl (lv_at hl 2 rfl) ?_
  refine lv_iload_n hx hb dJ7_fill_53178_12 rfl (lv_at hl 1 rfl) ?_
  obtain ⟨q, hf⟩ := zck_use hf
  obtain ⟨σ1, eσ1⟩ : ∃ z, z = zsi σ 32 (x2.toNatClampNeg) x1 := ⟨_, rfl⟩
  replace hf := zbv_use eσ1 hf
  refine z_iast hC hI 1 0 (wN5_e32 ad cy σ) (tN5_t32 cy) q ((wN5_s32 ad cy σ _ _).trans (congrArg (wN5 ad cy) eσ1.symm)) dJ7_fill_53178_13 (fun H locs hI => ?_)
  obtain ⟨v2, ev2⟩ : ∃ z : Int32, z = x2 + 1 := ⟨_, rfl⟩
  replace hf := zbv_use ev2 hf
  refine lv_iinc (v := v2) (lv' := [(2, .int v2), (0, .ref (ad 32)), (1, .int x1), (3, .int x3)]) hx hb dJ7_fill_53178_14 hl (k := 2) rfl (by rw [ev2]; rfl) (by decide) rfl (fun ls hl => ?_)
  refine lv_goto (tgt := 5) hx hb dJ7_fill_53178_17 (by decide) ?_
  exact hk5 _ _ _ _ _ _ _ hI (lv_sub hl [1, 2, 0, 3] rfl) hf
theorem blJ7_fill_53178_k32_w5_5 {st : Nat → Nat} {p : Program} {l : Launch} {e : Env} {s : State} {m : MethodId} {args : Array Value} {below : List Frame} {meth : Method} {c : Code} {D : va_G} {A : Nat → Prop} {ad : Nat → Nat} {cy : Nat → ClassId} (hC : zC p m c cJ7_fill_53178 4 s args wzJ7_fill_53178 RJ7 meth none)  {res : zSt} : ∀ (n : Nat) (H : Heap) (locs : List Loc) (σ : zSt) (ls : Array Slot) (x1 : Int32) (x2 : Int32) (x3 : Int32), zI st D (tN5 cy) (wN5 ad cy σ) A s H locs → lv_has ls 4 [(0, .ref (ad 32)), (1, .int x1), (2, .int x2), (3, .int x3)] → fJ7_fill_53178_k32_5  n σ x1 x2 x3 = some res → W p l e rmJ7_fill_53178_k32_w5 s m args below meth c H locs 0 0 (zQu below args s D (tN5 cy) (wN5 ad cy) A res) (F0 m 5 ls []) := by
  intro n
  induction n with
  | zero => intro H locs σ ls x1 x2 x3 hI hl hf; cases hf
  | succ n ih => intro H locs σ ls x1 x2 x3 hI hl hf; exact bJ7_fill_53178_k32_w5_5_body hC ih hI hl hf
set_option maxRecDepth 20000 in
set_option maxHeartbeats 4000000 in
theorem bJ7_fill_53178_k32_w5 {st : Nat → Nat} {p : Program} {l : Launch} {e : Env} {s : State} {m : MethodId} {args : Array Value} {below : List Frame} {meth : Method} {c : Code} {D : va_G} {A : Nat → Prop} {ad : Nat → Nat} {cy : Nat → ClassId} (hC : zC p m c cJ7_fill_53178 4 s args wzJ7_fill_53178 RJ7 meth none)  {res : zSt} {H : Heap} {locs : List Loc} {σ : zSt} {ls : Array Slot} {x1 : Int32} (hI : zI st D (tN5 cy) (wN5 ad cy σ) A s H locs) (hl : lv_has ls 4 [(0, .ref (ad 32)), (1, .int x1)]) (hf : fJ7_fill_53178_k32  σ x1 = some res) : W p l e rmJ7_fill_53178_k32_w5 s m args below meth c H locs 0 0 (zQu below args s D (tN5 cy) (wN5 ad cy) A res) (F0 m 0 ls []) := by
  have hx := hC.1
  have hb := hC.2.1
  unfold fJ7_fill_53178_k32 at hf
  refine lv_iconst (v := 0) hx hb dJ7_fill_53178_0 (by decide) ?_
  refine lv_istore_n (lv' := [(2, .int 0), (0, .ref (ad 32)), (1, .int x1)]) hx hb dJ7_fill_53178_1 rfl hl (by decide) rfl (fun ls hl => ?_)
  refine lv_aload_n hx hb dJ7_fill_53178_2 rfl (lv_at hl 1 rfl) ?_
  refine z_alen (v := 272) hC hI 1 0 (wN5_e32 ad cy σ) (tN5_t32 cy) rfl dJ7_fill_53178_3 ?_
  refine lv_istore_n (lv' := [(3, .int 272), (2, .int 0), (0, .ref (ad 32)), (1, .int x1)]) hx hb dJ7_fill_53178_4 rfl hl (by decide) rfl (fun ls hl => ?_)
  exact blJ7_fill_53178_k32_w5_5 hC  zfuel _ _ _ _ _ _ _ hI (lv_sub hl [2, 3, 1, 0] rfl) hf
set_option maxRecDepth 20000 in
theorem cJ7_fill_53178_k32_w5_met (st : Nat → Nat) (l : Launch) (D : va_G) (ad : Nat → Nat) (cy : Nat → ClassId) (σ : zSt) (x1 : Int32) (res : zSt) (hf : fJ7_fill_53178_k32 σ x1 = some res) (sz : Nat) : zMu st l yJ7_fill_53178 wzJ7_fill_53178 rmJ7_fill_53178_k32_w5 [.ref (ad 32), .int x1] D (tN5 cy) (wN5 ad cy) sz σ res :=
  zMu.of (cc := cJ7_fill_53178) (maxL := 4) (ret := none) (by decide) rfl (Nat.le_of_ble_eq_true rfl) (fun p e s m args below meth c hC A hI ls hl => bJ7_fill_53178_k32_w5 hC hI hl hf)
theorem hdJ7_fill_53178_k32_w5 : yJ7_fill_53178.cls ≠ "java/lang/invoke/MethodHandle" ∧ yJ7_fill_53178.cls ≠ "java/lang/invoke/VarHandle" ∧ (parseMethodDescriptor yJ7_fill_53178.desc).map (fun d => d.parameters.length) = some 2 := by decide +kernel
noncomputable def rmX10_clear_w5 : Room := { frames := 1, cells := 0, slots := 0, locals := 23 }
theorem hinX10_clear_w5_X100 : ∀ w ∈ wsX100, w ∈ wzX10_clear := fun w h => List.mem_cons_of_mem _ (inlX10 w h)
set_option maxRecDepth 20000 in
set_option maxHeartbeats 4000000 in
theorem bX10_clear_w5_36_body {st : Nat → Nat} {p : Program} {l : Launch} {e : Env} {s : State} {m : MethodId} {args : Array Value} {below : List Frame} {meth : Method} {c : Code} {D : va_G} {A : Nat → Prop} {ad : Nat → Nat} {cy : Nat → ClassId} (hC : zC p m c cX10_clear 3 s args wzX10_clear RX10 meth none) {k36 : zSt → Int32 → Option (zSt)} {res : zSt} (hk36 : ∀ (H : Heap) (locs : List Loc) (σ : zSt) (ls : Array Slot) (x2 : Int32), zI st D (tN5 cy) (wN5 ad cy σ) A s H locs → lv_has ls 3 [(0, .ref (ad 5)), (2, .int x2)] → k36 σ x2 = some res → W p l e rmX10_clear_w5 s m args below meth c H locs 0 0 (zQu below args s D (tN5 cy) (wN5 ad cy) A res) (F0 m 36 ls [])) {H : Heap} {locs : List Loc} {σ : zSt} {ls : Array Slot} {x2 : Int32} (hI : zI st D (tN5 cy) (wN5 ad cy σ) A s H locs) (hl : lv_has ls 3 [(0, .ref (ad 5)), (2, .int x2)]) (hf : fX10_clear_36_body k36 σ x2 = some res) : W p l e rmX10_clear_w5 s m args below meth c H locs 0 0 (zQu below args s D (tN5 cy) (wN5 ad cy) A res) (F0 m 36 ls []) := by
  have hx := hC.1
  have hb := hC.2.1
  unfold fX10_clear_36_body at hf
  refine lv_iload_n hx hb dX10_clear_36 rfl (lv_at hl 1 rfl) ?_
  refine lv_sipush (v := 272) hx hb dX10_clear_37 (by decide) ?_
  refine lv_icmp_ge (tgt := 68) hx hb dX10_clear_40 (by decide) (fun q => ?_) (fun q => ?_)
  · replace hf := zif_t q hf
    exact z_return hC hI hf dX10_clear_68
  replace hf := zif_f q hf
  refine lv_aload_n hx hb dX10_clear_43 rfl (lv_at hl 0 rfl) ?_
  refine z_get hC hI hinX10_clear_w5_X100 0 (wN5_e5 ad cy σ) rfl 0 (by decide) (List.mem_cons_of_mem _ zw6_4) rfl dX10_clear_44 ?_
  refine lv_iload_n hx hb dX10_clear_47 rfl (lv_at hl 1 rfl) ?_
  refine lv_iconst (v := 0) hx hb dX10_clear_48 (by decide) ?_
  refine lv_iadd hx hb dX10_clear_49 ?_
  refine lv_bipush (v := 127) hx hb dX10_clear_50 (by decide) ?_
  obtain ⟨q, hf⟩ := zck_use hf
  obtain ⟨σ1, eσ1⟩ : ∃ z, z = zsi σ 32 ((x2 + 0).toNatClampNeg) 127 := ⟨_, rfl⟩
  replace hf := zbv_use eσ1 hf
  refine z_iast hC hI 1 0 (wN5_e32 ad cy σ) (tN5_t32 cy) q ((wN5_s32 ad cy σ _ _).trans (congrArg (wN5 ad cy) eσ1.symm)) dX10_clear_52 (fun H locs hI => ?_)
  refine lv_aload_n hx hb dX10_clear_53 rfl (lv_at hl 0 rfl) ?_
  refine z_get hC hI hinX10_clear_w5_X100 0 (wN5_e5 ad cy σ1) rfl 0 (by decide) (List.mem_cons_of_mem _ zw6_4) rfl dX10_clear_54 ?_
  refine lv_iload_n hx hb dX10_clear_57 rfl (lv_at hl 1 rfl) ?_
  refine lv_iconst (v := 1) hx hb dX10_clear_58 (by decide) ?_
  refine lv_iadd hx hb dX10_clear_59 ?_
  refine lv_iconst (v := 4) hx hb dX10_clear_60 (by decide) ?_
  obtain ⟨q, hf⟩ := zck_use hf
  obtain ⟨σ2, eσ2⟩ : ∃ z, z = zsi σ1 32 ((x2 + 1).toNatClampNeg) 4 := ⟨_, rfl⟩
  replace hf := zbv_use eσ2 hf
  refine z_iast hC hI 1 0 (wN5_e32 ad cy σ1) (tN5_t32 cy) q ((wN5_s32 ad cy σ1 _ _).trans (congrArg (wN5 ad cy) eσ2.symm)) dX10_clear_61 (fun H locs hI => ?_)
  obtain ⟨v3, ev3⟩ : ∃ z : Int32, z = x2 + 8 := ⟨_, rfl⟩
  replace hf := zbv_use ev3 hf
  refine lv_iinc (v := v3) (lv' := [(2, .int v3), (0, .ref (ad 5))]) hx hb dX10_clear_62 hl (k := 1) rfl (by rw [ev3]; rfl) (by decide) rfl (fun ls hl => ?_)
  refine lv_goto (tgt := 36) hx hb dX10_clear_65 (by decide) ?_
  exact hk36 _ _ _ _ _ hI (lv_sub hl [1, 0] rfl) hf
theorem blX10_clear_w5_36 {st : Nat → Nat} {p : Program} {l : Launch} {e : Env} {s : State} {m : MethodId} {args : Array Value} {below : List Frame} {meth : Method} {c : Code} {D : va_G} {A : Nat → Prop} {ad : Nat → Nat} {cy : Nat → ClassId} (hC : zC p m c cX10_clear 3 s args wzX10_clear RX10 meth none)  {res : zSt} : ∀ (n : Nat) (H : Heap) (locs : List Loc) (σ : zSt) (ls : Array Slot) (x2 : Int32), zI st D (tN5 cy) (wN5 ad cy σ) A s H locs → lv_has ls 3 [(0, .ref (ad 5)), (2, .int x2)] → fX10_clear_36  n σ x2 = some res → W p l e rmX10_clear_w5 s m args below meth c H locs 0 0 (zQu below args s D (tN5 cy) (wN5 ad cy) A res) (F0 m 36 ls []) := by
  intro n
  induction n with
  | zero => intro H locs σ ls x2 hI hl hf; cases hf
  | succ n ih => intro H locs σ ls x2 hI hl hf; exact bX10_clear_w5_36_body hC ih hI hl hf
set_option maxRecDepth 20000 in
set_option maxHeartbeats 4000000 in
theorem bX10_clear_w5 {st : Nat → Nat} {p : Program} {l : Launch} {e : Env} {s : State} {m : MethodId} {args : Array Value} {below : List Frame} {meth : Method} {c : Code} {D : va_G} {A : Nat → Prop} {ad : Nat → Nat} {cy : Nat → ClassId} (hC : zC p m c cX10_clear 3 s args wzX10_clear RX10 meth none)  {res : zSt} {H : Heap} {locs : List Loc} {σ : zSt} {ls : Array Slot}  (hI : zI st D (tN5 cy) (wN5 ad cy σ) A s H locs) (hl : lv_has ls 3 [(0, .ref (ad 5))]) (hf : fX10_clear  σ  = some res) : W p l e rmX10_clear_w5 s m args below meth c H locs 0 0 (zQu below args s D (tN5 cy) (wN5 ad cy) A res) (F0 m 0 ls []) := by
  have hx := hC.1
  have hb := hC.2.1
  unfold fX10_clear at hf
  refine lv_aload_n hx hb dX10_clear_0 rfl (lv_at hl 0 rfl) ?_
  refine z_get hC hI hinX10_clear_w5_X100 0 (wN5_e5 ad cy σ) rfl 0 (by decide) (List.mem_cons_of_mem _ zw6_4) rfl dX10_clear_1 ?_
  refine lv_bipush (v := 66) hx hb dX10_clear_4 (by decide) ?_
  obtain ⟨q, hf⟩ := zck_use hf
  refine z_iald hC hI 1 0 (wN5_e32 ad cy σ) (tN5_t32 cy) q dX10_clear_6 ?_
  refine lv_topi (fun v4 ev4 => ?_)
  replace hf := zbv_use ev4 hf
  refine lv_istore_n (lv' := [(1, .int v4), (0, .ref (ad 5))]) hx hb dX10_clear_7 rfl hl (by decide) rfl (fun ls hl => ?_)
  refine lv_aload_n hx hb dX10_clear_8 rfl (lv_at hl 1 rfl) ?_
  refine z_get hC hI hinX10_clear_w5_X100 0 (wN5_e5 ad cy σ) rfl 0 (by decide) (List.mem_cons_of_mem _ zw6_4) rfl dX10_clear_9 ?_
  refine lv_iconst (v := 0) hx hb dX10_clear_12 (by decide) ?_
  obtain ⟨σ5, g5, hf⟩ := zbu_use hf
  refine z_callSu (As := [.ref (ad 32), .int 0]) (rest := []) hC hI (cJ7_fill_53178_k32_w5_met st l D ad cy σ 0 _ g5) (zgS zw6_10 zw5_12 zw5_13 zw5_14) rfl ⟨rfl, rfl⟩ 2 hdJ7_fill_53178_k32_w5 ⟨Nat.le_of_ble_eq_true rfl, Nat.le_of_ble_eq_true rfl⟩ rfl hl rfl (Nat.le_of_ble_eq_true rfl) dX10_clear_13 ⟨Nat.zero_le _, Nat.zero_le _⟩ (fun H locs hI => ?_)
  refine lv_aload_n hx hb dX10_clear_16 rfl (lv_at hl 1 rfl) ?_
  refine z_get hC hI hinX10_clear_w5_X100 0 (wN5_e5 ad cy σ5) rfl 0 (by decide) (List.mem_cons_of_mem _ zw6_4) rfl dX10_clear_17 ?_
  refine lv_bipush (v := 66) hx hb dX10_clear_20 (by decide) ?_
  refine lv_iload_n hx hb dX10_clear_22 rfl (lv_at hl 0 rfl) ?_
  obtain ⟨q, hf⟩ := zck_use hf
  obtain ⟨σ6, eσ6⟩ : ∃ z, z = zsi σ5 32 ((66 : Int32).toNatClampNeg) v4 := ⟨_, rfl⟩
  replace hf := zbv_use eσ6 hf
  refine z_iast hC hI 1 0 (wN5_e32 ad cy σ5) (tN5_t32 cy) q ((wN5_s32 ad cy σ5 _ _).trans (congrArg (wN5 ad cy) eσ6.symm)) dX10_clear_23 (fun H locs hI => ?_)
  refine lv_aload_n hx hb dX10_clear_24 rfl (lv_at hl 1 rfl) ?_
  refine z_get hC hI hinX10_clear_w5_X100 0 (wN5_e5 ad cy σ6) rfl 0 (by decide) (List.mem_cons_of_mem _ zw6_4) rfl dX10_clear_25 ?_
  refine lv_bipush (v := 65) hx hb dX10_clear_28 (by decide) ?_
  refine lv_iconst (v := 1) hx hb dX10_clear_30 (by decide) ?_
  obtain ⟨q, hf⟩ := zck_use hf
  obtain ⟨σ7, eσ7⟩ : ∃ z, z = zsi σ6 32 ((65 : Int32).toNatClampNeg) 1 := ⟨_, rfl⟩
  replace hf := zbv_use eσ7 hf
  refine z_iast hC hI 1 0 (wN5_e32 ad cy σ6) (tN5_t32 cy) q ((wN5_s32 ad cy σ6 _ _).trans (congrArg (wN5 ad cy) eσ7.symm)) dX10_clear_31 (fun H locs hI => ?_)
  refine lv_sipush (v := 128) hx hb dX10_clear_32 (by decide) ?_
  refine lv_istore_n (lv' := [(2, .int 128), (1, .int v4), (0, .ref (ad 5))]) hx hb dX10_clear_35 rfl hl (by decide) rfl (fun ls hl => ?_)
  exact blX10_clear_w5_36 hC  zfuel _ _ _ _ _ hI (lv_sub hl [2, 0] rfl) hf
set_option maxRecDepth 20000 in
theorem cX10_clear_w5_met (st : Nat → Nat) (l : Launch) (D : va_G) (ad : Nat → Nat) (cy : Nat → ClassId) (σ : zSt)  (res : zSt) (hf : fX10_clear σ  = some res) (sz : Nat) : zMu st l yX10_clear wzX10_clear rmX10_clear_w5 [.ref (ad 5)] D (tN5 cy) (wN5 ad cy) sz σ res :=
  zMu.of (cc := cX10_clear) (maxL := 3) (ret := none) (by decide) rfl (Nat.le_of_ble_eq_true rfl) (fun p e s m args below meth c hC A hI ls hl => bX10_clear_w5 hC hI hl hf)
theorem hdX10_clear_w5 : yX10_clear.cls = RX10 ∧ yX10_clear.cls ≠ "java/lang/invoke/MethodHandle" ∧ yX10_clear.cls ≠ "java/lang/invoke/VarHandle" ∧ (parseMethodDescriptor yX10_clear.desc).map (fun d => d.parameters.length) = some 0 := by decide +kernel
noncomputable def rmX4_clear_w6 : Room := { frames := 0, cells := 0, slots := 0, locals := 0 }
theorem hinX4_clear_w6_X40 : ∀ w ∈ wsX40, w ∈ wzX4_clear := fun w h => List.mem_cons_of_mem _ (inlX4 w h)
set_option maxRecDepth 20000 in
set_option maxHeartbeats 4000000 in
theorem bX4_clear_w6 {st : Nat → Nat} {p : Program} {l : Launch} {e : Env} {s : State} {m : MethodId} {args : Array Value} {below : List Frame} {meth : Method} {c : Code} {D : va_G} {A : Nat → Prop} {ad : Nat → Nat} {cy : Nat → ClassId} (hC : zC p m c cX4_clear 1 s args wzX4_clear RX4 meth none)  {res : zSt} {H : Heap} {locs : List Loc} {σ : zSt} {ls : Array Slot}  (hI : zI st D (tN6 cy) (wN6 ad cy σ) A s H locs) (hl : lv_has ls 1 [(0, .ref (ad 6))]) (hf : fX4_clear  σ  = some res) : W p l e rmX4_clear_w6 s m args below meth c H locs 0 0 (zQu below args s D (tN6 cy) (wN6 ad cy) A res) (F0 m 0 ls []) := by
  have hx := hC.1
  have hb := hC.2.1
  unfold fX4_clear at hf
  refine lv_aload_n hx hb dX4_clear_0 rfl (lv_at hl 0 rfl) ?_
  refine z_get hC hI hinX4_clear_w6_X40 0 (wN6_e6 ad cy σ) rfl 4 (by decide) (List.mem_cons_of_mem _ zw6_15) rfl dX4_clear_1 ?_
  refine lv_iconst (v := 0) hx hb dX4_clear_4 (by decide) ?_
  refine lv_sipush (v := 255) hx hb dX4_clear_5 (by decide) ?_
  obtain ⟨q, hf⟩ := zck_use hf
  obtain ⟨σ1, eσ1⟩ : ∃ z, z = zsi σ 34 ((0 : Int32).toNatClampNeg) 255 := ⟨_, rfl⟩
  replace hf := zbv_use eσ1 hf
  refine z_iast hC hI 1 0 (wN6_e34 ad cy σ) (tN6_t34 cy) q ((wN6_s34 ad cy σ _ _).trans (congrArg (wN6 ad cy) eσ1.symm)) dX4_clear_8 (fun H locs hI => ?_)
  refine lv_aload_n hx hb dX4_clear_9 rfl (lv_at hl 0 rfl) ?_
  refine z_get hC hI hinX4_clear_w6_X40 0 (wN6_e6 ad cy σ1) rfl 4 (by decide) (List.mem_cons_of_mem _ zw6_15) rfl dX4_clear_10 ?_
  refine lv_iconst (v := 1) hx hb dX4_clear_13 (by decide) ?_
  refine lv_bipush (v := 127) hx hb dX4_clear_14 (by decide) ?_
  obtain ⟨q, hf⟩ := zck_use hf
  obtain ⟨σ2, eσ2⟩ : ∃ z, z = zsi σ1 34 ((1 : Int32).toNatClampNeg) 127 := ⟨_, rfl⟩
  replace hf := zbv_use eσ2 hf
  refine z_iast hC hI 1 0 (wN6_e34 ad cy σ1) (tN6_t34 cy) q ((wN6_s34 ad cy σ1 _ _).trans (congrArg (wN6 ad cy) eσ2.symm)) dX4_clear_16 (fun H locs hI => ?_)
  refine lv_aload_n hx hb dX4_clear_17 rfl (lv_at hl 0 rfl) ?_
  refine z_get hC hI hinX4_clear_w6_X40 0 (wN6_e6 ad cy σ2) rfl 4 (by decide) (List.mem_cons_of_mem _ zw6_15) rfl dX4_clear_18 ?_
  refine lv_iconst (v := 2) hx hb dX4_clear_21 (by decide) ?_
  refine lv_sipush (v := 255) hx hb dX4_clear_22 (by decide) ?_
  obtain ⟨q, hf⟩ := zck_use hf
  obtain ⟨σ3, eσ3⟩ : ∃ z, z = zsi σ2 34 ((2 : Int32).toNatClampNeg) 255 := ⟨_, rfl⟩
  replace hf := zbv_use eσ3 hf
  refine z_iast hC hI 1 0 (wN6_e34 ad cy σ2) (tN6_t34 cy) q ((wN6_s34 ad cy σ2 _ _).trans (congrArg (wN6 ad cy) eσ3.symm)) dX4_clear_25 (fun H locs hI => ?_)
  refine lv_aload_n hx hb dX4_clear_26 rfl (lv_at hl 0 rfl) ?_
  refine z_get hC hI hinX4_clear_w6_X40 0 (wN6_e6 ad cy σ3) rfl 4 (by decide) (List.mem_cons_of_mem _ zw6_15) rfl dX4_clear_27 ?_
  refine lv_iconst (v := 3) hx hb dX4_clear_30 (by decide) ?_
  refine lv_iconst (v := 0) hx hb dX4_clear_31 (by decide) ?_
  obtain ⟨q, hf⟩ := zck_use hf
  obtain ⟨σ4, eσ4⟩ : ∃ z, z = zsi σ3 34 ((3 : Int32).toNatClampNeg) 0 := ⟨_, rfl⟩
  replace hf := zbv_use eσ4 hf
  refine z_iast hC hI 1 0 (wN6_e34 ad cy σ3) (tN6_t34 cy) q ((wN6_s34 ad cy σ3 _ _).trans (congrArg (wN6 ad cy) eσ4.symm)) dX4_clear_32 (fun H locs hI => ?_)
  refine lv_aload_n hx hb dX4_clear_33 rfl (lv_at hl 0 rfl) ?_
  refine z_get hC hI hinX4_clear_w6_X40 0 (wN6_e6 ad cy σ4) rfl 4 (by decide) (List.mem_cons_of_mem _ zw6_15) rfl dX4_clear_34 ?_
  refine lv_iconst (v := 4) hx hb dX4_clear_37 (by decide) ?_
  refine lv_sipush (v := 255) hx hb dX4_clear_38 (by decide) ?_
  obtain ⟨q, hf⟩ := zck_use hf
  obtain ⟨σ5, eσ5⟩ : ∃ z, z = zsi σ4 34 ((4 : Int32).toNatClampNeg) 255 := ⟨_, rfl⟩
  replace hf := zbv_use eσ5 hf
  refine z_iast hC hI 1 0 (wN6_e34 ad cy σ4) (tN6_t34 cy) q ((wN6_s34 ad cy σ4 _ _).trans (congrArg (wN6 ad cy) eσ5.symm)) dX4_clear_41 (fun H locs hI => ?_)
  refine lv_aload_n hx hb dX4_clear_42 rfl (lv_at hl 0 rfl) ?_
  refine z_get hC hI hinX4_clear_w6_X40 0 (wN6_e6 ad cy σ5) rfl 4 (by decide) (List.mem_cons_of_mem _ zw6_15) rfl dX4_clear_43 ?_
  refine lv_iconst (v := 5) hx hb dX4_clear_46 (by decide) ?_
  refine lv_iconst (v := 0) hx hb dX4_clear_47 (by decide) ?_
  obtain ⟨q, hf⟩ := zck_use hf
  obtain ⟨σ6, eσ6⟩ : ∃ z, z = zsi σ5 34 ((5 : Int32).toNatClampNeg) 0 := ⟨_, rfl⟩
  replace hf := zbv_use eσ6 hf
  refine z_iast hC hI 1 0 (wN6_e34 ad cy σ5) (tN6_t34 cy) q ((wN6_s34 ad cy σ5 _ _).trans (congrArg (wN6 ad cy) eσ6.symm)) dX4_clear_48 (fun H locs hI => ?_)
  refine lv_aload_n hx hb dX4_clear_49 rfl (lv_at hl 0 rfl) ?_
  refine z_get hC hI hinX4_clear_w6_X40 0 (wN6_e6 ad cy σ6) rfl 4 (by decide) (List.mem_cons_of_mem _ zw6_15) rfl dX4_clear_50 ?_
  refine lv_bipush (v := 6) hx hb dX4_clear_53 (by decide) ?_
  refine lv_iconst (v := 0) hx hb dX4_clear_55 (by decide) ?_
  obtain ⟨q, hf⟩ := zck_use hf
  obtain ⟨σ7, eσ7⟩ : ∃ z, z = zsi σ6 34 ((6 : Int32).toNatClampNeg) 0 := ⟨_, rfl⟩
  replace hf := zbv_use eσ7 hf
  refine z_iast hC hI 1 0 (wN6_e34 ad cy σ6) (tN6_t34 cy) q ((wN6_s34 ad cy σ6 _ _).trans (congrArg (wN6 ad cy) eσ7.symm)) dX4_clear_56 (fun H locs hI => ?_)
  exact z_return hC hI hf dX4_clear_57
set_option maxRecDepth 20000 in
theorem cX4_clear_w6_met (st : Nat → Nat) (l : Launch) (D : va_G) (ad : Nat → Nat) (cy : Nat → ClassId) (σ : zSt)  (res : zSt) (hf : fX4_clear σ  = some res) (sz : Nat) : zMu st l yX4_clear wzX4_clear rmX4_clear_w6 [.ref (ad 6)] D (tN6 cy) (wN6 ad cy) sz σ res :=
  zMu.of (cc := cX4_clear) (maxL := 1) (ret := none) (by decide) rfl (Nat.le_of_ble_eq_true rfl) (fun p e s m args below meth c hC A hI ls hl => bX4_clear_w6 hC hI hl hf)
theorem hdX4_clear_w6 : yX4_clear.cls = RX4 ∧ yX4_clear.cls ≠ "java/lang/invoke/MethodHandle" ∧ yX4_clear.cls ≠ "java/lang/invoke/VarHandle" ∧ (parseMethodDescriptor yX4_clear.desc).map (fun d => d.parameters.length) = some 0 := by decide +kernel
noncomputable def rmJ7_fill_53178_k44_w9 : Room := { frames := 0, cells := 0, slots := 0, locals := 0 }
noncomputable def fJ7_fill_53178_k44_5_body (k5 : zSt → Int32 → Int32 → Int32 → Option (zSt)) (σ : zSt) (x1 : Int32) (x2 : Int32) (x3 : Int32) : Option (zSt) :=
  if x3 ≤ x2 then some σ else
  zck (zin x2 32) (zbv (zsi σ 44 (x2.toNatClampNeg) x1) (fun σ1 =>
  zbv (x2 + 1) (fun v2 =>
  k5 σ1 x1 v2 x3)))
noncomputable def fJ7_fill_53178_k44_5  : Nat → zSt → Int32 → Int32 → Int32 → Option (zSt)
  | 0, _, _, _, _ => none
  | n + 1, σ, x1, x2, x3 => fJ7_fill_53178_k44_5_body (fJ7_fill_53178_k44_5  n) σ x1 x2 x3
noncomputable def fJ7_fill_53178_k44  (σ : zSt) (x1 : Int32) : Option (zSt) :=
  fJ7_fill_53178_k44_5 zfuel σ x1 0 32
set_option maxRecDepth 20000 in
set_option maxHeartbeats 4000000 in
theorem bJ7_fill_53178_k44_w9_5_body {st : Nat → Nat} {p : Program} {l : Launch} {e : Env} {s : State} {m : MethodId} {args : Array Value} {below : List Frame} {meth : Method} {c : Code} {D : va_G} {A : Nat → Prop} {ad : Nat → Nat} {cy : Nat → ClassId} (hC : zC p m c cJ7_fill_53178 4 s args wzJ7_fill_53178 RJ7 meth none) {k5 : zSt → Int32 → Int32 → Int32 → Option (zSt)} {res : zSt} (hk5 : ∀ (H : Heap) (locs : List Loc) (σ : zSt) (ls : Array Slot) (x1 : Int32) (x2 : Int32) (x3 : Int32), zI st D (tN9 cy) (wN9 ad cy σ) A s H locs → lv_has ls 4 [(0, .ref (ad 44)), (1, .int x1), (2, .int x2), (3, .int x3)] → k5 σ x1 x2 x3 = some res → W p l e rmJ7_fill_53178_k44_w9 s m args below meth c H locs 0 0 (zQu below args s D (tN9 cy) (wN9 ad cy) A res) (F0 m 5 ls [])) {H : Heap} {locs : List Loc} {σ : zSt} {ls : Array Slot} {x1 : Int32} {x2 : Int32} {x3 : Int32} (hI : zI st D (tN9 cy) (wN9 ad cy σ) A s H locs) (hl : lv_has ls 4 [(0, .ref (ad 44)), (1, .int x1), (2, .int x2), (3, .int x3)]) (hf : fJ7_fill_53178_k44_5_body k5 σ x1 x2 x3 = some res) : W p l e rmJ7_fill_53178_k44_w9 s m args below meth c H locs 0 0 (zQu below args s D (tN9 cy) (wN9 ad cy) A res) (F0 m 5 ls []) := by
  have hx := hC.1
  have hb := hC.2.1
  unfold fJ7_fill_53178_k44_5_body at hf
  refine lv_iload_n hx hb dJ7_fill_53178_5 rfl (lv_at hl 2 rfl) ?_
  refine lv_iload_n hx hb dJ7_fill_53178_6 rfl (lv_at hl 3 rfl) ?_
  refine lv_icmp_ge (tgt := 20) hx hb dJ7_fill_53178_7 (by decide) (fun q => ?_) (fun q => ?_)
  · replace hf := zif_t q hf
    exact z_return hC hI hf dJ7_fill_53178_20
  replace hf := zif_f q hf
  refine lv_aload_n hx hb dJ7_fill_53178_10 rfl (lv_at hl 0 rfl) ?_
  refine lv_iload_n hx hb dJ7_fill_53178_11 rfl (lv_at hl 2 rfl) ?_
  refine lv_iload_n hx hb dJ7_fill_53178_12 rfl (lv_at hl 1 rfl) ?_
  obtain ⟨q, hf⟩ := zck_use hf
  obtain ⟨σ1, eσ1⟩ : ∃ z, z = zsi σ 44 (x2.toNatClampNeg) x1 := ⟨_, rfl⟩
  replace hf := zbv_use eσ1 hf
  refine z_iast hC hI 5 4 (wN9_e44 ad cy σ) (tN9_t44 cy) q ((wN9_s44 ad cy σ _ _).trans (congrArg (wN9 ad cy) eσ1.symm)) dJ7_fill_53178_13 (fun H locs hI => ?_)
  obtain ⟨v2, ev2⟩ : ∃ z : Int32, z = x2 + 1 := ⟨_, rfl⟩
  replace hf := zbv_use ev2 hf
  refine lv_iinc (v := v2) (lv' := [(2, .int v2), (0, .ref (ad 44)), (1, .int x1), (3, .int x3)]) hx hb dJ7_fill_53178_14 hl (k := 2) rfl (by rw [ev2]; rfl) (by decide) rfl (fun ls hl => ?_)
  refine lv_goto (tgt := 5) hx hb dJ7_fill_53178_17 (by decide) ?_
  exact hk5 _ _ _ _ _ _ _ hI (lv_sub hl [1, 2, 0, 3] rfl) hf
theorem blJ7_fill_53178_k44_w9_5 {st : Nat → Nat} {p : Program} {l : Launch} {e : Env} {s : State} {m : MethodId} {args : Array Value} {below : List Frame} {meth : Method} {c : Code} {D : va_G} {A : Nat → Prop} {ad : Nat → Nat} {cy : Nat → ClassId} (hC : zC p m c cJ7_fill_53178 4 s args wzJ7_fill_53178 RJ7 meth none)  {res : zSt} : ∀ (n : Nat) (H : Heap) (locs : List Loc) (σ : zSt) (ls : Array Slot) (x1 : Int32) (x2 : Int32) (x3 : Int32), zI st D (tN9 cy) (wN9 ad cy σ) A s H locs → lv_has ls 4 [(0, .ref (ad 44)), (1, .int x1), (2, .int x2), (3, .int x3)] → fJ7_fill_53178_k44_5  n σ x1 x2 x3 = some res → W p l e rmJ7_fill_53178_k44_w9 s m args below meth c H locs 0 0 (zQu below args s D (tN9 cy) (wN9 ad cy) A res) (F0 m 5 ls []) := by
  intro n
  induction n with
  | zero => intro H locs σ ls x1 x2 x3 hI hl hf; cases hf
  | succ n ih => intro H locs σ ls x1 x2 x3 hI hl hf; exact bJ7_fill_53178_k44_w9_5_body hC ih hI hl hf
set_option maxRecDepth 20000 in
set_option maxHeartbeats 4000000 in
theorem bJ7_fill_53178_k44_w9 {st : Nat → Nat} {p : Program} {l : Launch} {e : Env} {s : State} {m : MethodId} {args : Array Value} {below : List Frame} {meth : Method} {c : Code} {D : va_G} {A : Nat → Prop} {ad : Nat → Nat} {cy : Nat → ClassId} (hC : zC p m c cJ7_fill_53178 4 s args wzJ7_fill_53178 RJ7 meth none)  {res : zSt} {H : Heap} {locs : List Loc} {σ : zSt} {ls : Array Slot} {x1 : Int32} (hI : zI st D (tN9 cy) (wN9 ad cy σ) A s H locs) (hl : lv_has ls 4 [(0, .ref (ad 44)), (1, .int x1)]) (hf : fJ7_fill_53178_k44  σ x1 = some res) : W p l e rmJ7_fill_53178_k44_w9 s m args below meth c H locs 0 0 (zQu below args s D (tN9 cy) (wN9 ad cy) A res) (F0 m 0 ls []) := by
  have hx := hC.1
  have hb := hC.2.1
  unfold fJ7_fill_53178_k44 at hf
  refine lv_iconst (v := 0) hx hb dJ7_fill_53178_0 (by decide) ?_
  refine lv_istore_n (lv' := [(2, .int 0), (0, .ref (ad 44)), (1, .int x1)]) hx hb dJ7_fill_53178_1 rfl hl (by decide) rfl (fun ls hl => ?_)
  refine lv_aload_n hx hb dJ7_fill_53178_2 rfl (lv_at hl 1 rfl) ?_
  refine z_alen (v := 32) hC hI 5 4 (wN9_e44 ad cy σ) (tN9_t44 cy) rfl dJ7_fill_53178_3 ?_
  refine lv_istore_n (lv' := [(3, .int 32), (2, .int 0), (0, .ref (ad 44)), (1, .int x1)]) hx hb dJ7_fill_53178_4 rfl hl (by decide) rfl (fun ls hl => ?_)
  exact blJ7_fill_53178_k44_w9_5 hC  zfuel _ _ _ _ _ _ _ hI (lv_sub hl [2, 3, 1, 0] rfl) hf
set_option maxRecDepth 20000 in
theorem cJ7_fill_53178_k44_w9_met (st : Nat → Nat) (l : Launch) (D : va_G) (ad : Nat → Nat) (cy : Nat → ClassId) (σ : zSt) (x1 : Int32) (res : zSt) (hf : fJ7_fill_53178_k44 σ x1 = some res) (sz : Nat) : zMu st l yJ7_fill_53178 wzJ7_fill_53178 rmJ7_fill_53178_k44_w9 [.ref (ad 44), .int x1] D (tN9 cy) (wN9 ad cy) sz σ res :=
  zMu.of (cc := cJ7_fill_53178) (maxL := 4) (ret := none) (by decide) rfl (Nat.le_of_ble_eq_true rfl) (fun p e s m args below meth c hC A hI ls hl => bJ7_fill_53178_k44_w9 hC hI hl hf)
theorem hdJ7_fill_53178_k44_w9 : yJ7_fill_53178.cls ≠ "java/lang/invoke/MethodHandle" ∧ yJ7_fill_53178.cls ≠ "java/lang/invoke/VarHandle" ∧ (parseMethodDescriptor yJ7_fill_53178.desc).map (fun d => d.parameters.length) = some 2 := by decide +kernel
end ZJN0
section ZJN1
section ZN2
variable {p : Program} {l : Launch} {e : Env} {R : Room} {s : State} {m : MethodId} {args : Array Value} {below : List Frame} {meth : Method} {c : Code} {H : Heap} {locs : List Loc} {cells slots : Nat} {Q : State → Prop}
variable {st : Nat → Nat} {D : va_G} {tys : List (ClassId × FieldType)} {A : Nat → Prop} {cc : ByteArray} {nL : Nat} {Ts : List Cond} {own : String} {pc : Nat} {ls : Array Slot} {rest : List Value} {ret : Option FieldType} {w : va_W}
theorem z_newi (hC : zC p m c cc nL s args Ts own meth ret) (hI : zI st D tys w A s H locs) (harr : Cond.arrayClass .int ∈ Ts) {n : Int32} (N' : Nat) (hn : ¬ n < 0) (hN : n.toNatClampNeg = N') (hbytes : N' * componentBytes .int ≤ 536870912) (hcells : cells + 1 ≤ R.cells) (hslots : slots + N' ≤ R.slots) (hdg : decode cc pc = .ok (.newarray .int, 2))
    (kk : ∀ (q : Nat) (cA : ClassId) (H1 : Heap), zI st D (tys ++ [(cA, .int)]) (w ++ [(q, .inl (cA, N', .inl (fun _ => 0)))]) A s H1 locs → W p l e R s m args below meth c H1 locs (cells + 1) (slots + N') Q (F0 m (pc + 2) ls (.ref q :: rest))) : W p l e R s m args below meth c H locs cells slots Q (F0 m pc ls (.int n :: rest)) :=
  z_newa (atype := .int) (ty := .int) (a0 := (N', .inl (fun _ => 0))) hC hI rfl harr N' (fun _ => rfl) hn hN hbytes hcells hslots hdg kk
theorem z_newl (hC : zC p m c cc nL s args Ts own meth ret) (hI : zI st D tys w A s H locs) (harr : Cond.arrayClass .long ∈ Ts) {n : Int32} (N' : Nat) (hn : ¬ n < 0) (hN : n.toNatClampNeg = N') (hbytes : N' * componentBytes .long ≤ 536870912) (hcells : cells + 1 ≤ R.cells) (hslots : slots + N' ≤ R.slots) (hdg : decode cc pc = .ok (.newarray .long, 2))
    (kk : ∀ (q : Nat) (cA : ClassId) (H1 : Heap), zI st D (tys ++ [(cA, .long)]) (w ++ [(q, .inl (cA, N', .inr (.inl (fun _ => 0))))]) A s H1 locs → W p l e R s m args below meth c H1 locs (cells + 1) (slots + N') Q (F0 m (pc + 2) ls (.ref q :: rest))) : W p l e R s m args below meth c H locs cells slots Q (F0 m pc ls (.int n :: rest)) :=
  z_newa (atype := .long) (ty := .long) (a0 := (N', .inr (.inl (fun _ => 0)))) hC hI rfl harr N' (fun _ => rfl) hn hN hbytes hcells hslots hdg kk
end ZN2
noncomputable def rmX2_init : Room := { frames := 1, cells := 8, slots := 607240, locals := 20 }
noncomputable def wzX2_init : List Cond := .code yX2_init cX2_init 1 none :: wsL_law
noncomputable def kn_cX2_init : Nat := 0xb12500b50abc072a2200b54f0306594f0505594f0404594f0303590abc072a1f00b50abc1b122a1c00b50abc1b122a1800b50abc0020112a1500b50abc0020112a1100b5022a0e00b50abc09122a0a00b50abc09122a0100b72a
theorem zk_cX2_init : zkd cX2_init.data.toList kn_cX2_init = true := by decide +kernel
theorem zn_cX2_init : cX2_init.data.toList.length = 90 := by decide +kernel
theorem dX2_init_0 : decode cX2_init 0 = .ok (.aload_n 0, 1) := zo_42 (zkb zk_cX2_init zn_cX2_init rfl)
theorem dX2_init_1 : decode cX2_init 1 = .ok (.invokespecial 1, 3) := zo_183 (b1 := 0) (b2 := 1) (zkb3 zk_cX2_init zn_cX2_init rfl) rfl
theorem dX2_init_4 : decode cX2_init 4 = .ok (.aload_n 0, 1) := zo_42 (zkb zk_cX2_init zn_cX2_init rfl)
theorem dX2_init_5 : decode cX2_init 5 = .ok (.ldc 9, 2) := zo_18 (b1 := 9) (zkb2 zk_cX2_init zn_cX2_init rfl)
theorem dX2_init_7 : decode cX2_init 7 = .ok (.newarray .int, 2) := by decide +kernel
theorem dX2_init_9 : decode cX2_init 9 = .ok (.putfield 10, 3) := zo_181 (b1 := 0) (b2 := 10) (zkb3 zk_cX2_init zn_cX2_init rfl) rfl
theorem dX2_init_12 : decode cX2_init 12 = .ok (.aload_n 0, 1) := zo_42 (zkb zk_cX2_init zn_cX2_init rfl)
theorem dX2_init_13 : decode cX2_init 13 = .ok (.ldc 9, 2) := zo_18 (b1 := 9) (zkb2 zk_cX2_init zn_cX2_init rfl)
theorem dX2_init_15 : decode cX2_init 15 = .ok (.newarray .int, 2) := by decide +kernel
theorem dX2_init_17 : decode cX2_init 17 = .ok (.putfield 14, 3) := zo_181 (b1 := 0) (b2 := 14) (zkb3 zk_cX2_init zn_cX2_init rfl) rfl
theorem dX2_init_20 : decode cX2_init 20 = .ok (.aload_n 0, 1) := zo_42 (zkb zk_cX2_init zn_cX2_init rfl)
theorem dX2_init_21 : decode cX2_init 21 = .ok (.iconst (-1), 1) := zo_2 (zkb zk_cX2_init zn_cX2_init rfl)
theorem dX2_init_22 : decode cX2_init 22 = .ok (.putfield 17, 3) := zo_181 (b1 := 0) (b2 := 17) (zkb3 zk_cX2_init zn_cX2_init rfl) rfl
theorem dX2_init_25 : decode cX2_init 25 = .ok (.aload_n 0, 1) := zo_42 (zkb zk_cX2_init zn_cX2_init rfl)
theorem dX2_init_26 : decode cX2_init 26 = .ok (.sipush 8192, 3) := zo_17 (b1 := 32) (b2 := 0) (zkb3 zk_cX2_init zn_cX2_init rfl) rfl
theorem dX2_init_29 : decode cX2_init 29 = .ok (.newarray .int, 2) := by decide +kernel
theorem dX2_init_31 : decode cX2_init 31 = .ok (.putfield 21, 3) := zo_181 (b1 := 0) (b2 := 21) (zkb3 zk_cX2_init zn_cX2_init rfl) rfl
theorem dX2_init_34 : decode cX2_init 34 = .ok (.aload_n 0, 1) := zo_42 (zkb zk_cX2_init zn_cX2_init rfl)
theorem dX2_init_35 : decode cX2_init 35 = .ok (.sipush 8192, 3) := zo_17 (b1 := 32) (b2 := 0) (zkb3 zk_cX2_init zn_cX2_init rfl) rfl
theorem dX2_init_38 : decode cX2_init 38 = .ok (.newarray .int, 2) := by decide +kernel
theorem dX2_init_40 : decode cX2_init 40 = .ok (.putfield 24, 3) := zo_181 (b1 := 0) (b2 := 24) (zkb3 zk_cX2_init zn_cX2_init rfl) rfl
theorem dX2_init_43 : decode cX2_init 43 = .ok (.aload_n 0, 1) := zo_42 (zkb zk_cX2_init zn_cX2_init rfl)
theorem dX2_init_44 : decode cX2_init 44 = .ok (.ldc 27, 2) := zo_18 (b1 := 27) (zkb2 zk_cX2_init zn_cX2_init rfl)
theorem dX2_init_46 : decode cX2_init 46 = .ok (.newarray .int, 2) := by decide +kernel
theorem dX2_init_48 : decode cX2_init 48 = .ok (.putfield 28, 3) := zo_181 (b1 := 0) (b2 := 28) (zkb3 zk_cX2_init zn_cX2_init rfl) rfl
theorem dX2_init_51 : decode cX2_init 51 = .ok (.aload_n 0, 1) := zo_42 (zkb zk_cX2_init zn_cX2_init rfl)
theorem dX2_init_52 : decode cX2_init 52 = .ok (.ldc 27, 2) := zo_18 (b1 := 27) (zkb2 zk_cX2_init zn_cX2_init rfl)
theorem dX2_init_54 : decode cX2_init 54 = .ok (.newarray .int, 2) := by decide +kernel
theorem dX2_init_56 : decode cX2_init 56 = .ok (.putfield 31, 3) := zo_181 (b1 := 0) (b2 := 31) (zkb3 zk_cX2_init zn_cX2_init rfl) rfl
theorem dX2_init_59 : decode cX2_init 59 = .ok (.aload_n 0, 1) := zo_42 (zkb zk_cX2_init zn_cX2_init rfl)
theorem dX2_init_60 : decode cX2_init 60 = .ok (.iconst 4, 1) := zo_7 (zkb zk_cX2_init zn_cX2_init rfl)
theorem dX2_init_61 : decode cX2_init 61 = .ok (.newarray .int, 2) := by decide +kernel
theorem dX2_init_63 : decode cX2_init 63 = .ok (.dup, 1) := zo_89 (zkb zk_cX2_init zn_cX2_init rfl)
theorem dX2_init_64 : decode cX2_init 64 = .ok (.iconst 0, 1) := zo_3 (zkb zk_cX2_init zn_cX2_init rfl)
theorem dX2_init_65 : decode cX2_init 65 = .ok (.iconst 0, 1) := zo_3 (zkb zk_cX2_init zn_cX2_init rfl)
theorem dX2_init_66 : decode cX2_init 66 = .ok (.iastore, 1) := zo_79 (zkb zk_cX2_init zn_cX2_init rfl)
theorem dX2_init_67 : decode cX2_init 67 = .ok (.dup, 1) := zo_89 (zkb zk_cX2_init zn_cX2_init rfl)
theorem dX2_init_68 : decode cX2_init 68 = .ok (.iconst 1, 1) := zo_4 (zkb zk_cX2_init zn_cX2_init rfl)
theorem dX2_init_69 : decode cX2_init 69 = .ok (.iconst 1, 1) := zo_4 (zkb zk_cX2_init zn_cX2_init rfl)
theorem dX2_init_70 : decode cX2_init 70 = .ok (.iastore, 1) := zo_79 (zkb zk_cX2_init zn_cX2_init rfl)
theorem dX2_init_71 : decode cX2_init 71 = .ok (.dup, 1) := zo_89 (zkb zk_cX2_init zn_cX2_init rfl)
theorem dX2_init_72 : decode cX2_init 72 = .ok (.iconst 2, 1) := zo_5 (zkb zk_cX2_init zn_cX2_init rfl)
theorem dX2_init_73 : decode cX2_init 73 = .ok (.iconst 2, 1) := zo_5 (zkb zk_cX2_init zn_cX2_init rfl)
theorem dX2_init_74 : decode cX2_init 74 = .ok (.iastore, 1) := zo_79 (zkb zk_cX2_init zn_cX2_init rfl)
theorem dX2_init_75 : decode cX2_init 75 = .ok (.dup, 1) := zo_89 (zkb zk_cX2_init zn_cX2_init rfl)
theorem dX2_init_76 : decode cX2_init 76 = .ok (.iconst 3, 1) := zo_6 (zkb zk_cX2_init zn_cX2_init rfl)
theorem dX2_init_77 : decode cX2_init 77 = .ok (.iconst 0, 1) := zo_3 (zkb zk_cX2_init zn_cX2_init rfl)
theorem dX2_init_78 : decode cX2_init 78 = .ok (.iastore, 1) := zo_79 (zkb zk_cX2_init zn_cX2_init rfl)
theorem dX2_init_79 : decode cX2_init 79 = .ok (.putfield 34, 3) := zo_181 (b1 := 0) (b2 := 34) (zkb3 zk_cX2_init zn_cX2_init rfl) rfl
theorem dX2_init_82 : decode cX2_init 82 = .ok (.aload_n 0, 1) := zo_42 (zkb zk_cX2_init zn_cX2_init rfl)
theorem dX2_init_83 : decode cX2_init 83 = .ok (.iconst 4, 1) := zo_7 (zkb zk_cX2_init zn_cX2_init rfl)
theorem dX2_init_84 : decode cX2_init 84 = .ok (.newarray .int, 2) := by decide +kernel
theorem dX2_init_86 : decode cX2_init 86 = .ok (.putfield 37, 3) := zo_181 (b1 := 0) (b2 := 37) (zkb3 zk_cX2_init zn_cX2_init rfl) rfl
theorem dX2_init_89 : decode cX2_init 89 = .ok (.return_, 1) := zo_177 (zkb zk_cX2_init zn_cX2_init rfl)
set_option maxRecDepth 20000 in
set_option maxHeartbeats 4000000 in
theorem cX2_init_met (st : Nat → Nat) (l : Launch) (D : va_G) (h0 : Nat)   (sz : Nat) : zN st l yX2_init wzX2_init rmX2_init [.ref h0] D [(h0, .inr (4, [.null, .null, .int 0, .int 0, .int 0, .int 0, .int 0, .int 0, .null, .null, .null, .null, .null, .null]))] sz (fun ad cy => wN1 ad cy (zsi (zsi (zsi (zsi (zsi (zsi zS0 1 1 1) 1 7 (-1)) 19 0 0) 19 1 1) 19 2 2) 19 3 0)) tN1 (fun f => h0 = f 1) 8 607240 := by
  refine zN.of (cc := cX2_init) (maxL := 1) (by decide) rfl rfl (Nat.le_of_ble_eq_true rfl) (fun p e s m args below meth c hC hnm A hI ls hl => ?_)
  have hx := hC.1
  have hb := hC.2.1
  refine lv_aload_n hx hb dX2_init_0 rfl (lv_at hl 0 rfl) ?_
  refine z_objInit hC hl (List.mem_cons_of_mem _ zw3_13) (List.mem_cons_of_mem _ zw1_16) (List.mem_cons_of_mem _ zw1_17) dX2_init_1 (Nat.le_of_ble_eq_true rfl) (Nat.le_of_ble_eq_true rfl) ?_
  refine lv_aload_n hx hb dX2_init_4 rfl (lv_at hl 0 rfl) ?_
  refine lv_ldc (v := 262656) hx hb hC.2.2.2.1 (hC.2.2.2.2.1 _ (List.mem_cons_of_mem _ zw3_14)) dX2_init_5 ?_
  refine z_newi hC hI (List.mem_cons_of_mem _ zw3_15) 262656 (by decide +kernel) (by decide +kernel) (by decide +kernel) (Nat.le_of_ble_eq_true rfl) (Nat.le_of_ble_eq_true rfl) dX2_init_7 (fun q1 c1 H hI => ?_)
  have hI : zI st D [(c1, .int)] [(h0, .inr (4, [.null, .null, .int 0, .int 0, .int 0, .int 0, .int 0, .int 0, .null, .null, .null, .null, .null, .null])), (q1, .inl (c1, 262656, .inl (fun _ => 0)))] A s H _ := hI
  refine z_put hC hI (w1 := [(h0, .inr (4, [.ref q1, .null, .int 0, .int 0, .int 0, .int 0, .int 0, .int 0, .null, .null, .null, .null, .null, .null])), (q1, .inl (c1, 262656, .inl (fun _ => 0)))]) (fun w h => List.mem_cons_of_mem _ (inlX2 w h)) tyX2_ok nmX2 0 rfl rfl 0 (by decide) (List.mem_cons_of_mem _ zw3_16) rfl rfl rfl (Nat.le_of_ble_eq_true rfl) rfl dX2_init_9 (fun H locs hI => ?_)
  refine lv_aload_n hx hb dX2_init_12 rfl (lv_at hl 0 rfl) ?_
  refine lv_ldc (v := 262656) hx hb hC.2.2.2.1 (hC.2.2.2.2.1 _ (List.mem_cons_of_mem _ zw3_14)) dX2_init_13 ?_
  refine z_newi hC hI (List.mem_cons_of_mem _ zw3_15) 262656 (by decide +kernel) (by decide +kernel) (by decide +kernel) (Nat.le_of_ble_eq_true rfl) (Nat.le_of_ble_eq_true rfl) dX2_init_15 (fun q2 c2 H hI => ?_)
  have hI : zI st D [(c1, .int), (c2, .int)] [(h0, .inr (4, [.ref q1, .null, .int 0, .int 0, .int 0, .int 0, .int 0, .int 0, .null, .null, .null, .null, .null, .null])), (q1, .inl (c1, 262656, .inl (fun _ => 0))), (q2, .inl (c2, 262656, .inl (fun _ => 0)))] A s H _ := hI
  refine z_put hC hI (w1 := [(h0, .inr (4, [.ref q1, .ref q2, .int 0, .int 0, .int 0, .int 0, .int 0, .int 0, .null, .null, .null, .null, .null, .null])), (q1, .inl (c1, 262656, .inl (fun _ => 0))), (q2, .inl (c2, 262656, .inl (fun _ => 0)))]) (fun w h => List.mem_cons_of_mem _ (inlX2 w h)) tyX2_ok nmX2 0 rfl rfl 1 (by decide) (List.mem_cons_of_mem _ zw3_17) rfl rfl rfl (Nat.le_of_ble_eq_true rfl) rfl dX2_init_17 (fun H locs hI => ?_)
  refine lv_aload_n hx hb dX2_init_20 rfl (lv_at hl 0 rfl) ?_
  refine lv_iconst (v := (-1)) hx hb dX2_init_21 (by decide) ?_
  refine z_put hC hI (w1 := [(h0, .inr (4, [.ref q1, .ref q2, .int 0, .int 0, .int 0, .int 0, .int 0, .int (-1), .null, .null, .null, .null, .null, .null])), (q1, .inl (c1, 262656, .inl (fun _ => 0))), (q2, .inl (c2, 262656, .inl (fun _ => 0)))]) (fun w h => List.mem_cons_of_mem _ (inlX2 w h)) tyX2_ok nmX2 0 rfl rfl 7 (by decide) (List.mem_cons_of_mem _ zw3_18) rfl rfl rfl (Nat.le_of_ble_eq_true rfl) rfl dX2_init_22 (fun H locs hI => ?_)
  refine lv_aload_n hx hb dX2_init_25 rfl (lv_at hl 0 rfl) ?_
  refine lv_sipush (v := 8192) hx hb dX2_init_26 (by decide) ?_
  refine z_newi hC hI (List.mem_cons_of_mem _ zw3_15) 8192 (by decide +kernel) (by decide +kernel) (by decide +kernel) (Nat.le_of_ble_eq_true rfl) (Nat.le_of_ble_eq_true rfl) dX2_init_29 (fun q3 c3 H hI => ?_)
  have hI : zI st D [(c1, .int), (c2, .int), (c3, .int)] [(h0, .inr (4, [.ref q1, .ref q2, .int 0, .int 0, .int 0, .int 0, .int 0, .int (-1), .null, .null, .null, .null, .null, .null])), (q1, .inl (c1, 262656, .inl (fun _ => 0))), (q2, .inl (c2, 262656, .inl (fun _ => 0))), (q3, .inl (c3, 8192, .inl (fun _ => 0)))] A s H _ := hI
  refine z_putF hC hnm hI (w1 := [(h0, .inr (4, [.ref q1, .ref q2, .int 0, .int 0, .int 0, .int 0, .int 0, .int (-1), .ref q3, .null, .null, .null, .null, .null])), (q1, .inl (c1, 262656, .inl (fun _ => 0))), (q2, .inl (c2, 262656, .inl (fun _ => 0))), (q3, .inl (c3, 8192, .inl (fun _ => 0)))]) (fun w h => List.mem_cons_of_mem _ (inlX2 w h)) tyX2_ok nmX2 0 rfl rfl 8 (by decide) (List.mem_cons_of_mem _ zw3_19) rfl rfl rfl rfl (Nat.le_of_ble_eq_true rfl) rfl dX2_init_31 (fun H locs hI => ?_)
  refine lv_aload_n hx hb dX2_init_34 rfl (lv_at hl 0 rfl) ?_
  refine lv_sipush (v := 8192) hx hb dX2_init_35 (by decide) ?_
  refine z_newi hC hI (List.mem_cons_of_mem _ zw3_15) 8192 (by decide +kernel) (by decide +kernel) (by decide +kernel) (Nat.le_of_ble_eq_true rfl) (Nat.le_of_ble_eq_true rfl) dX2_init_38 (fun q4 c4 H hI => ?_)
  have hI : zI st D [(c1, .int), (c2, .int), (c3, .int), (c4, .int)] [(h0, .inr (4, [.ref q1, .ref q2, .int 0, .int 0, .int 0, .int 0, .int 0, .int (-1), .ref q3, .null, .null, .null, .null, .null])), (q1, .inl (c1, 262656, .inl (fun _ => 0))), (q2, .inl (c2, 262656, .inl (fun _ => 0))), (q3, .inl (c3, 8192, .inl (fun _ => 0))), (q4, .inl (c4, 8192, .inl (fun _ => 0)))] A s H _ := hI
  refine z_putF hC hnm hI (w1 := [(h0, .inr (4, [.ref q1, .ref q2, .int 0, .int 0, .int 0, .int 0, .int 0, .int (-1), .ref q3, .ref q4, .null, .null, .null, .null])), (q1, .inl (c1, 262656, .inl (fun _ => 0))), (q2, .inl (c2, 262656, .inl (fun _ => 0))), (q3, .inl (c3, 8192, .inl (fun _ => 0))), (q4, .inl (c4, 8192, .inl (fun _ => 0)))]) (fun w h => List.mem_cons_of_mem _ (inlX2 w h)) tyX2_ok nmX2 0 rfl rfl 9 (by decide) (List.mem_cons_of_mem _ zw3_20) rfl rfl rfl rfl (Nat.le_of_ble_eq_true rfl) rfl dX2_init_40 (fun H locs hI => ?_)
  refine lv_aload_n hx hb dX2_init_43 rfl (lv_at hl 0 rfl) ?_
  refine lv_ldc (v := 32768) hx hb hC.2.2.2.1 (hC.2.2.2.2.1 _ (List.mem_cons_of_mem _ zw3_21)) dX2_init_44 ?_
  refine z_newi hC hI (List.mem_cons_of_mem _ zw3_15) 32768 (by decide +kernel) (by decide +kernel) (by decide +kernel) (Nat.le_of_ble_eq_true rfl) (Nat.le_of_ble_eq_true rfl) dX2_init_46 (fun q5 c5 H hI => ?_)
  have hI : zI st D [(c1, .int), (c2, .int), (c3, .int), (c4, .int), (c5, .int)] [(h0, .inr (4, [.ref q1, .ref q2, .int 0, .int 0, .int 0, .int 0, .int 0, .int (-1), .ref q3, .ref q4, .null, .null, .null, .null])), (q1, .inl (c1, 262656, .inl (fun _ => 0))), (q2, .inl (c2, 262656, .inl (fun _ => 0))), (q3, .inl (c3, 8192, .inl (fun _ => 0))), (q4, .inl (c4, 8192, .inl (fun _ => 0))), (q5, .inl (c5, 32768, .inl (fun _ => 0)))] A s H _ := hI
  refine z_putF hC hnm hI (w1 := [(h0, .inr (4, [.ref q1, .ref q2, .int 0, .int 0, .int 0, .int 0, .int 0, .int (-1), .ref q3, .ref q4, .ref q5, .null, .null, .null])), (q1, .inl (c1, 262656, .inl (fun _ => 0))), (q2, .inl (c2, 262656, .inl (fun _ => 0))), (q3, .inl (c3, 8192, .inl (fun _ => 0))), (q4, .inl (c4, 8192, .inl (fun _ => 0))), (q5, .inl (c5, 32768, .inl (fun _ => 0)))]) (fun w h => List.mem_cons_of_mem _ (inlX2 w h)) tyX2_ok nmX2 0 rfl rfl 10 (by decide) (List.mem_cons_of_mem _ zw3_22) rfl rfl rfl rfl (Nat.le_of_ble_eq_true rfl) rfl dX2_init_48 (fun H locs hI => ?_)
  refine lv_aload_n hx hb dX2_init_51 rfl (lv_at hl 0 rfl) ?_
  refine lv_ldc (v := 32768) hx hb hC.2.2.2.1 (hC.2.2.2.2.1 _ (List.mem_cons_of_mem _ zw3_21)) dX2_init_52 ?_
  refine z_newi hC hI (List.mem_cons_of_mem _ zw3_15) 32768 (by decide +kernel) (by decide +kernel) (by decide +kernel) (Nat.le_of_ble_eq_true rfl) (Nat.le_of_ble_eq_true rfl) dX2_init_54 (fun q6 c6 H hI => ?_)
  have hI : zI st D [(c1, .int), (c2, .int), (c3, .int), (c4, .int), (c5, .int), (c6, .int)] [(h0, .inr (4, [.ref q1, .ref q2, .int 0, .int 0, .int 0, .int 0, .int 0, .int (-1), .ref q3, .ref q4, .ref q5, .null, .null, .null])), (q1, .inl (c1, 262656, .inl (fun _ => 0))), (q2, .inl (c2, 262656, .inl (fun _ => 0))), (q3, .inl (c3, 8192, .inl (fun _ => 0))), (q4, .inl (c4, 8192, .inl (fun _ => 0))), (q5, .inl (c5, 32768, .inl (fun _ => 0))), (q6, .inl (c6, 32768, .inl (fun _ => 0)))] A s H _ := hI
  refine z_putF hC hnm hI (w1 := [(h0, .inr (4, [.ref q1, .ref q2, .int 0, .int 0, .int 0, .int 0, .int 0, .int (-1), .ref q3, .ref q4, .ref q5, .ref q6, .null, .null])), (q1, .inl (c1, 262656, .inl (fun _ => 0))), (q2, .inl (c2, 262656, .inl (fun _ => 0))), (q3, .inl (c3, 8192, .inl (fun _ => 0))), (q4, .inl (c4, 8192, .inl (fun _ => 0))), (q5, .inl (c5, 32768, .inl (fun _ => 0))), (q6, .inl (c6, 32768, .inl (fun _ => 0)))]) (fun w h => List.mem_cons_of_mem _ (inlX2 w h)) tyX2_ok nmX2 0 rfl rfl 11 (by decide) (List.mem_cons_of_mem _ zw3_23) rfl rfl rfl rfl (Nat.le_of_ble_eq_true rfl) rfl dX2_init_56 (fun H locs hI => ?_)
  refine lv_aload_n hx hb dX2_init_59 rfl (lv_at hl 0 rfl) ?_
  refine lv_iconst (v := 4) hx hb dX2_init_60 (by decide) ?_
  refine z_newi hC hI (List.mem_cons_of_mem _ zw3_15) 4 (by decide +kernel) (by decide +kernel) (by decide +kernel) (Nat.le_of_ble_eq_true rfl) (Nat.le_of_ble_eq_true rfl) dX2_init_61 (fun q7 c7 H hI => ?_)
  have hI : zI st D [(c1, .int), (c2, .int), (c3, .int), (c4, .int), (c5, .int), (c6, .int), (c7, .int)] [(h0, .inr (4, [.ref q1, .ref q2, .int 0, .int 0, .int 0, .int 0, .int 0, .int (-1), .ref q3, .ref q4, .ref q5, .ref q6, .null, .null])), (q1, .inl (c1, 262656, .inl (fun _ => 0))), (q2, .inl (c2, 262656, .inl (fun _ => 0))), (q3, .inl (c3, 8192, .inl (fun _ => 0))), (q4, .inl (c4, 8192, .inl (fun _ => 0))), (q5, .inl (c5, 32768, .inl (fun _ => 0))), (q6, .inl (c6, 32768, .inl (fun _ => 0))), (q7, .inl (c7, 4, .inl (fun _ => 0)))] A s H _ := hI
  refine lv_dup hx hb dX2_init_63 rfl ?_
  refine lv_iconst (v := 0) hx hb dX2_init_64 (by decide) ?_
  refine lv_iconst (v := 0) hx hb dX2_init_65 (by decide) ?_
  refine z_iast (w1 := [(h0, .inr (4, [.ref q1, .ref q2, .int 0, .int 0, .int 0, .int 0, .int 0, .int (-1), .ref q3, .ref q4, .ref q5, .ref q6, .null, .null])), (q1, .inl (c1, 262656, .inl (fun _ => 0))), (q2, .inl (c2, 262656, .inl (fun _ => 0))), (q3, .inl (c3, 8192, .inl (fun _ => 0))), (q4, .inl (c4, 8192, .inl (fun _ => 0))), (q5, .inl (c5, 32768, .inl (fun _ => 0))), (q6, .inl (c6, 32768, .inl (fun _ => 0))), (q7, .inl (c7, 4, .inl (upd (fun _ => 0) 0 0)))]) hC hI 7 6 rfl rfl (by decide) rfl dX2_init_66 (fun H locs hI => ?_)
  refine lv_dup hx hb dX2_init_67 rfl ?_
  refine lv_iconst (v := 1) hx hb dX2_init_68 (by decide) ?_
  refine lv_iconst (v := 1) hx hb dX2_init_69 (by decide) ?_
  refine z_iast (w1 := [(h0, .inr (4, [.ref q1, .ref q2, .int 0, .int 0, .int 0, .int 0, .int 0, .int (-1), .ref q3, .ref q4, .ref q5, .ref q6, .null, .null])), (q1, .inl (c1, 262656, .inl (fun _ => 0))), (q2, .inl (c2, 262656, .inl (fun _ => 0))), (q3, .inl (c3, 8192, .inl (fun _ => 0))), (q4, .inl (c4, 8192, .inl (fun _ => 0))), (q5, .inl (c5, 32768, .inl (fun _ => 0))), (q6, .inl (c6, 32768, .inl (fun _ => 0))), (q7, .inl (c7, 4, .inl (upd (upd (fun _ => 0) 0 0) 1 1)))]) hC hI 7 6 rfl rfl (by decide) rfl dX2_init_70 (fun H locs hI => ?_)
  refine lv_dup hx hb dX2_init_71 rfl ?_
  refine lv_iconst (v := 2) hx hb dX2_init_72 (by decide) ?_
  refine lv_iconst (v := 2) hx hb dX2_init_73 (by decide) ?_
  refine z_iast (w1 := [(h0, .inr (4, [.ref q1, .ref q2, .int 0, .int 0, .int 0, .int 0, .int 0, .int (-1), .ref q3, .ref q4, .ref q5, .ref q6, .null, .null])), (q1, .inl (c1, 262656, .inl (fun _ => 0))), (q2, .inl (c2, 262656, .inl (fun _ => 0))), (q3, .inl (c3, 8192, .inl (fun _ => 0))), (q4, .inl (c4, 8192, .inl (fun _ => 0))), (q5, .inl (c5, 32768, .inl (fun _ => 0))), (q6, .inl (c6, 32768, .inl (fun _ => 0))), (q7, .inl (c7, 4, .inl (upd (upd (upd (fun _ => 0) 0 0) 1 1) 2 2)))]) hC hI 7 6 rfl rfl (by decide) rfl dX2_init_74 (fun H locs hI => ?_)
  refine lv_dup hx hb dX2_init_75 rfl ?_
  refine lv_iconst (v := 3) hx hb dX2_init_76 (by decide) ?_
  refine lv_iconst (v := 0) hx hb dX2_init_77 (by decide) ?_
  refine z_iast (w1 := [(h0, .inr (4, [.ref q1, .ref q2, .int 0, .int 0, .int 0, .int 0, .int 0, .int (-1), .ref q3, .ref q4, .ref q5, .ref q6, .null, .null])), (q1, .inl (c1, 262656, .inl (fun _ => 0))), (q2, .inl (c2, 262656, .inl (fun _ => 0))), (q3, .inl (c3, 8192, .inl (fun _ => 0))), (q4, .inl (c4, 8192, .inl (fun _ => 0))), (q5, .inl (c5, 32768, .inl (fun _ => 0))), (q6, .inl (c6, 32768, .inl (fun _ => 0))), (q7, .inl (c7, 4, .inl (upd (upd (upd (upd (fun _ => 0) 0 0) 1 1) 2 2) 3 0)))]) hC hI 7 6 rfl rfl (by decide) rfl dX2_init_78 (fun H locs hI => ?_)
  refine z_putF hC hnm hI (w1 := [(h0, .inr (4, [.ref q1, .ref q2, .int 0, .int 0, .int 0, .int 0, .int 0, .int (-1), .ref q3, .ref q4, .ref q5, .ref q6, .ref q7, .null])), (q1, .inl (c1, 262656, .inl (fun _ => 0))), (q2, .inl (c2, 262656, .inl (fun _ => 0))), (q3, .inl (c3, 8192, .inl (fun _ => 0))), (q4, .inl (c4, 8192, .inl (fun _ => 0))), (q5, .inl (c5, 32768, .inl (fun _ => 0))), (q6, .inl (c6, 32768, .inl (fun _ => 0))), (q7, .inl (c7, 4, .inl (upd (upd (upd (upd (fun _ => 0) 0 0) 1 1) 2 2) 3 0)))]) (fun w h => List.mem_cons_of_mem _ (inlX2 w h)) tyX2_ok nmX2 0 rfl rfl 12 (by decide) (List.mem_cons_of_mem _ zw4_0) rfl rfl rfl rfl (Nat.le_of_ble_eq_true rfl) rfl dX2_init_79 (fun H locs hI => ?_)
  refine lv_aload_n hx hb dX2_init_82 rfl (lv_at hl 0 rfl) ?_
  refine lv_iconst (v := 4) hx hb dX2_init_83 (by decide) ?_
  refine z_newi hC hI (List.mem_cons_of_mem _ zw3_15) 4 (by decide +kernel) (by decide +kernel) (by decide +kernel) (Nat.le_of_ble_eq_true rfl) (Nat.le_of_ble_eq_true rfl) dX2_init_84 (fun q8 c8 H hI => ?_)
  have hI : zI st D [(c1, .int), (c2, .int), (c3, .int), (c4, .int), (c5, .int), (c6, .int), (c7, .int), (c8, .int)] [(h0, .inr (4, [.ref q1, .ref q2, .int 0, .int 0, .int 0, .int 0, .int 0, .int (-1), .ref q3, .ref q4, .ref q5, .ref q6, .ref q7, .null])), (q1, .inl (c1, 262656, .inl (fun _ => 0))), (q2, .inl (c2, 262656, .inl (fun _ => 0))), (q3, .inl (c3, 8192, .inl (fun _ => 0))), (q4, .inl (c4, 8192, .inl (fun _ => 0))), (q5, .inl (c5, 32768, .inl (fun _ => 0))), (q6, .inl (c6, 32768, .inl (fun _ => 0))), (q7, .inl (c7, 4, .inl (upd (upd (upd (upd (fun _ => 0) 0 0) 1 1) 2 2) 3 0))), (q8, .inl (c8, 4, .inl (fun _ => 0)))] A s H _ := hI
  refine z_putF hC hnm hI (w1 := [(h0, .inr (4, [.ref q1, .ref q2, .int 0, .int 0, .int 0, .int 0, .int 0, .int (-1), .ref q3, .ref q4, .ref q5, .ref q6, .ref q7, .ref q8])), (q1, .inl (c1, 262656, .inl (fun _ => 0))), (q2, .inl (c2, 262656, .inl (fun _ => 0))), (q3, .inl (c3, 8192, .inl (fun _ => 0))), (q4, .inl (c4, 8192, .inl (fun _ => 0))), (q5, .inl (c5, 32768, .inl (fun _ => 0))), (q6, .inl (c6, 32768, .inl (fun _ => 0))), (q7, .inl (c7, 4, .inl (upd (upd (upd (upd (fun _ => 0) 0 0) 1 1) 2 2) 3 0))), (q8, .inl (c8, 4, .inl (fun _ => 0)))]) (fun w h => List.mem_cons_of_mem _ (inlX2 w h)) tyX2_ok nmX2 0 rfl rfl 13 (by decide) (List.mem_cons_of_mem _ zw4_1) rfl rfl rfl rfl (Nat.le_of_ble_eq_true rfl) rfl dX2_init_86 (fun H locs hI => ?_)
  obtain ⟨ad, had⟩ : ∃ f : Nat → Nat, f = (fun j => if j = 1 then h0 else if j = 13 then q1 else if j = 14 then q2 else if j = 15 then q3 else if j = 16 then q4 else if j = 17 then q5 else if j = 18 then q6 else if j = 19 then q7 else if j = 20 then q8 else 0) := ⟨_, rfl⟩
  obtain ⟨cy, hcy⟩ : ∃ f : Nat → ClassId, f = (fun j => if j = 13 then c1 else if j = 14 then c2 else if j = 15 then c3 else if j = 16 then c4 else if j = 17 then c5 else if j = 18 then c6 else if j = 19 then c7 else if j = 20 then c8 else 0) := ⟨_, rfl⟩
  have e1 : h0 = ad 1 := by rw [had]; rfl
  have e13 : q1 = ad 13 := by rw [had]; rfl
  have e14 : q2 = ad 14 := by rw [had]; rfl
  have e15 : q3 = ad 15 := by rw [had]; rfl
  have e16 : q4 = ad 16 := by rw [had]; rfl
  have e17 : q5 = ad 17 := by rw [had]; rfl
  have e18 : q6 = ad 18 := by rw [had]; rfl
  have e19 : q7 = ad 19 := by rw [had]; rfl
  have e20 : q8 = ad 20 := by rw [had]; rfl
  have hI : zI st D (tN1 cy) (wN1 ad cy (zsi (zsi (zsi (zsi (zsi (zsi zS0 1 1 1) 1 7 (-1)) 19 0 0) 19 1 1) 19 2 2) 19 3 0)) A s H locs := by rw [had, hcy]; exact hI
  exact z_nreturn0 (wn := fun ad cy => wN1 ad cy (zsi (zsi (zsi (zsi (zsi (zsi zS0 1 1 1) 1 7 (-1)) 19 0 0) 19 1 1) 19 2 2) 19 3 0)) (tn := tN1) (ex := fun f => h0 = f 1) hC ad cy hI e1 (Nat.le_refl _) (Nat.le_refl _) dX2_init_89
theorem hdX2_init : yX2_init.cls ≠ "java/lang/invoke/MethodHandle" ∧ yX2_init.cls ≠ "java/lang/invoke/VarHandle" ∧ (parseMethodDescriptor yX2_init.desc).map (fun d => d.parameters.length) = some 0 := by decide +kernel
noncomputable def rmX9_init : Room := { frames := 1, cells := 4, slots := 32960, locals := 20 }
noncomputable def wzX9_init : List Cond := .code yX9_init cX9_init 3 none :: wsL_law
noncomputable def kn_cX9_init : Nat := 0xb11a00b51c2a1600b51b2a1300b50abc60102a1000b50abc60102a0d00b50abc0040112a0900b50abc0040112a0100b72a
theorem zk_cX9_init : zkd cX9_init.data.toList kn_cX9_init = true := by decide +kernel
theorem zn_cX9_init : cX9_init.data.toList.length = 49 := by decide +kernel
theorem dX9_init_0 : decode cX9_init 0 = .ok (.aload_n 0, 1) := zo_42 (zkb zk_cX9_init zn_cX9_init rfl)
theorem dX9_init_1 : decode cX9_init 1 = .ok (.invokespecial 1, 3) := zo_183 (b1 := 0) (b2 := 1) (zkb3 zk_cX9_init zn_cX9_init rfl) rfl
theorem dX9_init_4 : decode cX9_init 4 = .ok (.aload_n 0, 1) := zo_42 (zkb zk_cX9_init zn_cX9_init rfl)
theorem dX9_init_5 : decode cX9_init 5 = .ok (.sipush 16384, 3) := zo_17 (b1 := 64) (b2 := 0) (zkb3 zk_cX9_init zn_cX9_init rfl) rfl
theorem dX9_init_8 : decode cX9_init 8 = .ok (.newarray .int, 2) := by decide +kernel
theorem dX9_init_10 : decode cX9_init 10 = .ok (.putfield 9, 3) := zo_181 (b1 := 0) (b2 := 9) (zkb3 zk_cX9_init zn_cX9_init rfl) rfl
theorem dX9_init_13 : decode cX9_init 13 = .ok (.aload_n 0, 1) := zo_42 (zkb zk_cX9_init zn_cX9_init rfl)
theorem dX9_init_14 : decode cX9_init 14 = .ok (.sipush 16384, 3) := zo_17 (b1 := 64) (b2 := 0) (zkb3 zk_cX9_init zn_cX9_init rfl) rfl
theorem dX9_init_17 : decode cX9_init 17 = .ok (.newarray .int, 2) := by decide +kernel
theorem dX9_init_19 : decode cX9_init 19 = .ok (.putfield 13, 3) := zo_181 (b1 := 0) (b2 := 13) (zkb3 zk_cX9_init zn_cX9_init rfl) rfl
theorem dX9_init_22 : decode cX9_init 22 = .ok (.aload_n 0, 1) := zo_42 (zkb zk_cX9_init zn_cX9_init rfl)
theorem dX9_init_23 : decode cX9_init 23 = .ok (.bipush 96, 2) := zo_16 (b1 := 96) (zkb2 zk_cX9_init zn_cX9_init rfl) rfl
theorem dX9_init_25 : decode cX9_init 25 = .ok (.newarray .int, 2) := by decide +kernel
theorem dX9_init_27 : decode cX9_init 27 = .ok (.putfield 16, 3) := zo_181 (b1 := 0) (b2 := 16) (zkb3 zk_cX9_init zn_cX9_init rfl) rfl
theorem dX9_init_30 : decode cX9_init 30 = .ok (.aload_n 0, 1) := zo_42 (zkb zk_cX9_init zn_cX9_init rfl)
theorem dX9_init_31 : decode cX9_init 31 = .ok (.bipush 96, 2) := zo_16 (b1 := 96) (zkb2 zk_cX9_init zn_cX9_init rfl) rfl
theorem dX9_init_33 : decode cX9_init 33 = .ok (.newarray .int, 2) := by decide +kernel
theorem dX9_init_35 : decode cX9_init 35 = .ok (.putfield 19, 3) := zo_181 (b1 := 0) (b2 := 19) (zkb3 zk_cX9_init zn_cX9_init rfl) rfl
theorem dX9_init_38 : decode cX9_init 38 = .ok (.aload_n 0, 1) := zo_42 (zkb zk_cX9_init zn_cX9_init rfl)
theorem dX9_init_39 : decode cX9_init 39 = .ok (.iload_n 1, 1) := zo_27 (zkb zk_cX9_init zn_cX9_init rfl)
theorem dX9_init_40 : decode cX9_init 40 = .ok (.putfield 22, 3) := zo_181 (b1 := 0) (b2 := 22) (zkb3 zk_cX9_init zn_cX9_init rfl) rfl
theorem dX9_init_43 : decode cX9_init 43 = .ok (.aload_n 0, 1) := zo_42 (zkb zk_cX9_init zn_cX9_init rfl)
theorem dX9_init_44 : decode cX9_init 44 = .ok (.iload_n 2, 1) := zo_28 (zkb zk_cX9_init zn_cX9_init rfl)
theorem dX9_init_45 : decode cX9_init 45 = .ok (.putfield 26, 3) := zo_181 (b1 := 0) (b2 := 26) (zkb3 zk_cX9_init zn_cX9_init rfl) rfl
theorem dX9_init_48 : decode cX9_init 48 = .ok (.return_, 1) := zo_177 (zkb zk_cX9_init zn_cX9_init rfl)
set_option maxRecDepth 20000 in
set_option maxHeartbeats 4000000 in
theorem cX9_init_met (st : Nat → Nat) (l : Launch) (D : va_G) (h0 : Nat) (x1 : Int32) (x2 : Int32) (hz1 : zbo x1 = true) (sz : Nat) : zN st l yX9_init wzX9_init rmX9_init [.ref h0, .int x1, .int x2] D [(h0, .inr (11, [.int 0, .int 0, .null, .null, .null, .null]))] sz (fun ad cy => wN2 ad cy (zsi (zsi zS0 2 0 x1) 2 1 x2)) tN2 (fun f => h0 = f 2) 4 32960 := by
  refine zN.of (cc := cX9_init) (maxL := 3) (by decide) rfl rfl (Nat.le_of_ble_eq_true rfl) (fun p e s m args below meth c hC hnm A hI ls hl => ?_)
  have hx := hC.1
  have hb := hC.2.1
  refine lv_aload_n hx hb dX9_init_0 rfl (lv_at hl 0 rfl) ?_
  refine z_objInit hC hl (List.mem_cons_of_mem _ zw4_5) (List.mem_cons_of_mem _ zw1_16) (List.mem_cons_of_mem _ zw1_17) dX9_init_1 (Nat.le_of_ble_eq_true rfl) (Nat.le_of_ble_eq_true rfl) ?_
  refine lv_aload_n hx hb dX9_init_4 rfl (lv_at hl 0 rfl) ?_
  refine lv_sipush (v := 16384) hx hb dX9_init_5 (by decide) ?_
  refine z_newi hC hI (List.mem_cons_of_mem _ zw3_15) 16384 (by decide +kernel) (by decide +kernel) (by decide +kernel) (Nat.le_of_ble_eq_true rfl) (Nat.le_of_ble_eq_true rfl) dX9_init_8 (fun q1 c1 H hI => ?_)
  have hI : zI st D [(c1, .int)] [(h0, .inr (11, [.int 0, .int 0, .null, .null, .null, .null])), (q1, .inl (c1, 16384, .inl (fun _ => 0)))] A s H _ := hI
  refine z_putF hC hnm hI (w1 := [(h0, .inr (11, [.int 0, .int 0, .ref q1, .null, .null, .null])), (q1, .inl (c1, 16384, .inl (fun _ => 0)))]) (fun w h => List.mem_cons_of_mem _ (inlX9 w h)) tyX9_ok nmX9 0 rfl rfl 2 (by decide) (List.mem_cons_of_mem _ zw4_6) rfl rfl rfl rfl (Nat.le_of_ble_eq_true rfl) rfl dX9_init_10 (fun H locs hI => ?_)
  refine lv_aload_n hx hb dX9_init_13 rfl (lv_at hl 0 rfl) ?_
  refine lv_sipush (v := 16384) hx hb dX9_init_14 (by decide) ?_
  refine z_newi hC hI (List.mem_cons_of_mem _ zw3_15) 16384 (by decide +kernel) (by decide +kernel) (by decide +kernel) (Nat.le_of_ble_eq_true rfl) (Nat.le_of_ble_eq_true rfl) dX9_init_17 (fun q2 c2 H hI => ?_)
  have hI : zI st D [(c1, .int), (c2, .int)] [(h0, .inr (11, [.int 0, .int 0, .ref q1, .null, .null, .null])), (q1, .inl (c1, 16384, .inl (fun _ => 0))), (q2, .inl (c2, 16384, .inl (fun _ => 0)))] A s H _ := hI
  refine z_putF hC hnm hI (w1 := [(h0, .inr (11, [.int 0, .int 0, .ref q1, .ref q2, .null, .null])), (q1, .inl (c1, 16384, .inl (fun _ => 0))), (q2, .inl (c2, 16384, .inl (fun _ => 0)))]) (fun w h => List.mem_cons_of_mem _ (inlX9 w h)) tyX9_ok nmX9 0 rfl rfl 3 (by decide) (List.mem_cons_of_mem _ zw4_7) rfl rfl rfl rfl (Nat.le_of_ble_eq_true rfl) rfl dX9_init_19 (fun H locs hI => ?_)
  refine lv_aload_n hx hb dX9_init_22 rfl (lv_at hl 0 rfl) ?_
  refine lv_bipush (v := 96) hx hb dX9_init_23 (by decide) ?_
  refine z_newi hC hI (List.mem_cons_of_mem _ zw3_15) 96 (by decide +kernel) (by decide +kernel) (by decide +kernel) (Nat.le_of_ble_eq_true rfl) (Nat.le_of_ble_eq_true rfl) dX9_init_25 (fun q3 c3 H hI => ?_)
  have hI : zI st D [(c1, .int), (c2, .int), (c3, .int)] [(h0, .inr (11, [.int 0, .int 0, .ref q1, .ref q2, .null, .null])), (q1, .inl (c1, 16384, .inl (fun _ => 0))), (q2, .inl (c2, 16384, .inl (fun _ => 0))), (q3, .inl (c3, 96, .inl (fun _ => 0)))] A s H _ := hI
  refine z_putF hC hnm hI (w1 := [(h0, .inr (11, [.int 0, .int 0, .ref q1, .ref q2, .ref q3, .null])), (q1, .inl (c1, 16384, .inl (fun _ => 0))), (q2, .inl (c2, 16384, .inl (fun _ => 0))), (q3, .inl (c3, 96, .inl (fun _ => 0)))]) (fun w h => List.mem_cons_of_mem _ (inlX9 w h)) tyX9_ok nmX9 0 rfl rfl 4 (by decide) (List.mem_cons_of_mem _ zw4_8) rfl rfl rfl rfl (Nat.le_of_ble_eq_true rfl) rfl dX9_init_27 (fun H locs hI => ?_)
  refine lv_aload_n hx hb dX9_init_30 rfl (lv_at hl 0 rfl) ?_
  refine lv_bipush (v := 96) hx hb dX9_init_31 (by decide) ?_
  refine z_newi hC hI (List.mem_cons_of_mem _ zw3_15) 96 (by decide +kernel) (by decide +kernel) (by decide +kernel) (Nat.le_of_ble_eq_true rfl) (Nat.le_of_ble_eq_true rfl) dX9_init_33 (fun q4 c4 H hI => ?_)
  have hI : zI st D [(c1, .int), (c2, .int), (c3, .int), (c4, .int)] [(h0, .inr (11, [.int 0, .int 0, .ref q1, .ref q2, .ref q3, .null])), (q1, .inl (c1, 16384, .inl (fun _ => 0))), (q2, .inl (c2, 16384, .inl (fun _ => 0))), (q3, .inl (c3, 96, .inl (fun _ => 0))), (q4, .inl (c4, 96, .inl (fun _ => 0)))] A s H _ := hI
  refine z_putF hC hnm hI (w1 := [(h0, .inr (11, [.int 0, .int 0, .ref q1, .ref q2, .ref q3, .ref q4])), (q1, .inl (c1, 16384, .inl (fun _ => 0))), (q2, .inl (c2, 16384, .inl (fun _ => 0))), (q3, .inl (c3, 96, .inl (fun _ => 0))), (q4, .inl (c4, 96, .inl (fun _ => 0)))]) (fun w h => List.mem_cons_of_mem _ (inlX9 w h)) tyX9_ok nmX9 0 rfl rfl 5 (by decide) (List.mem_cons_of_mem _ zw4_9) rfl rfl rfl rfl (Nat.le_of_ble_eq_true rfl) rfl dX9_init_35 (fun H locs hI => ?_)
  refine lv_aload_n hx hb dX9_init_38 rfl (lv_at hl 0 rfl) ?_
  refine lv_iload_n hx hb dX9_init_39 rfl (lv_at hl 1 rfl) ?_
  refine z_putF hC hnm hI (w1 := [(h0, .inr (11, [.int x1, .int 0, .ref q1, .ref q2, .ref q3, .ref q4])), (q1, .inl (c1, 16384, .inl (fun _ => 0))), (q2, .inl (c2, 16384, .inl (fun _ => 0))), (q3, .inl (c3, 96, .inl (fun _ => 0))), (q4, .inl (c4, 96, .inl (fun _ => 0)))]) (fun w h => List.mem_cons_of_mem _ (inlX9 w h)) tyX9_ok nmX9 0 rfl rfl 0 (by decide) (List.mem_cons_of_mem _ zw4_10) rfl rfl (zbo_n hz1) (zbo_f hz1) (Nat.le_of_ble_eq_true rfl) rfl dX9_init_40 (fun H locs hI => ?_)
  refine lv_aload_n hx hb dX9_init_43 rfl (lv_at hl 0 rfl) ?_
  refine lv_iload_n hx hb dX9_init_44 rfl (lv_at hl 2 rfl) ?_
  refine z_putF hC hnm hI (w1 := [(h0, .inr (11, [.int x1, .int x2, .ref q1, .ref q2, .ref q3, .ref q4])), (q1, .inl (c1, 16384, .inl (fun _ => 0))), (q2, .inl (c2, 16384, .inl (fun _ => 0))), (q3, .inl (c3, 96, .inl (fun _ => 0))), (q4, .inl (c4, 96, .inl (fun _ => 0)))]) (fun w h => List.mem_cons_of_mem _ (inlX9 w h)) tyX9_ok nmX9 0 rfl rfl 1 (by decide) (List.mem_cons_of_mem _ zw4_11) rfl rfl rfl rfl (Nat.le_of_ble_eq_true rfl) rfl dX9_init_45 (fun H locs hI => ?_)
  obtain ⟨ad, had⟩ : ∃ f : Nat → Nat, f = (fun j => if j = 2 then h0 else if j = 21 then q1 else if j = 22 then q2 else if j = 23 then q3 else if j = 24 then q4 else 0) := ⟨_, rfl⟩
  obtain ⟨cy, hcy⟩ : ∃ f : Nat → ClassId, f = (fun j => if j = 21 then c1 else if j = 22 then c2 else if j = 23 then c3 else if j = 24 then c4 else 0) := ⟨_, rfl⟩
  have e2 : h0 = ad 2 := by rw [had]; rfl
  have e21 : q1 = ad 21 := by rw [had]; rfl
  have e22 : q2 = ad 22 := by rw [had]; rfl
  have e23 : q3 = ad 23 := by rw [had]; rfl
  have e24 : q4 = ad 24 := by rw [had]; rfl
  have hI : zI st D (tN2 cy) (wN2 ad cy (zsi (zsi zS0 2 0 x1) 2 1 x2)) A s H locs := by rw [had, hcy]; exact hI
  exact z_nreturn0 (wn := fun ad cy => wN2 ad cy (zsi (zsi zS0 2 0 x1) 2 1 x2)) (tn := tN2) (ex := fun f => h0 = f 2) hC ad cy hI e2 (Nat.le_refl _) (Nat.le_refl _) dX9_init_48
theorem hdX9_init : yX9_init.cls ≠ "java/lang/invoke/MethodHandle" ∧ yX9_init.cls ≠ "java/lang/invoke/VarHandle" ∧ (parseMethodDescriptor yX9_init.desc).map (fun d => d.parameters.length) = some 2 := by decide +kernel
noncomputable def rmX3_init : Room := { frames := 1, cells := 5, slots := 123424, locals := 20 }
noncomputable def wzX3_init : List Cond := .code yX3_init cX3_init 3 none :: wsL_law
noncomputable def kn_cX3_init : Nat := 0xb11e00b51c2a1a00b52b2a1700b50abc20102a1400b50abc0001112a1100b50abc0001112a0e00b50abc09122a0a00b50abc09122a0100b72a
theorem zk_cX3_init : zkd cX3_init.data.toList kn_cX3_init = true := by decide +kernel
theorem zn_cX3_init : cX3_init.data.toList.length = 57 := by decide +kernel
theorem dX3_init_0 : decode cX3_init 0 = .ok (.aload_n 0, 1) := zo_42 (zkb zk_cX3_init zn_cX3_init rfl)
theorem dX3_init_1 : decode cX3_init 1 = .ok (.invokespecial 1, 3) := zo_183 (b1 := 0) (b2 := 1) (zkb3 zk_cX3_init zn_cX3_init rfl) rfl
theorem dX3_init_4 : decode cX3_init 4 = .ok (.aload_n 0, 1) := zo_42 (zkb zk_cX3_init zn_cX3_init rfl)
theorem dX3_init_5 : decode cX3_init 5 = .ok (.ldc 9, 2) := zo_18 (b1 := 9) (zkb2 zk_cX3_init zn_cX3_init rfl)
theorem dX3_init_7 : decode cX3_init 7 = .ok (.newarray .int, 2) := by decide +kernel
theorem dX3_init_9 : decode cX3_init 9 = .ok (.putfield 10, 3) := zo_181 (b1 := 0) (b2 := 10) (zkb3 zk_cX3_init zn_cX3_init rfl) rfl
theorem dX3_init_12 : decode cX3_init 12 = .ok (.aload_n 0, 1) := zo_42 (zkb zk_cX3_init zn_cX3_init rfl)
theorem dX3_init_13 : decode cX3_init 13 = .ok (.ldc 9, 2) := zo_18 (b1 := 9) (zkb2 zk_cX3_init zn_cX3_init rfl)
theorem dX3_init_15 : decode cX3_init 15 = .ok (.newarray .int, 2) := by decide +kernel
theorem dX3_init_17 : decode cX3_init 17 = .ok (.putfield 14, 3) := zo_181 (b1 := 0) (b2 := 14) (zkb3 zk_cX3_init zn_cX3_init rfl) rfl
theorem dX3_init_20 : decode cX3_init 20 = .ok (.aload_n 0, 1) := zo_42 (zkb zk_cX3_init zn_cX3_init rfl)
theorem dX3_init_21 : decode cX3_init 21 = .ok (.sipush 256, 3) := zo_17 (b1 := 1) (b2 := 0) (zkb3 zk_cX3_init zn_cX3_init rfl) rfl
theorem dX3_init_24 : decode cX3_init 24 = .ok (.newarray .int, 2) := by decide +kernel
theorem dX3_init_26 : decode cX3_init 26 = .ok (.putfield 17, 3) := zo_181 (b1 := 0) (b2 := 17) (zkb3 zk_cX3_init zn_cX3_init rfl) rfl
theorem dX3_init_29 : decode cX3_init 29 = .ok (.aload_n 0, 1) := zo_42 (zkb zk_cX3_init zn_cX3_init rfl)
theorem dX3_init_30 : decode cX3_init 30 = .ok (.sipush 256, 3) := zo_17 (b1 := 1) (b2 := 0) (zkb3 zk_cX3_init zn_cX3_init rfl) rfl
theorem dX3_init_33 : decode cX3_init 33 = .ok (.newarray .int, 2) := by decide +kernel
theorem dX3_init_35 : decode cX3_init 35 = .ok (.putfield 20, 3) := zo_181 (b1 := 0) (b2 := 20) (zkb3 zk_cX3_init zn_cX3_init rfl) rfl
theorem dX3_init_38 : decode cX3_init 38 = .ok (.aload_n 0, 1) := zo_42 (zkb zk_cX3_init zn_cX3_init rfl)
theorem dX3_init_39 : decode cX3_init 39 = .ok (.bipush 32, 2) := zo_16 (b1 := 32) (zkb2 zk_cX3_init zn_cX3_init rfl) rfl
theorem dX3_init_41 : decode cX3_init 41 = .ok (.newarray .int, 2) := by decide +kernel
theorem dX3_init_43 : decode cX3_init 43 = .ok (.putfield 23, 3) := zo_181 (b1 := 0) (b2 := 23) (zkb3 zk_cX3_init zn_cX3_init rfl) rfl
theorem dX3_init_46 : decode cX3_init 46 = .ok (.aload_n 0, 1) := zo_42 (zkb zk_cX3_init zn_cX3_init rfl)
theorem dX3_init_47 : decode cX3_init 47 = .ok (.aload_n 1, 1) := zo_43 (zkb zk_cX3_init zn_cX3_init rfl)
theorem dX3_init_48 : decode cX3_init 48 = .ok (.putfield 26, 3) := zo_181 (b1 := 0) (b2 := 26) (zkb3 zk_cX3_init zn_cX3_init rfl) rfl
theorem dX3_init_51 : decode cX3_init 51 = .ok (.aload_n 0, 1) := zo_42 (zkb zk_cX3_init zn_cX3_init rfl)
theorem dX3_init_52 : decode cX3_init 52 = .ok (.iload_n 2, 1) := zo_28 (zkb zk_cX3_init zn_cX3_init rfl)
theorem dX3_init_53 : decode cX3_init 53 = .ok (.putfield 30, 3) := zo_181 (b1 := 0) (b2 := 30) (zkb3 zk_cX3_init zn_cX3_init rfl) rfl
theorem dX3_init_56 : decode cX3_init 56 = .ok (.return_, 1) := zo_177 (zkb zk_cX3_init zn_cX3_init rfl)
set_option maxRecDepth 20000 in
set_option maxHeartbeats 4000000 in
theorem cX3_init_met (st : Nat → Nat) (l : Launch) (D : va_G) (h0 : Nat) (a2 : Nat) (x2 : Int32) (hz2 : zbo x2 = true) (sz : Nat) : zN st l yX3_init wzX3_init rmX3_init [.ref h0, .ref a2, .int x2] D [(h0, .inr (5, [.null, .int 0, .null, .null, .null, .null, .null, .int 0, .int 0]))] sz (fun ad cy => wN3 ad cy (zsi zS0 3 1 x2)) tN3 (fun f => h0 = f 3 ∧ a2 = f 2) 5 123424 := by
  refine zN.of (cc := cX3_init) (maxL := 3) (by decide) rfl rfl (Nat.le_of_ble_eq_true rfl) (fun p e s m args below meth c hC hnm A hI ls hl => ?_)
  have hx := hC.1
  have hb := hC.2.1
  refine lv_aload_n hx hb dX3_init_0 rfl (lv_at hl 0 rfl) ?_
  refine z_objInit hC hl (List.mem_cons_of_mem _ zw4_15) (List.mem_cons_of_mem _ zw1_16) (List.mem_cons_of_mem _ zw1_17) dX3_init_1 (Nat.le_of_ble_eq_true rfl) (Nat.le_of_ble_eq_true rfl) ?_
  refine lv_aload_n hx hb dX3_init_4 rfl (lv_at hl 0 rfl) ?_
  refine lv_ldc (v := 61440) hx hb hC.2.2.2.1 (hC.2.2.2.2.1 _ (List.mem_cons_of_mem _ zw4_16)) dX3_init_5 ?_
  refine z_newi hC hI (List.mem_cons_of_mem _ zw3_15) 61440 (by decide +kernel) (by decide +kernel) (by decide +kernel) (Nat.le_of_ble_eq_true rfl) (Nat.le_of_ble_eq_true rfl) dX3_init_7 (fun q1 c1 H hI => ?_)
  have hI : zI st D [(c1, .int)] [(h0, .inr (5, [.null, .int 0, .null, .null, .null, .null, .null, .int 0, .int 0])), (q1, .inl (c1, 61440, .inl (fun _ => 0)))] A s H _ := hI
  refine z_putF hC hnm hI (w1 := [(h0, .inr (5, [.null, .int 0, .ref q1, .null, .null, .null, .null, .int 0, .int 0])), (q1, .inl (c1, 61440, .inl (fun _ => 0)))]) (fun w h => List.mem_cons_of_mem _ (inlX3 w h)) tyX3_ok nmX3 0 rfl rfl 2 (by decide) (List.mem_cons_of_mem _ zw4_17) rfl rfl rfl rfl (Nat.le_of_ble_eq_true rfl) rfl dX3_init_9 (fun H locs hI => ?_)
  refine lv_aload_n hx hb dX3_init_12 rfl (lv_at hl 0 rfl) ?_
  refine lv_ldc (v := 61440) hx hb hC.2.2.2.1 (hC.2.2.2.2.1 _ (List.mem_cons_of_mem _ zw4_16)) dX3_init_13 ?_
  refine z_newi hC hI (List.mem_cons_of_mem _ zw3_15) 61440 (by decide +kernel) (by decide +kernel) (by decide +kernel) (Nat.le_of_ble_eq_true rfl) (Nat.le_of_ble_eq_true rfl) dX3_init_15 (fun q2 c2 H hI => ?_)
  have hI : zI st D [(c1, .int), (c2, .int)] [(h0, .inr (5, [.null, .int 0, .ref q1, .null, .null, .null, .null, .int 0, .int 0])), (q1, .inl (c1, 61440, .inl (fun _ => 0))), (q2, .inl (c2, 61440, .inl (fun _ => 0)))] A s H _ := hI
  refine z_putF hC hnm hI (w1 := [(h0, .inr (5, [.null, .int 0, .ref q1, .ref q2, .null, .null, .null, .int 0, .int 0])), (q1, .inl (c1, 61440, .inl (fun _ => 0))), (q2, .inl (c2, 61440, .inl (fun _ => 0)))]) (fun w h => List.mem_cons_of_mem _ (inlX3 w h)) tyX3_ok nmX3 0 rfl rfl 3 (by decide) (List.mem_cons_of_mem _ zw4_18) rfl rfl rfl rfl (Nat.le_of_ble_eq_true rfl) rfl dX3_init_17 (fun H locs hI => ?_)
  refine lv_aload_n hx hb dX3_init_20 rfl (lv_at hl 0 rfl) ?_
  refine lv_sipush (v := 256) hx hb dX3_init_21 (by decide) ?_
  refine z_newi hC hI (List.mem_cons_of_mem _ zw3_15) 256 (by decide +kernel) (by decide +kernel) (by decide +kernel) (Nat.le_of_ble_eq_true rfl) (Nat.le_of_ble_eq_true rfl) dX3_init_24 (fun q3 c3 H hI => ?_)
  have hI : zI st D [(c1, .int), (c2, .int), (c3, .int)] [(h0, .inr (5, [.null, .int 0, .ref q1, .ref q2, .null, .null, .null, .int 0, .int 0])), (q1, .inl (c1, 61440, .inl (fun _ => 0))), (q2, .inl (c2, 61440, .inl (fun _ => 0))), (q3, .inl (c3, 256, .inl (fun _ => 0)))] A s H _ := hI
  refine z_putF hC hnm hI (w1 := [(h0, .inr (5, [.null, .int 0, .ref q1, .ref q2, .ref q3, .null, .null, .int 0, .int 0])), (q1, .inl (c1, 61440, .inl (fun _ => 0))), (q2, .inl (c2, 61440, .inl (fun _ => 0))), (q3, .inl (c3, 256, .inl (fun _ => 0)))]) (fun w h => List.mem_cons_of_mem _ (inlX3 w h)) tyX3_ok nmX3 0 rfl rfl 4 (by decide) (List.mem_cons_of_mem _ zw4_19) rfl rfl rfl rfl (Nat.le_of_ble_eq_true rfl) rfl dX3_init_26 (fun H locs hI => ?_)
  refine lv_aload_n hx hb dX3_init_29 rfl (lv_at hl 0 rfl) ?_
  refine lv_sipush (v := 256) hx hb dX3_init_30 (by decide) ?_
  refine z_newi hC hI (List.mem_cons_of_mem _ zw3_15) 256 (by decide +kernel) (by decide +kernel) (by decide +kernel) (Nat.le_of_ble_eq_true rfl) (Nat.le_of_ble_eq_true rfl) dX3_init_33 (fun q4 c4 H hI => ?_)
  have hI : zI st D [(c1, .int), (c2, .int), (c3, .int), (c4, .int)] [(h0, .inr (5, [.null, .int 0, .ref q1, .ref q2, .ref q3, .null, .null, .int 0, .int 0])), (q1, .inl (c1, 61440, .inl (fun _ => 0))), (q2, .inl (c2, 61440, .inl (fun _ => 0))), (q3, .inl (c3, 256, .inl (fun _ => 0))), (q4, .inl (c4, 256, .inl (fun _ => 0)))] A s H _ := hI
  refine z_putF hC hnm hI (w1 := [(h0, .inr (5, [.null, .int 0, .ref q1, .ref q2, .ref q3, .ref q4, .null, .int 0, .int 0])), (q1, .inl (c1, 61440, .inl (fun _ => 0))), (q2, .inl (c2, 61440, .inl (fun _ => 0))), (q3, .inl (c3, 256, .inl (fun _ => 0))), (q4, .inl (c4, 256, .inl (fun _ => 0)))]) (fun w h => List.mem_cons_of_mem _ (inlX3 w h)) tyX3_ok nmX3 0 rfl rfl 5 (by decide) (List.mem_cons_of_mem _ zw4_20) rfl rfl rfl rfl (Nat.le_of_ble_eq_true rfl) rfl dX3_init_35 (fun H locs hI => ?_)
  refine lv_aload_n hx hb dX3_init_38 rfl (lv_at hl 0 rfl) ?_
  refine lv_bipush (v := 32) hx hb dX3_init_39 (by decide) ?_
  refine z_newi hC hI (List.mem_cons_of_mem _ zw3_15) 32 (by decide +kernel) (by decide +kernel) (by decide +kernel) (Nat.le_of_ble_eq_true rfl) (Nat.le_of_ble_eq_true rfl) dX3_init_41 (fun q5 c5 H hI => ?_)
  have hI : zI st D [(c1, .int), (c2, .int), (c3, .int), (c4, .int), (c5, .int)] [(h0, .inr (5, [.null, .int 0, .ref q1, .ref q2, .ref q3, .ref q4, .null, .int 0, .int 0])), (q1, .inl (c1, 61440, .inl (fun _ => 0))), (q2, .inl (c2, 61440, .inl (fun _ => 0))), (q3, .inl (c3, 256, .inl (fun _ => 0))), (q4, .inl (c4, 256, .inl (fun _ => 0))), (q5, .inl (c5, 32, .inl (fun _ => 0)))] A s H _ := hI
  refine z_putF hC hnm hI (w1 := [(h0, .inr (5, [.null, .int 0, .ref q1, .ref q2, .ref q3, .ref q4, .ref q5, .int 0, .int 0])), (q1, .inl (c1, 61440, .inl (fun _ => 0))), (q2, .inl (c2, 61440, .inl (fun _ => 0))), (q3, .inl (c3, 256, .inl (fun _ => 0))), (q4, .inl (c4, 256, .inl (fun _ => 0))), (q5, .inl (c5, 32, .inl (fun _ => 0)))]) (fun w h => List.mem_cons_of_mem _ (inlX3 w h)) tyX3_ok nmX3 0 rfl rfl 6 (by decide) (List.mem_cons_of_mem _ zw4_21) rfl rfl rfl rfl (Nat.le_of_ble_eq_true rfl) rfl dX3_init_43 (fun H locs hI => ?_)
  refine lv_aload_n hx hb dX3_init_46 rfl (lv_at hl 0 rfl) ?_
  refine lv_aload_n hx hb dX3_init_47 rfl (lv_at hl 1 rfl) ?_
  refine z_putF hC hnm hI (w1 := [(h0, .inr (5, [.ref a2, .int 0, .ref q1, .ref q2, .ref q3, .ref q4, .ref q5, .int 0, .int 0])), (q1, .inl (c1, 61440, .inl (fun _ => 0))), (q2, .inl (c2, 61440, .inl (fun _ => 0))), (q3, .inl (c3, 256, .inl (fun _ => 0))), (q4, .inl (c4, 256, .inl (fun _ => 0))), (q5, .inl (c5, 32, .inl (fun _ => 0)))]) (fun w h => List.mem_cons_of_mem _ (inlX3 w h)) tyX3_ok nmX3 0 rfl rfl 0 (by decide) (List.mem_cons_of_mem _ zw4_22) rfl rfl rfl rfl (Nat.le_of_ble_eq_true rfl) rfl dX3_init_48 (fun H locs hI => ?_)
  refine lv_aload_n hx hb dX3_init_51 rfl (lv_at hl 0 rfl) ?_
  refine lv_iload_n hx hb dX3_init_52 rfl (lv_at hl 2 rfl) ?_
  refine z_putF hC hnm hI (w1 := [(h0, .inr (5, [.ref a2, .int x2, .ref q1, .ref q2, .ref q3, .ref q4, .ref q5, .int 0, .int 0])), (q1, .inl (c1, 61440, .inl (fun _ => 0))), (q2, .inl (c2, 61440, .inl (fun _ => 0))), (q3, .inl (c3, 256, .inl (fun _ => 0))), (q4, .inl (c4, 256, .inl (fun _ => 0))), (q5, .inl (c5, 32, .inl (fun _ => 0)))]) (fun w h => List.mem_cons_of_mem _ (inlX3 w h)) tyX3_ok nmX3 0 rfl rfl 1 (by decide) (List.mem_cons_of_mem _ zw4_23) rfl rfl (zbo_n hz2) (zbo_f hz2) (Nat.le_of_ble_eq_true rfl) rfl dX3_init_53 (fun H locs hI => ?_)
  obtain ⟨ad, had⟩ : ∃ f : Nat → Nat, f = (fun j => if j = 3 then h0 else if j = 25 then q1 else if j = 26 then q2 else if j = 27 then q3 else if j = 28 then q4 else if j = 29 then q5 else if j = 2 then a2 else 0) := ⟨_, rfl⟩
  obtain ⟨cy, hcy⟩ : ∃ f : Nat → ClassId, f = (fun j => if j = 25 then c1 else if j = 26 then c2 else if j = 27 then c3 else if j = 28 then c4 else if j = 29 then c5 else 0) := ⟨_, rfl⟩
  have e3 : h0 = ad 3 := by rw [had]; rfl
  have e25 : q1 = ad 25 := by rw [had]; rfl
  have e26 : q2 = ad 26 := by rw [had]; rfl
  have e27 : q3 = ad 27 := by rw [had]; rfl
  have e28 : q4 = ad 28 := by rw [had]; rfl
  have e29 : q5 = ad 29 := by rw [had]; rfl
  have e2 : a2 = ad 2 := by rw [had]; rfl
  have hI : zI st D (tN3 cy) (wN3 ad cy (zsi zS0 3 1 x2)) A s H locs := by rw [had, hcy]; exact hI
  exact z_nreturn0 (wn := fun ad cy => wN3 ad cy (zsi zS0 3 1 x2)) (tn := tN3) (ex := fun f => h0 = f 3 ∧ a2 = f 2) hC ad cy hI ⟨e3, e2⟩ (Nat.le_refl _) (Nat.le_refl _) dX3_init_56
theorem hdX3_init : yX3_init.cls ≠ "java/lang/invoke/MethodHandle" ∧ yX3_init.cls ≠ "java/lang/invoke/VarHandle" ∧ (parseMethodDescriptor yX3_init.desc).map (fun d => d.parameters.length) = some 2 := by decide +kernel
noncomputable def rmX7_init : Room := { frames := 3, cells := 2, slots := 38, locals := 66 }
noncomputable def wzX7_init : List Cond := .code yX7_init cX7_init 1 none :: wsL_law
noncomputable def kn_cX7_init : Nat := 0xb11000b62a0d00b50abc13102a0900b50abc13102a0100b72a
theorem zk_cX7_init : zkd cX7_init.data.toList kn_cX7_init = true := by decide +kernel
theorem zn_cX7_init : cX7_init.data.toList.length = 25 := by decide +kernel
theorem dX7_init_0 : decode cX7_init 0 = .ok (.aload_n 0, 1) := zo_42 (zkb zk_cX7_init zn_cX7_init rfl)
theorem dX7_init_1 : decode cX7_init 1 = .ok (.invokespecial 1, 3) := zo_183 (b1 := 0) (b2 := 1) (zkb3 zk_cX7_init zn_cX7_init rfl) rfl
theorem dX7_init_4 : decode cX7_init 4 = .ok (.aload_n 0, 1) := zo_42 (zkb zk_cX7_init zn_cX7_init rfl)
theorem dX7_init_5 : decode cX7_init 5 = .ok (.bipush 19, 2) := zo_16 (b1 := 19) (zkb2 zk_cX7_init zn_cX7_init rfl) rfl
theorem dX7_init_7 : decode cX7_init 7 = .ok (.newarray .int, 2) := by decide +kernel
theorem dX7_init_9 : decode cX7_init 9 = .ok (.putfield 9, 3) := zo_181 (b1 := 0) (b2 := 9) (zkb3 zk_cX7_init zn_cX7_init rfl) rfl
theorem dX7_init_12 : decode cX7_init 12 = .ok (.aload_n 0, 1) := zo_42 (zkb zk_cX7_init zn_cX7_init rfl)
theorem dX7_init_13 : decode cX7_init 13 = .ok (.bipush 19, 2) := zo_16 (b1 := 19) (zkb2 zk_cX7_init zn_cX7_init rfl) rfl
theorem dX7_init_15 : decode cX7_init 15 = .ok (.newarray .int, 2) := by decide +kernel
theorem dX7_init_17 : decode cX7_init 17 = .ok (.putfield 13, 3) := zo_181 (b1 := 0) (b2 := 13) (zkb3 zk_cX7_init zn_cX7_init rfl) rfl
theorem dX7_init_20 : decode cX7_init 20 = .ok (.aload_n 0, 1) := zo_42 (zkb zk_cX7_init zn_cX7_init rfl)
theorem dX7_init_21 : decode cX7_init 21 = .ok (.invokevirtual 16, 3) := zo_182 (b1 := 0) (b2 := 16) (zkb3 zk_cX7_init zn_cX7_init rfl) rfl
theorem dX7_init_24 : decode cX7_init 24 = .ok (.return_, 1) := zo_177 (zkb zk_cX7_init zn_cX7_init rfl)
set_option maxRecDepth 20000 in
set_option maxHeartbeats 4000000 in
theorem cX7_init_met (st : Nat → Nat) (l : Launch) (D : va_G) (h0 : Nat)  (σ1 : zSt) (hf : fX7_clear zS0 = some σ1) (sz : Nat) : zN st l yX7_init wzX7_init rmX7_init [.ref h0] D [(h0, .inr (9, [.null, .null]))] sz (fun ad cy => wN4 ad cy σ1) tN4 (fun f => h0 = f 4) 2 38 := by
  refine zN.of (cc := cX7_init) (maxL := 1) (by decide) rfl rfl (Nat.le_of_ble_eq_true rfl) (fun p e s m args below meth c hC hnm A hI ls hl => ?_)
  have hx := hC.1
  have hb := hC.2.1
  refine lv_aload_n hx hb dX7_init_0 rfl (lv_at hl 0 rfl) ?_
  refine z_objInit hC hl (List.mem_cons_of_mem _ zw5_3) (List.mem_cons_of_mem _ zw1_16) (List.mem_cons_of_mem _ zw1_17) dX7_init_1 (Nat.le_of_ble_eq_true rfl) (Nat.le_of_ble_eq_true rfl) ?_
  refine lv_aload_n hx hb dX7_init_4 rfl (lv_at hl 0 rfl) ?_
  refine lv_bipush (v := 19) hx hb dX7_init_5 (by decide) ?_
  refine z_newi hC hI (List.mem_cons_of_mem _ zw3_15) 19 (by decide +kernel) (by decide +kernel) (by decide +kernel) (Nat.le_of_ble_eq_true rfl) (Nat.le_of_ble_eq_true rfl) dX7_init_7 (fun q1 c1 H hI => ?_)
  have hI : zI st D [(c1, .int)] [(h0, .inr (9, [.null, .null])), (q1, .inl (c1, 19, .inl (fun _ => 0)))] A s H _ := hI
  refine z_putF hC hnm hI (w1 := [(h0, .inr (9, [.ref q1, .null])), (q1, .inl (c1, 19, .inl (fun _ => 0)))]) (fun w h => List.mem_cons_of_mem _ (inlX7 w h)) tyX7_ok nmX7 0 rfl rfl 0 (by decide) (List.mem_cons_of_mem _ zw5_4) rfl rfl rfl rfl (Nat.le_of_ble_eq_true rfl) rfl dX7_init_9 (fun H locs hI => ?_)
  refine lv_aload_n hx hb dX7_init_12 rfl (lv_at hl 0 rfl) ?_
  refine lv_bipush (v := 19) hx hb dX7_init_13 (by decide) ?_
  refine z_newi hC hI (List.mem_cons_of_mem _ zw3_15) 19 (by decide +kernel) (by decide +kernel) (by decide +kernel) (Nat.le_of_ble_eq_true rfl) (Nat.le_of_ble_eq_true rfl) dX7_init_15 (fun q2 c2 H hI => ?_)
  have hI : zI st D [(c1, .int), (c2, .int)] [(h0, .inr (9, [.ref q1, .null])), (q1, .inl (c1, 19, .inl (fun _ => 0))), (q2, .inl (c2, 19, .inl (fun _ => 0)))] A s H _ := hI
  refine z_putF hC hnm hI (w1 := [(h0, .inr (9, [.ref q1, .ref q2])), (q1, .inl (c1, 19, .inl (fun _ => 0))), (q2, .inl (c2, 19, .inl (fun _ => 0)))]) (fun w h => List.mem_cons_of_mem _ (inlX7 w h)) tyX7_ok nmX7 0 rfl rfl 1 (by decide) (List.mem_cons_of_mem _ zw5_5) rfl rfl rfl rfl (Nat.le_of_ble_eq_true rfl) rfl dX7_init_17 (fun H locs hI => ?_)
  refine lv_aload_n hx hb dX7_init_20 rfl (lv_at hl 0 rfl) ?_
  obtain ⟨ad, had⟩ : ∃ f : Nat → Nat, f = (fun j => if j = 4 then h0 else if j = 30 then q1 else if j = 31 then q2 else 0) := ⟨_, rfl⟩
  obtain ⟨cy, hcy⟩ : ∃ f : Nat → ClassId, f = (fun j => if j = 30 then c1 else if j = 31 then c2 else 0) := ⟨_, rfl⟩
  have e4 : h0 = ad 4 := by rw [had]; rfl
  have e30 : q1 = ad 30 := by rw [had]; rfl
  have e31 : q2 = ad 31 := by rw [had]; rfl
  have hI : zI st D (tN4 cy) (wN4 ad cy zS0) A s H locs := by rw [had, hcy]; exact hI
  refine z_callVu (As := []) (rest := []) hC hI (cX7_clear_w4_met st l D ad cy zS0 σ1 hf) (zgV zw5_6 zw5_7 zw5_8 zw2_9 zw5_9) rfl ⟨rfl, rfl⟩ 0 hdX7_clear_w4 ⟨Nat.le_of_ble_eq_true rfl, Nat.le_of_ble_eq_true rfl⟩ rfl rfl (wN4_e4 ad cy zS0) rfl hl (by rw [e4]; rfl) (Nat.le_of_ble_eq_true rfl) dX7_init_21 ⟨Nat.le_of_ble_eq_true rfl, Nat.le_of_ble_eq_true rfl⟩ (fun H locs hI => ?_)
  exact z_nreturn0 (wn := fun ad cy => wN4 ad cy σ1) (tn := tN4) (ex := fun f => h0 = f 4) hC ad cy hI e4 (Nat.le_refl _) (Nat.le_refl _) dX7_init_24
theorem hdX7_init : yX7_init.cls ≠ "java/lang/invoke/MethodHandle" ∧ yX7_init.cls ≠ "java/lang/invoke/VarHandle" ∧ (parseMethodDescriptor yX7_init.desc).map (fun d => d.parameters.length) = some 0 := by decide +kernel
noncomputable def rmX10_init : Room := { frames := 2, cells := 2, slots := 544, locals := 45 }
noncomputable def wzX10_init : List Cond := .code yX10_init cX10_init 1 none :: wsL_law
noncomputable def kn_cX10_init : Nat := 0xb11000b62a0d00b50abc1001112a0900b50abc1001112a0100b72a
theorem zk_cX10_init : zkd cX10_init.data.toList kn_cX10_init = true := by decide +kernel
theorem zn_cX10_init : cX10_init.data.toList.length = 27 := by decide +kernel
theorem dX10_init_0 : decode cX10_init 0 = .ok (.aload_n 0, 1) := zo_42 (zkb zk_cX10_init zn_cX10_init rfl)
theorem dX10_init_1 : decode cX10_init 1 = .ok (.invokespecial 1, 3) := zo_183 (b1 := 0) (b2 := 1) (zkb3 zk_cX10_init zn_cX10_init rfl) rfl
theorem dX10_init_4 : decode cX10_init 4 = .ok (.aload_n 0, 1) := zo_42 (zkb zk_cX10_init zn_cX10_init rfl)
theorem dX10_init_5 : decode cX10_init 5 = .ok (.sipush 272, 3) := zo_17 (b1 := 1) (b2 := 16) (zkb3 zk_cX10_init zn_cX10_init rfl) rfl
theorem dX10_init_8 : decode cX10_init 8 = .ok (.newarray .int, 2) := by decide +kernel
theorem dX10_init_10 : decode cX10_init 10 = .ok (.putfield 9, 3) := zo_181 (b1 := 0) (b2 := 9) (zkb3 zk_cX10_init zn_cX10_init rfl) rfl
theorem dX10_init_13 : decode cX10_init 13 = .ok (.aload_n 0, 1) := zo_42 (zkb zk_cX10_init zn_cX10_init rfl)
theorem dX10_init_14 : decode cX10_init 14 = .ok (.sipush 272, 3) := zo_17 (b1 := 1) (b2 := 16) (zkb3 zk_cX10_init zn_cX10_init rfl) rfl
theorem dX10_init_17 : decode cX10_init 17 = .ok (.newarray .int, 2) := by decide +kernel
theorem dX10_init_19 : decode cX10_init 19 = .ok (.putfield 13, 3) := zo_181 (b1 := 0) (b2 := 13) (zkb3 zk_cX10_init zn_cX10_init rfl) rfl
theorem dX10_init_22 : decode cX10_init 22 = .ok (.aload_n 0, 1) := zo_42 (zkb zk_cX10_init zn_cX10_init rfl)
theorem dX10_init_23 : decode cX10_init 23 = .ok (.invokevirtual 16, 3) := zo_182 (b1 := 0) (b2 := 16) (zkb3 zk_cX10_init zn_cX10_init rfl) rfl
theorem dX10_init_26 : decode cX10_init 26 = .ok (.return_, 1) := zo_177 (zkb zk_cX10_init zn_cX10_init rfl)
set_option maxRecDepth 20000 in
set_option maxHeartbeats 4000000 in
theorem cX10_init_met (st : Nat → Nat) (l : Launch) (D : va_G) (h0 : Nat)  (σ1 : zSt) (hf : fX10_clear zS0 = some σ1) (sz : Nat) : zN st l yX10_init wzX10_init rmX10_init [.ref h0] D [(h0, .inr (12, [.null, .null, .int 0, .int 0, .int 0, .int 0, .long 0, .long 0]))] sz (fun ad cy => wN5 ad cy σ1) tN5 (fun f => h0 = f 5) 2 544 := by
  refine zN.of (cc := cX10_init) (maxL := 1) (by decide) rfl rfl (Nat.le_of_ble_eq_true rfl) (fun p e s m args below meth c hC hnm A hI ls hl => ?_)
  have hx := hC.1
  have hb := hC.2.1
  refine lv_aload_n hx hb dX10_init_0 rfl (lv_at hl 0 rfl) ?_
  refine z_objInit hC hl (List.mem_cons_of_mem _ zw6_3) (List.mem_cons_of_mem _ zw1_16) (List.mem_cons_of_mem _ zw1_17) dX10_init_1 (Nat.le_of_ble_eq_true rfl) (Nat.le_of_ble_eq_true rfl) ?_
  refine lv_aload_n hx hb dX10_init_4 rfl (lv_at hl 0 rfl) ?_
  refine lv_sipush (v := 272) hx hb dX10_init_5 (by decide) ?_
  refine z_newi hC hI (List.mem_cons_of_mem _ zw3_15) 272 (by decide +kernel) (by decide +kernel) (by decide +kernel) (Nat.le_of_ble_eq_true rfl) (Nat.le_of_ble_eq_true rfl) dX10_init_8 (fun q1 c1 H hI => ?_)
  have hI : zI st D [(c1, .int)] [(h0, .inr (12, [.null, .null, .int 0, .int 0, .int 0, .int 0, .long 0, .long 0])), (q1, .inl (c1, 272, .inl (fun _ => 0)))] A s H _ := hI
  refine z_putF hC hnm hI (w1 := [(h0, .inr (12, [.ref q1, .null, .int 0, .int 0, .int 0, .int 0, .long 0, .long 0])), (q1, .inl (c1, 272, .inl (fun _ => 0)))]) (fun w h => List.mem_cons_of_mem _ (inlX10 w h)) tyX10_ok nmX10 0 rfl rfl 0 (by decide) (List.mem_cons_of_mem _ zw6_4) rfl rfl rfl rfl (Nat.le_of_ble_eq_true rfl) rfl dX10_init_10 (fun H locs hI => ?_)
  refine lv_aload_n hx hb dX10_init_13 rfl (lv_at hl 0 rfl) ?_
  refine lv_sipush (v := 272) hx hb dX10_init_14 (by decide) ?_
  refine z_newi hC hI (List.mem_cons_of_mem _ zw3_15) 272 (by decide +kernel) (by decide +kernel) (by decide +kernel) (Nat.le_of_ble_eq_true rfl) (Nat.le_of_ble_eq_true rfl) dX10_init_17 (fun q2 c2 H hI => ?_)
  have hI : zI st D [(c1, .int), (c2, .int)] [(h0, .inr (12, [.ref q1, .null, .int 0, .int 0, .int 0, .int 0, .long 0, .long 0])), (q1, .inl (c1, 272, .inl (fun _ => 0))), (q2, .inl (c2, 272, .inl (fun _ => 0)))] A s H _ := hI
  refine z_putF hC hnm hI (w1 := [(h0, .inr (12, [.ref q1, .ref q2, .int 0, .int 0, .int 0, .int 0, .long 0, .long 0])), (q1, .inl (c1, 272, .inl (fun _ => 0))), (q2, .inl (c2, 272, .inl (fun _ => 0)))]) (fun w h => List.mem_cons_of_mem _ (inlX10 w h)) tyX10_ok nmX10 0 rfl rfl 1 (by decide) (List.mem_cons_of_mem _ zw6_5) rfl rfl rfl rfl (Nat.le_of_ble_eq_true rfl) rfl dX10_init_19 (fun H locs hI => ?_)
  refine lv_aload_n hx hb dX10_init_22 rfl (lv_at hl 0 rfl) ?_
  obtain ⟨ad, had⟩ : ∃ f : Nat → Nat, f = (fun j => if j = 5 then h0 else if j = 32 then q1 else if j = 33 then q2 else 0) := ⟨_, rfl⟩
  obtain ⟨cy, hcy⟩ : ∃ f : Nat → ClassId, f = (fun j => if j = 32 then c1 else if j = 33 then c2 else 0) := ⟨_, rfl⟩
  have e5 : h0 = ad 5 := by rw [had]; rfl
  have e32 : q1 = ad 32 := by rw [had]; rfl
  have e33 : q2 = ad 33 := by rw [had]; rfl
  have hI : zI st D (tN5 cy) (wN5 ad cy zS0) A s H locs := by rw [had, hcy]; exact hI
  refine z_callVu (As := []) (rest := []) hC hI (cX10_clear_w5_met st l D ad cy zS0 σ1 hf) (zgV zw6_6 zw6_7 zw6_8 zw2_13 zw6_9) rfl ⟨rfl, rfl⟩ 0 hdX10_clear_w5 ⟨Nat.le_of_ble_eq_true rfl, Nat.le_of_ble_eq_true rfl⟩ rfl rfl (wN5_e5 ad cy zS0) rfl hl (by rw [e5]; rfl) (Nat.le_of_ble_eq_true rfl) dX10_init_23 ⟨Nat.le_of_ble_eq_true rfl, Nat.le_of_ble_eq_true rfl⟩ (fun H locs hI => ?_)
  exact z_nreturn0 (wn := fun ad cy => wN5 ad cy σ1) (tn := tN5) (ex := fun f => h0 = f 5) hC ad cy hI e5 (Nat.le_refl _) (Nat.le_refl _) dX10_init_26
theorem hdX10_init : yX10_init.cls ≠ "java/lang/invoke/MethodHandle" ∧ yX10_init.cls ≠ "java/lang/invoke/VarHandle" ∧ (parseMethodDescriptor yX10_init.desc).map (fun d => d.parameters.length) = some 0 := by decide +kernel
noncomputable def rmX4_init : Room := { frames := 1, cells := 2, slots := 24, locals := 20 }
noncomputable def wzX4_init : List Cond := .code yX4_init cX4_init 5 none :: wsL_law
noncomputable def kn_cX4_init : Nat := 0xb12000b62a4f040b100900b42a4f040a100900b42a1c00b504192a1800b52d2a1400b52c2a1000b51b2a0d00b50abc0c102a0900b50abc0c102a0100b72a
theorem zk_cX4_init : zkd cX4_init.data.toList kn_cX4_init = true := by decide +kernel
theorem zn_cX4_init : cX4_init.data.toList.length = 62 := by decide +kernel
theorem dX4_init_0 : decode cX4_init 0 = .ok (.aload_n 0, 1) := zo_42 (zkb zk_cX4_init zn_cX4_init rfl)
theorem dX4_init_1 : decode cX4_init 1 = .ok (.invokespecial 1, 3) := zo_183 (b1 := 0) (b2 := 1) (zkb3 zk_cX4_init zn_cX4_init rfl) rfl
theorem dX4_init_4 : decode cX4_init 4 = .ok (.aload_n 0, 1) := zo_42 (zkb zk_cX4_init zn_cX4_init rfl)
theorem dX4_init_5 : decode cX4_init 5 = .ok (.bipush 12, 2) := zo_16 (b1 := 12) (zkb2 zk_cX4_init zn_cX4_init rfl) rfl
theorem dX4_init_7 : decode cX4_init 7 = .ok (.newarray .int, 2) := by decide +kernel
theorem dX4_init_9 : decode cX4_init 9 = .ok (.putfield 9, 3) := zo_181 (b1 := 0) (b2 := 9) (zkb3 zk_cX4_init zn_cX4_init rfl) rfl
theorem dX4_init_12 : decode cX4_init 12 = .ok (.aload_n 0, 1) := zo_42 (zkb zk_cX4_init zn_cX4_init rfl)
theorem dX4_init_13 : decode cX4_init 13 = .ok (.bipush 12, 2) := zo_16 (b1 := 12) (zkb2 zk_cX4_init zn_cX4_init rfl) rfl
theorem dX4_init_15 : decode cX4_init 15 = .ok (.newarray .int, 2) := by decide +kernel
theorem dX4_init_17 : decode cX4_init 17 = .ok (.putfield 13, 3) := zo_181 (b1 := 0) (b2 := 13) (zkb3 zk_cX4_init zn_cX4_init rfl) rfl
theorem dX4_init_20 : decode cX4_init 20 = .ok (.aload_n 0, 1) := zo_42 (zkb zk_cX4_init zn_cX4_init rfl)
theorem dX4_init_21 : decode cX4_init 21 = .ok (.iload_n 1, 1) := zo_27 (zkb zk_cX4_init zn_cX4_init rfl)
theorem dX4_init_22 : decode cX4_init 22 = .ok (.putfield 16, 3) := zo_181 (b1 := 0) (b2 := 16) (zkb3 zk_cX4_init zn_cX4_init rfl) rfl
theorem dX4_init_25 : decode cX4_init 25 = .ok (.aload_n 0, 1) := zo_42 (zkb zk_cX4_init zn_cX4_init rfl)
theorem dX4_init_26 : decode cX4_init 26 = .ok (.aload_n 2, 1) := zo_44 (zkb zk_cX4_init zn_cX4_init rfl)
theorem dX4_init_27 : decode cX4_init 27 = .ok (.putfield 20, 3) := zo_181 (b1 := 0) (b2 := 20) (zkb3 zk_cX4_init zn_cX4_init rfl) rfl
theorem dX4_init_30 : decode cX4_init 30 = .ok (.aload_n 0, 1) := zo_42 (zkb zk_cX4_init zn_cX4_init rfl)
theorem dX4_init_31 : decode cX4_init 31 = .ok (.aload_n 3, 1) := zo_45 (zkb zk_cX4_init zn_cX4_init rfl)
theorem dX4_init_32 : decode cX4_init 32 = .ok (.putfield 24, 3) := zo_181 (b1 := 0) (b2 := 24) (zkb3 zk_cX4_init zn_cX4_init rfl) rfl
theorem dX4_init_35 : decode cX4_init 35 = .ok (.aload_n 0, 1) := zo_42 (zkb zk_cX4_init zn_cX4_init rfl)
theorem dX4_init_36 : decode cX4_init 36 = .ok (.aload 4, 2) := zo_25 (b1 := 4) (zkb2 zk_cX4_init zn_cX4_init rfl)
theorem dX4_init_38 : decode cX4_init 38 = .ok (.putfield 28, 3) := zo_181 (b1 := 0) (b2 := 28) (zkb3 zk_cX4_init zn_cX4_init rfl) rfl
theorem dX4_init_41 : decode cX4_init 41 = .ok (.aload_n 0, 1) := zo_42 (zkb zk_cX4_init zn_cX4_init rfl)
theorem dX4_init_42 : decode cX4_init 42 = .ok (.getfield 9, 3) := zo_180 (b1 := 0) (b2 := 9) (zkb3 zk_cX4_init zn_cX4_init rfl) rfl
theorem dX4_init_45 : decode cX4_init 45 = .ok (.bipush 10, 2) := zo_16 (b1 := 10) (zkb2 zk_cX4_init zn_cX4_init rfl) rfl
theorem dX4_init_47 : decode cX4_init 47 = .ok (.iconst 1, 1) := zo_4 (zkb zk_cX4_init zn_cX4_init rfl)
theorem dX4_init_48 : decode cX4_init 48 = .ok (.iastore, 1) := zo_79 (zkb zk_cX4_init zn_cX4_init rfl)
theorem dX4_init_49 : decode cX4_init 49 = .ok (.aload_n 0, 1) := zo_42 (zkb zk_cX4_init zn_cX4_init rfl)
theorem dX4_init_50 : decode cX4_init 50 = .ok (.getfield 9, 3) := zo_180 (b1 := 0) (b2 := 9) (zkb3 zk_cX4_init zn_cX4_init rfl) rfl
theorem dX4_init_53 : decode cX4_init 53 = .ok (.bipush 11, 2) := zo_16 (b1 := 11) (zkb2 zk_cX4_init zn_cX4_init rfl) rfl
theorem dX4_init_55 : decode cX4_init 55 = .ok (.iconst 1, 1) := zo_4 (zkb zk_cX4_init zn_cX4_init rfl)
theorem dX4_init_56 : decode cX4_init 56 = .ok (.iastore, 1) := zo_79 (zkb zk_cX4_init zn_cX4_init rfl)
theorem dX4_init_57 : decode cX4_init 57 = .ok (.aload_n 0, 1) := zo_42 (zkb zk_cX4_init zn_cX4_init rfl)
theorem dX4_init_58 : decode cX4_init 58 = .ok (.invokevirtual 32, 3) := zo_182 (b1 := 0) (b2 := 32) (zkb3 zk_cX4_init zn_cX4_init rfl) rfl
theorem dX4_init_61 : decode cX4_init 61 = .ok (.return_, 1) := zo_177 (zkb zk_cX4_init zn_cX4_init rfl)
set_option maxRecDepth 20000 in
set_option maxHeartbeats 4000000 in
theorem cX4_init_met (st : Nat → Nat) (l : Launch) (D : va_G) (h0 : Nat) (x1 : Int32) (a2 : Nat) (a4 : Nat) (a5 : Nat) (hz1 : zbo x1 = true) (σ1 : zSt) (hf : fX4_clear (zsi (zsi (zsi zS0 6 0 x1) 34 10 1) 34 11 1) = some σ1) (sz : Nat) : zN st l yX4_init wzX4_init rmX4_init [.ref h0, .int x1, .ref a2, .ref a4, .ref a5] D [(h0, .inr (6, [.int 0, .null, .null, .null, .null, .null]))] sz (fun ad cy => wN6 ad cy σ1) tN6 (fun f => h0 = f 6 ∧ a2 = f 2 ∧ a4 = f 4 ∧ a5 = f 5) 2 24 := by
  refine zN.of (cc := cX4_init) (maxL := 5) (by decide) rfl rfl (Nat.le_of_ble_eq_true rfl) (fun p e s m args below meth c hC hnm A hI ls hl => ?_)
  have hx := hC.1
  have hb := hC.2.1
  refine lv_aload_n hx hb dX4_init_0 rfl (lv_at hl 0 rfl) ?_
  refine z_objInit hC hl (List.mem_cons_of_mem _ zw6_14) (List.mem_cons_of_mem _ zw1_16) (List.mem_cons_of_mem _ zw1_17) dX4_init_1 (Nat.le_of_ble_eq_true rfl) (Nat.le_of_ble_eq_true rfl) ?_
  refine lv_aload_n hx hb dX4_init_4 rfl (lv_at hl 0 rfl) ?_
  refine lv_bipush (v := 12) hx hb dX4_init_5 (by decide) ?_
  refine z_newi hC hI (List.mem_cons_of_mem _ zw3_15) 12 (by decide +kernel) (by decide +kernel) (by decide +kernel) (Nat.le_of_ble_eq_true rfl) (Nat.le_of_ble_eq_true rfl) dX4_init_7 (fun q1 c1 H hI => ?_)
  have hI : zI st D [(c1, .int)] [(h0, .inr (6, [.int 0, .null, .null, .null, .null, .null])), (q1, .inl (c1, 12, .inl (fun _ => 0)))] A s H _ := hI
  refine z_putF hC hnm hI (w1 := [(h0, .inr (6, [.int 0, .null, .null, .null, .ref q1, .null])), (q1, .inl (c1, 12, .inl (fun _ => 0)))]) (fun w h => List.mem_cons_of_mem _ (inlX4 w h)) tyX4_ok nmX4 0 rfl rfl 4 (by decide) (List.mem_cons_of_mem _ zw6_15) rfl rfl rfl rfl (Nat.le_of_ble_eq_true rfl) rfl dX4_init_9 (fun H locs hI => ?_)
  refine lv_aload_n hx hb dX4_init_12 rfl (lv_at hl 0 rfl) ?_
  refine lv_bipush (v := 12) hx hb dX4_init_13 (by decide) ?_
  refine z_newi hC hI (List.mem_cons_of_mem _ zw3_15) 12 (by decide +kernel) (by decide +kernel) (by decide +kernel) (Nat.le_of_ble_eq_true rfl) (Nat.le_of_ble_eq_true rfl) dX4_init_15 (fun q2 c2 H hI => ?_)
  have hI : zI st D [(c1, .int), (c2, .int)] [(h0, .inr (6, [.int 0, .null, .null, .null, .ref q1, .null])), (q1, .inl (c1, 12, .inl (fun _ => 0))), (q2, .inl (c2, 12, .inl (fun _ => 0)))] A s H _ := hI
  refine z_putF hC hnm hI (w1 := [(h0, .inr (6, [.int 0, .null, .null, .null, .ref q1, .ref q2])), (q1, .inl (c1, 12, .inl (fun _ => 0))), (q2, .inl (c2, 12, .inl (fun _ => 0)))]) (fun w h => List.mem_cons_of_mem _ (inlX4 w h)) tyX4_ok nmX4 0 rfl rfl 5 (by decide) (List.mem_cons_of_mem _ zw6_16) rfl rfl rfl rfl (Nat.le_of_ble_eq_true rfl) rfl dX4_init_17 (fun H locs hI => ?_)
  refine lv_aload_n hx hb dX4_init_20 rfl (lv_at hl 0 rfl) ?_
  refine lv_iload_n hx hb dX4_init_21 rfl (lv_at hl 1 rfl) ?_
  refine z_putF hC hnm hI (w1 := [(h0, .inr (6, [.int x1, .null, .null, .null, .ref q1, .ref q2])), (q1, .inl (c1, 12, .inl (fun _ => 0))), (q2, .inl (c2, 12, .inl (fun _ => 0)))]) (fun w h => List.mem_cons_of_mem _ (inlX4 w h)) tyX4_ok nmX4 0 rfl rfl 0 (by decide) (List.mem_cons_of_mem _ zw6_17) rfl rfl (zbo_n hz1) (zbo_f hz1) (Nat.le_of_ble_eq_true rfl) rfl dX4_init_22 (fun H locs hI => ?_)
  refine lv_aload_n hx hb dX4_init_25 rfl (lv_at hl 0 rfl) ?_
  refine lv_aload_n hx hb dX4_init_26 rfl (lv_at hl 2 rfl) ?_
  refine z_putF hC hnm hI (w1 := [(h0, .inr (6, [.int x1, .ref a2, .null, .null, .ref q1, .ref q2])), (q1, .inl (c1, 12, .inl (fun _ => 0))), (q2, .inl (c2, 12, .inl (fun _ => 0)))]) (fun w h => List.mem_cons_of_mem _ (inlX4 w h)) tyX4_ok nmX4 0 rfl rfl 1 (by decide) (List.mem_cons_of_mem _ zw6_18) rfl rfl rfl rfl (Nat.le_of_ble_eq_true rfl) rfl dX4_init_27 (fun H locs hI => ?_)
  refine lv_aload_n hx hb dX4_init_30 rfl (lv_at hl 0 rfl) ?_
  refine lv_aload_n hx hb dX4_init_31 rfl (lv_at hl 3 rfl) ?_
  refine z_putF hC hnm hI (w1 := [(h0, .inr (6, [.int x1, .ref a2, .ref a4, .null, .ref q1, .ref q2])), (q1, .inl (c1, 12, .inl (fun _ => 0))), (q2, .inl (c2, 12, .inl (fun _ => 0)))]) (fun w h => List.mem_cons_of_mem _ (inlX4 w h)) tyX4_ok nmX4 0 rfl rfl 2 (by decide) (List.mem_cons_of_mem _ zw6_19) rfl rfl rfl rfl (Nat.le_of_ble_eq_true rfl) rfl dX4_init_32 (fun H locs hI => ?_)
  refine lv_aload_n hx hb dX4_init_35 rfl (lv_at hl 0 rfl) ?_
  refine lv_aload hx hb dX4_init_36 (lv_at hl 4 rfl) ?_
  refine z_putF hC hnm hI (w1 := [(h0, .inr (6, [.int x1, .ref a2, .ref a4, .ref a5, .ref q1, .ref q2])), (q1, .inl (c1, 12, .inl (fun _ => 0))), (q2, .inl (c2, 12, .inl (fun _ => 0)))]) (fun w h => List.mem_cons_of_mem _ (inlX4 w h)) tyX4_ok nmX4 0 rfl rfl 3 (by decide) (List.mem_cons_of_mem _ zw6_20) rfl rfl rfl rfl (Nat.le_of_ble_eq_true rfl) rfl dX4_init_38 (fun H locs hI => ?_)
  refine lv_aload_n hx hb dX4_init_41 rfl (lv_at hl 0 rfl) ?_
  refine z_get (v := .ref q1) hC hI (fun w h => List.mem_cons_of_mem _ (inlX4 w h)) 0 rfl rfl 4 (by decide) (List.mem_cons_of_mem _ zw6_15) rfl dX4_init_42 ?_
  refine lv_bipush (v := 10) hx hb dX4_init_45 (by decide) ?_
  refine lv_iconst (v := 1) hx hb dX4_init_47 (by decide) ?_
  refine z_iast (w1 := [(h0, .inr (6, [.int x1, .ref a2, .ref a4, .ref a5, .ref q1, .ref q2])), (q1, .inl (c1, 12, .inl (upd (fun _ => 0) 10 1))), (q2, .inl (c2, 12, .inl (fun _ => 0)))]) hC hI 1 0 rfl rfl (by decide) rfl dX4_init_48 (fun H locs hI => ?_)
  refine lv_aload_n hx hb dX4_init_49 rfl (lv_at hl 0 rfl) ?_
  refine z_get (v := .ref q1) hC hI (fun w h => List.mem_cons_of_mem _ (inlX4 w h)) 0 rfl rfl 4 (by decide) (List.mem_cons_of_mem _ zw6_15) rfl dX4_init_50 ?_
  refine lv_bipush (v := 11) hx hb dX4_init_53 (by decide) ?_
  refine lv_iconst (v := 1) hx hb dX4_init_55 (by decide) ?_
  refine z_iast (w1 := [(h0, .inr (6, [.int x1, .ref a2, .ref a4, .ref a5, .ref q1, .ref q2])), (q1, .inl (c1, 12, .inl (upd (upd (fun _ => 0) 10 1) 11 1))), (q2, .inl (c2, 12, .inl (fun _ => 0)))]) hC hI 1 0 rfl rfl (by decide) rfl dX4_init_56 (fun H locs hI => ?_)
  refine lv_aload_n hx hb dX4_init_57 rfl (lv_at hl 0 rfl) ?_
  obtain ⟨ad, had⟩ : ∃ f : Nat → Nat, f = (fun j => if j = 6 then h0 else if j = 34 then q1 else if j = 35 then q2 else if j = 2 then a2 else if j = 4 then a4 else if j = 5 then a5 else 0) := ⟨_, rfl⟩
  obtain ⟨cy, hcy⟩ : ∃ f : Nat → ClassId, f = (fun j => if j = 34 then c1 else if j = 35 then c2 else 0) := ⟨_, rfl⟩
  have e6 : h0 = ad 6 := by rw [had]; rfl
  have e34 : q1 = ad 34 := by rw [had]; rfl
  have e35 : q2 = ad 35 := by rw [had]; rfl
  have e2 : a2 = ad 2 := by rw [had]; rfl
  have e4 : a4 = ad 4 := by rw [had]; rfl
  have e5 : a5 = ad 5 := by rw [had]; rfl
  have hI : zI st D (tN6 cy) (wN6 ad cy (zsi (zsi (zsi zS0 6 0 x1) 34 10 1) 34 11 1)) A s H locs := by rw [had, hcy]; exact hI
  refine z_callVu (As := []) (rest := []) hC hI (cX4_clear_w6_met st l D ad cy (zsi (zsi (zsi zS0 6 0 x1) 34 10 1) 34 11 1) σ1 hf) (zgV zw6_21 zw6_22 zw6_23 zw2_17 zw7_0) rfl ⟨rfl, rfl⟩ 0 hdX4_clear_w6 ⟨Nat.le_of_ble_eq_true rfl, Nat.le_of_ble_eq_true rfl⟩ rfl rfl (wN6_e6 ad cy (zsi (zsi (zsi zS0 6 0 x1) 34 10 1) 34 11 1)) rfl hl (by rw [e6]; rfl) (Nat.le_of_ble_eq_true rfl) dX4_init_58 ⟨Nat.le_of_ble_eq_true rfl, Nat.le_of_ble_eq_true rfl⟩ (fun H locs hI => ?_)
  exact z_nreturn0 (wn := fun ad cy => wN6 ad cy σ1) (tn := tN6) (ex := fun f => h0 = f 6 ∧ a2 = f 2 ∧ a4 = f 4 ∧ a5 = f 5) hC ad cy hI ⟨e6, e2, e4, e5⟩ (Nat.le_refl _) (Nat.le_refl _) dX4_init_61
theorem hdX4_init : yX4_init.cls ≠ "java/lang/invoke/MethodHandle" ∧ yX4_init.cls ≠ "java/lang/invoke/VarHandle" ∧ (parseMethodDescriptor yX4_init.desc).map (fun d => d.parameters.length) = some 4 := by decide +kernel
noncomputable def rmX5_init : Room := { frames := 1, cells := 2, slots := 58, locals := 20 }
noncomputable def wzX5_init : List Cond := .code yX5_init cX5_init 3 none :: wsL_law
noncomputable def kn_cX5_init : Nat := 0xb14f1c1212100900b42a1800b52c2a1400b52b2a1000b506102a0d00b50abc1d102a0900b50abc1d102a0100b72a
theorem zk_cX5_init : zkd cX5_init.data.toList kn_cX5_init = true := by decide +kernel
theorem zn_cX5_init : cX5_init.data.toList.length = 46 := by decide +kernel
theorem dX5_init_0 : decode cX5_init 0 = .ok (.aload_n 0, 1) := zo_42 (zkb zk_cX5_init zn_cX5_init rfl)
theorem dX5_init_1 : decode cX5_init 1 = .ok (.invokespecial 1, 3) := zo_183 (b1 := 0) (b2 := 1) (zkb3 zk_cX5_init zn_cX5_init rfl) rfl
theorem dX5_init_4 : decode cX5_init 4 = .ok (.aload_n 0, 1) := zo_42 (zkb zk_cX5_init zn_cX5_init rfl)
theorem dX5_init_5 : decode cX5_init 5 = .ok (.bipush 29, 2) := zo_16 (b1 := 29) (zkb2 zk_cX5_init zn_cX5_init rfl) rfl
theorem dX5_init_7 : decode cX5_init 7 = .ok (.newarray .int, 2) := by decide +kernel
theorem dX5_init_9 : decode cX5_init 9 = .ok (.putfield 9, 3) := zo_181 (b1 := 0) (b2 := 9) (zkb3 zk_cX5_init zn_cX5_init rfl) rfl
theorem dX5_init_12 : decode cX5_init 12 = .ok (.aload_n 0, 1) := zo_42 (zkb zk_cX5_init zn_cX5_init rfl)
theorem dX5_init_13 : decode cX5_init 13 = .ok (.bipush 29, 2) := zo_16 (b1 := 29) (zkb2 zk_cX5_init zn_cX5_init rfl) rfl
theorem dX5_init_15 : decode cX5_init 15 = .ok (.newarray .int, 2) := by decide +kernel
theorem dX5_init_17 : decode cX5_init 17 = .ok (.putfield 13, 3) := zo_181 (b1 := 0) (b2 := 13) (zkb3 zk_cX5_init zn_cX5_init rfl) rfl
theorem dX5_init_20 : decode cX5_init 20 = .ok (.aload_n 0, 1) := zo_42 (zkb zk_cX5_init zn_cX5_init rfl)
theorem dX5_init_21 : decode cX5_init 21 = .ok (.bipush 6, 2) := zo_16 (b1 := 6) (zkb2 zk_cX5_init zn_cX5_init rfl) rfl
theorem dX5_init_23 : decode cX5_init 23 = .ok (.putfield 16, 3) := zo_181 (b1 := 0) (b2 := 16) (zkb3 zk_cX5_init zn_cX5_init rfl) rfl
theorem dX5_init_26 : decode cX5_init 26 = .ok (.aload_n 0, 1) := zo_42 (zkb zk_cX5_init zn_cX5_init rfl)
theorem dX5_init_27 : decode cX5_init 27 = .ok (.aload_n 1, 1) := zo_43 (zkb zk_cX5_init zn_cX5_init rfl)
theorem dX5_init_28 : decode cX5_init 28 = .ok (.putfield 20, 3) := zo_181 (b1 := 0) (b2 := 20) (zkb3 zk_cX5_init zn_cX5_init rfl) rfl
theorem dX5_init_31 : decode cX5_init 31 = .ok (.aload_n 0, 1) := zo_42 (zkb zk_cX5_init zn_cX5_init rfl)
theorem dX5_init_32 : decode cX5_init 32 = .ok (.aload_n 2, 1) := zo_44 (zkb zk_cX5_init zn_cX5_init rfl)
theorem dX5_init_33 : decode cX5_init 33 = .ok (.putfield 24, 3) := zo_181 (b1 := 0) (b2 := 24) (zkb3 zk_cX5_init zn_cX5_init rfl) rfl
theorem dX5_init_36 : decode cX5_init 36 = .ok (.aload_n 0, 1) := zo_42 (zkb zk_cX5_init zn_cX5_init rfl)
theorem dX5_init_37 : decode cX5_init 37 = .ok (.getfield 9, 3) := zo_180 (b1 := 0) (b2 := 9) (zkb3 zk_cX5_init zn_cX5_init rfl) rfl
theorem dX5_init_40 : decode cX5_init 40 = .ok (.bipush 18, 2) := zo_16 (b1 := 18) (zkb2 zk_cX5_init zn_cX5_init rfl) rfl
theorem dX5_init_42 : decode cX5_init 42 = .ok (.ldc 28, 2) := zo_18 (b1 := 28) (zkb2 zk_cX5_init zn_cX5_init rfl)
theorem dX5_init_44 : decode cX5_init 44 = .ok (.iastore, 1) := zo_79 (zkb zk_cX5_init zn_cX5_init rfl)
theorem dX5_init_45 : decode cX5_init 45 = .ok (.return_, 1) := zo_177 (zkb zk_cX5_init zn_cX5_init rfl)
set_option maxRecDepth 20000 in
set_option maxHeartbeats 4000000 in
theorem cX5_init_met (st : Nat → Nat) (l : Launch) (D : va_G) (h0 : Nat) (a1 : Nat) (a6 : Nat)  (sz : Nat) : zN st l yX5_init wzX5_init rmX5_init [.ref h0, .ref a1, .ref a6] D [(h0, .inr (7, [.null, .null, .null, .null, .int 0, .int 0]))] sz (fun ad cy => wN7 ad cy (zsi (zsi zS0 7 4 6) 36 18 57328)) tN7 (fun f => h0 = f 7 ∧ a1 = f 1 ∧ a6 = f 6) 2 58 := by
  refine zN.of (cc := cX5_init) (maxL := 3) (by decide) rfl rfl (Nat.le_of_ble_eq_true rfl) (fun p e s m args below meth c hC hnm A hI ls hl => ?_)
  have hx := hC.1
  have hb := hC.2.1
  refine lv_aload_n hx hb dX5_init_0 rfl (lv_at hl 0 rfl) ?_
  refine z_objInit hC hl (List.mem_cons_of_mem _ zw7_4) (List.mem_cons_of_mem _ zw1_16) (List.mem_cons_of_mem _ zw1_17) dX5_init_1 (Nat.le_of_ble_eq_true rfl) (Nat.le_of_ble_eq_true rfl) ?_
  refine lv_aload_n hx hb dX5_init_4 rfl (lv_at hl 0 rfl) ?_
  refine lv_bipush (v := 29) hx hb dX5_init_5 (by decide) ?_
  refine z_newi hC hI (List.mem_cons_of_mem _ zw3_15) 29 (by decide +kernel) (by decide +kernel) (by decide +kernel) (Nat.le_of_ble_eq_true rfl) (Nat.le_of_ble_eq_true rfl) dX5_init_7 (fun q1 c1 H hI => ?_)
  have hI : zI st D [(c1, .int)] [(h0, .inr (7, [.null, .null, .null, .null, .int 0, .int 0])), (q1, .inl (c1, 29, .inl (fun _ => 0)))] A s H _ := hI
  refine z_putF hC hnm hI (w1 := [(h0, .inr (7, [.null, .null, .ref q1, .null, .int 0, .int 0])), (q1, .inl (c1, 29, .inl (fun _ => 0)))]) (fun w h => List.mem_cons_of_mem _ (inlX5 w h)) tyX5_ok nmX5 0 rfl rfl 2 (by decide) (List.mem_cons_of_mem _ zw7_5) rfl rfl rfl rfl (Nat.le_of_ble_eq_true rfl) rfl dX5_init_9 (fun H locs hI => ?_)
  refine lv_aload_n hx hb dX5_init_12 rfl (lv_at hl 0 rfl) ?_
  refine lv_bipush (v := 29) hx hb dX5_init_13 (by decide) ?_
  refine z_newi hC hI (List.mem_cons_of_mem _ zw3_15) 29 (by decide +kernel) (by decide +kernel) (by decide +kernel) (Nat.le_of_ble_eq_true rfl) (Nat.le_of_ble_eq_true rfl) dX5_init_15 (fun q2 c2 H hI => ?_)
  have hI : zI st D [(c1, .int), (c2, .int)] [(h0, .inr (7, [.null, .null, .ref q1, .null, .int 0, .int 0])), (q1, .inl (c1, 29, .inl (fun _ => 0))), (q2, .inl (c2, 29, .inl (fun _ => 0)))] A s H _ := hI
  refine z_putF hC hnm hI (w1 := [(h0, .inr (7, [.null, .null, .ref q1, .ref q2, .int 0, .int 0])), (q1, .inl (c1, 29, .inl (fun _ => 0))), (q2, .inl (c2, 29, .inl (fun _ => 0)))]) (fun w h => List.mem_cons_of_mem _ (inlX5 w h)) tyX5_ok nmX5 0 rfl rfl 3 (by decide) (List.mem_cons_of_mem _ zw7_6) rfl rfl rfl rfl (Nat.le_of_ble_eq_true rfl) rfl dX5_init_17 (fun H locs hI => ?_)
  refine lv_aload_n hx hb dX5_init_20 rfl (lv_at hl 0 rfl) ?_
  refine lv_bipush (v := 6) hx hb dX5_init_21 (by decide) ?_
  refine z_put hC hI (w1 := [(h0, .inr (7, [.null, .null, .ref q1, .ref q2, .int 6, .int 0])), (q1, .inl (c1, 29, .inl (fun _ => 0))), (q2, .inl (c2, 29, .inl (fun _ => 0)))]) (fun w h => List.mem_cons_of_mem _ (inlX5 w h)) tyX5_ok nmX5 0 rfl rfl 4 (by decide) (List.mem_cons_of_mem _ zw7_7) rfl rfl rfl (Nat.le_of_ble_eq_true rfl) rfl dX5_init_23 (fun H locs hI => ?_)
  refine lv_aload_n hx hb dX5_init_26 rfl (lv_at hl 0 rfl) ?_
  refine lv_aload_n hx hb dX5_init_27 rfl (lv_at hl 1 rfl) ?_
  refine z_putF hC hnm hI (w1 := [(h0, .inr (7, [.ref a1, .null, .ref q1, .ref q2, .int 6, .int 0])), (q1, .inl (c1, 29, .inl (fun _ => 0))), (q2, .inl (c2, 29, .inl (fun _ => 0)))]) (fun w h => List.mem_cons_of_mem _ (inlX5 w h)) tyX5_ok nmX5 0 rfl rfl 0 (by decide) (List.mem_cons_of_mem _ zw7_8) rfl rfl rfl rfl (Nat.le_of_ble_eq_true rfl) rfl dX5_init_28 (fun H locs hI => ?_)
  refine lv_aload_n hx hb dX5_init_31 rfl (lv_at hl 0 rfl) ?_
  refine lv_aload_n hx hb dX5_init_32 rfl (lv_at hl 2 rfl) ?_
  refine z_putF hC hnm hI (w1 := [(h0, .inr (7, [.ref a1, .ref a6, .ref q1, .ref q2, .int 6, .int 0])), (q1, .inl (c1, 29, .inl (fun _ => 0))), (q2, .inl (c2, 29, .inl (fun _ => 0)))]) (fun w h => List.mem_cons_of_mem _ (inlX5 w h)) tyX5_ok nmX5 0 rfl rfl 1 (by decide) (List.mem_cons_of_mem _ zw7_9) rfl rfl rfl rfl (Nat.le_of_ble_eq_true rfl) rfl dX5_init_33 (fun H locs hI => ?_)
  refine lv_aload_n hx hb dX5_init_36 rfl (lv_at hl 0 rfl) ?_
  refine z_get (v := .ref q1) hC hI (fun w h => List.mem_cons_of_mem _ (inlX5 w h)) 0 rfl rfl 2 (by decide) (List.mem_cons_of_mem _ zw7_5) rfl dX5_init_37 ?_
  refine lv_bipush (v := 18) hx hb dX5_init_40 (by decide) ?_
  refine lv_ldc (v := 57328) hx hb hC.2.2.2.1 (hC.2.2.2.2.1 _ (List.mem_cons_of_mem _ zw7_10)) dX5_init_42 ?_
  refine z_iast (w1 := [(h0, .inr (7, [.ref a1, .ref a6, .ref q1, .ref q2, .int 6, .int 0])), (q1, .inl (c1, 29, .inl (upd (fun _ => 0) 18 57328))), (q2, .inl (c2, 29, .inl (fun _ => 0)))]) hC hI 1 0 rfl rfl (by decide) rfl dX5_init_44 (fun H locs hI => ?_)
  obtain ⟨ad, had⟩ : ∃ f : Nat → Nat, f = (fun j => if j = 7 then h0 else if j = 36 then q1 else if j = 37 then q2 else if j = 1 then a1 else if j = 6 then a6 else 0) := ⟨_, rfl⟩
  obtain ⟨cy, hcy⟩ : ∃ f : Nat → ClassId, f = (fun j => if j = 36 then c1 else if j = 37 then c2 else 0) := ⟨_, rfl⟩
  have e7 : h0 = ad 7 := by rw [had]; rfl
  have e36 : q1 = ad 36 := by rw [had]; rfl
  have e37 : q2 = ad 37 := by rw [had]; rfl
  have e1 : a1 = ad 1 := by rw [had]; rfl
  have e6 : a6 = ad 6 := by rw [had]; rfl
  have hI : zI st D (tN7 cy) (wN7 ad cy (zsi (zsi zS0 7 4 6) 36 18 57328)) A s H locs := by rw [had, hcy]; exact hI
  exact z_nreturn0 (wn := fun ad cy => wN7 ad cy (zsi (zsi zS0 7 4 6) 36 18 57328)) (tn := tN7) (ex := fun f => h0 = f 7 ∧ a1 = f 1 ∧ a6 = f 6) hC ad cy hI ⟨e7, e1, e6⟩ (Nat.le_refl _) (Nat.le_refl _) dX5_init_45
theorem hdX5_init : yX5_init.cls ≠ "java/lang/invoke/MethodHandle" ∧ yX5_init.cls ≠ "java/lang/invoke/VarHandle" ∧ (parseMethodDescriptor yX5_init.desc).map (fun d => d.parameters.length) = some 2 := by decide +kernel
noncomputable def rmX1_init : Room := { frames := 1, cells := 5, slots := 1590, locals := 23 }
noncomputable def wzX1_init : List Cond := .code yX1_init cX1_init 1 none :: wsL_law
noncomputable def kn_cX1_init : Nat := 0xb11900b8021600b42a1600b50abc20102a1300b50abc0203112a1000b50abc0203112a0d00b50abc09102a0900b50abc09102a0100b72a
theorem zk_cX1_init : zkd cX1_init.data.toList kn_cX1_init = true := by decide +kernel
theorem zn_cX1_init : cX1_init.data.toList.length = 55 := by decide +kernel
theorem dX1_init_0 : decode cX1_init 0 = .ok (.aload_n 0, 1) := zo_42 (zkb zk_cX1_init zn_cX1_init rfl)
theorem dX1_init_1 : decode cX1_init 1 = .ok (.invokespecial 1, 3) := zo_183 (b1 := 0) (b2 := 1) (zkb3 zk_cX1_init zn_cX1_init rfl) rfl
theorem dX1_init_4 : decode cX1_init 4 = .ok (.aload_n 0, 1) := zo_42 (zkb zk_cX1_init zn_cX1_init rfl)
theorem dX1_init_5 : decode cX1_init 5 = .ok (.bipush 9, 2) := zo_16 (b1 := 9) (zkb2 zk_cX1_init zn_cX1_init rfl) rfl
theorem dX1_init_7 : decode cX1_init 7 = .ok (.newarray .int, 2) := by decide +kernel
theorem dX1_init_9 : decode cX1_init 9 = .ok (.putfield 9, 3) := zo_181 (b1 := 0) (b2 := 9) (zkb3 zk_cX1_init zn_cX1_init rfl) rfl
theorem dX1_init_12 : decode cX1_init 12 = .ok (.aload_n 0, 1) := zo_42 (zkb zk_cX1_init zn_cX1_init rfl)
theorem dX1_init_13 : decode cX1_init 13 = .ok (.bipush 9, 2) := zo_16 (b1 := 9) (zkb2 zk_cX1_init zn_cX1_init rfl) rfl
theorem dX1_init_15 : decode cX1_init 15 = .ok (.newarray .int, 2) := by decide +kernel
theorem dX1_init_17 : decode cX1_init 17 = .ok (.putfield 13, 3) := zo_181 (b1 := 0) (b2 := 13) (zkb3 zk_cX1_init zn_cX1_init rfl) rfl
theorem dX1_init_20 : decode cX1_init 20 = .ok (.aload_n 0, 1) := zo_42 (zkb zk_cX1_init zn_cX1_init rfl)
theorem dX1_init_21 : decode cX1_init 21 = .ok (.sipush 770, 3) := zo_17 (b1 := 3) (b2 := 2) (zkb3 zk_cX1_init zn_cX1_init rfl) rfl
theorem dX1_init_24 : decode cX1_init 24 = .ok (.newarray .int, 2) := by decide +kernel
theorem dX1_init_26 : decode cX1_init 26 = .ok (.putfield 16, 3) := zo_181 (b1 := 0) (b2 := 16) (zkb3 zk_cX1_init zn_cX1_init rfl) rfl
theorem dX1_init_29 : decode cX1_init 29 = .ok (.aload_n 0, 1) := zo_42 (zkb zk_cX1_init zn_cX1_init rfl)
theorem dX1_init_30 : decode cX1_init 30 = .ok (.sipush 770, 3) := zo_17 (b1 := 3) (b2 := 2) (zkb3 zk_cX1_init zn_cX1_init rfl) rfl
theorem dX1_init_33 : decode cX1_init 33 = .ok (.newarray .int, 2) := by decide +kernel
theorem dX1_init_35 : decode cX1_init 35 = .ok (.putfield 19, 3) := zo_181 (b1 := 0) (b2 := 19) (zkb3 zk_cX1_init zn_cX1_init rfl) rfl
theorem dX1_init_38 : decode cX1_init 38 = .ok (.aload_n 0, 1) := zo_42 (zkb zk_cX1_init zn_cX1_init rfl)
theorem dX1_init_39 : decode cX1_init 39 = .ok (.bipush 32, 2) := zo_16 (b1 := 32) (zkb2 zk_cX1_init zn_cX1_init rfl) rfl
theorem dX1_init_41 : decode cX1_init 41 = .ok (.newarray .int, 2) := by decide +kernel
theorem dX1_init_43 : decode cX1_init 43 = .ok (.putfield 22, 3) := zo_181 (b1 := 0) (b2 := 22) (zkb3 zk_cX1_init zn_cX1_init rfl) rfl
theorem dX1_init_46 : decode cX1_init 46 = .ok (.aload_n 0, 1) := zo_42 (zkb zk_cX1_init zn_cX1_init rfl)
theorem dX1_init_47 : decode cX1_init 47 = .ok (.getfield 22, 3) := zo_180 (b1 := 0) (b2 := 22) (zkb3 zk_cX1_init zn_cX1_init rfl) rfl
theorem dX1_init_50 : decode cX1_init 50 = .ok (.iconst (-1), 1) := zo_2 (zkb zk_cX1_init zn_cX1_init rfl)
theorem dX1_init_51 : decode cX1_init 51 = .ok (.invokestatic 25, 3) := zo_184 (b1 := 0) (b2 := 25) (zkb3 zk_cX1_init zn_cX1_init rfl) rfl
theorem dX1_init_54 : decode cX1_init 54 = .ok (.return_, 1) := zo_177 (zkb zk_cX1_init zn_cX1_init rfl)
set_option maxRecDepth 20000 in
set_option maxHeartbeats 4000000 in
theorem cX1_init_met (st : Nat → Nat) (l : Launch) (D : va_G) (h0 : Nat)  (σ1 : zSt) (hf : fJ7_fill_53178_k44 zS0 (-1) = some σ1) (sz : Nat) : zN st l yX1_init wzX1_init rmX1_init [.ref h0] D [(h0, .inr (3, [.null, .null, .null, .null, .null, .int 0]))] sz (fun ad cy => wN9 ad cy σ1) tN9 (fun f => h0 = f 9) 5 1590 := by
  refine zN.of (cc := cX1_init) (maxL := 1) (by decide) rfl rfl (Nat.le_of_ble_eq_true rfl) (fun p e s m args below meth c hC hnm A hI ls hl => ?_)
  have hx := hC.1
  have hb := hC.2.1
  refine lv_aload_n hx hb dX1_init_0 rfl (lv_at hl 0 rfl) ?_
  refine z_objInit hC hl (List.mem_cons_of_mem _ zw8_8) (List.mem_cons_of_mem _ zw1_16) (List.mem_cons_of_mem _ zw1_17) dX1_init_1 (Nat.le_of_ble_eq_true rfl) (Nat.le_of_ble_eq_true rfl) ?_
  refine lv_aload_n hx hb dX1_init_4 rfl (lv_at hl 0 rfl) ?_
  refine lv_bipush (v := 9) hx hb dX1_init_5 (by decide) ?_
  refine z_newi hC hI (List.mem_cons_of_mem _ zw3_15) 9 (by decide +kernel) (by decide +kernel) (by decide +kernel) (Nat.le_of_ble_eq_true rfl) (Nat.le_of_ble_eq_true rfl) dX1_init_7 (fun q1 c1 H hI => ?_)
  have hI : zI st D [(c1, .int)] [(h0, .inr (3, [.null, .null, .null, .null, .null, .int 0])), (q1, .inl (c1, 9, .inl (fun _ => 0)))] A s H _ := hI
  refine z_putF hC hnm hI (w1 := [(h0, .inr (3, [.ref q1, .null, .null, .null, .null, .int 0])), (q1, .inl (c1, 9, .inl (fun _ => 0)))]) (fun w h => List.mem_cons_of_mem _ (inlX1 w h)) tyX1_ok nmX1 0 rfl rfl 0 (by decide) (List.mem_cons_of_mem _ zw8_9) rfl rfl rfl rfl (Nat.le_of_ble_eq_true rfl) rfl dX1_init_9 (fun H locs hI => ?_)
  refine lv_aload_n hx hb dX1_init_12 rfl (lv_at hl 0 rfl) ?_
  refine lv_bipush (v := 9) hx hb dX1_init_13 (by decide) ?_
  refine z_newi hC hI (List.mem_cons_of_mem _ zw3_15) 9 (by decide +kernel) (by decide +kernel) (by decide +kernel) (Nat.le_of_ble_eq_true rfl) (Nat.le_of_ble_eq_true rfl) dX1_init_15 (fun q2 c2 H hI => ?_)
  have hI : zI st D [(c1, .int), (c2, .int)] [(h0, .inr (3, [.ref q1, .null, .null, .null, .null, .int 0])), (q1, .inl (c1, 9, .inl (fun _ => 0))), (q2, .inl (c2, 9, .inl (fun _ => 0)))] A s H _ := hI
  refine z_putF hC hnm hI (w1 := [(h0, .inr (3, [.ref q1, .ref q2, .null, .null, .null, .int 0])), (q1, .inl (c1, 9, .inl (fun _ => 0))), (q2, .inl (c2, 9, .inl (fun _ => 0)))]) (fun w h => List.mem_cons_of_mem _ (inlX1 w h)) tyX1_ok nmX1 0 rfl rfl 1 (by decide) (List.mem_cons_of_mem _ zw8_10) rfl rfl rfl rfl (Nat.le_of_ble_eq_true rfl) rfl dX1_init_17 (fun H locs hI => ?_)
  refine lv_aload_n hx hb dX1_init_20 rfl (lv_at hl 0 rfl) ?_
  refine lv_sipush (v := 770) hx hb dX1_init_21 (by decide) ?_
  refine z_newi hC hI (List.mem_cons_of_mem _ zw3_15) 770 (by decide +kernel) (by decide +kernel) (by decide +kernel) (Nat.le_of_ble_eq_true rfl) (Nat.le_of_ble_eq_true rfl) dX1_init_24 (fun q3 c3 H hI => ?_)
  have hI : zI st D [(c1, .int), (c2, .int), (c3, .int)] [(h0, .inr (3, [.ref q1, .ref q2, .null, .null, .null, .int 0])), (q1, .inl (c1, 9, .inl (fun _ => 0))), (q2, .inl (c2, 9, .inl (fun _ => 0))), (q3, .inl (c3, 770, .inl (fun _ => 0)))] A s H _ := hI
  refine z_putF hC hnm hI (w1 := [(h0, .inr (3, [.ref q1, .ref q2, .ref q3, .null, .null, .int 0])), (q1, .inl (c1, 9, .inl (fun _ => 0))), (q2, .inl (c2, 9, .inl (fun _ => 0))), (q3, .inl (c3, 770, .inl (fun _ => 0)))]) (fun w h => List.mem_cons_of_mem _ (inlX1 w h)) tyX1_ok nmX1 0 rfl rfl 2 (by decide) (List.mem_cons_of_mem _ zw8_11) rfl rfl rfl rfl (Nat.le_of_ble_eq_true rfl) rfl dX1_init_26 (fun H locs hI => ?_)
  refine lv_aload_n hx hb dX1_init_29 rfl (lv_at hl 0 rfl) ?_
  refine lv_sipush (v := 770) hx hb dX1_init_30 (by decide) ?_
  refine z_newi hC hI (List.mem_cons_of_mem _ zw3_15) 770 (by decide +kernel) (by decide +kernel) (by decide +kernel) (Nat.le_of_ble_eq_true rfl) (Nat.le_of_ble_eq_true rfl) dX1_init_33 (fun q4 c4 H hI => ?_)
  have hI : zI st D [(c1, .int), (c2, .int), (c3, .int), (c4, .int)] [(h0, .inr (3, [.ref q1, .ref q2, .ref q3, .null, .null, .int 0])), (q1, .inl (c1, 9, .inl (fun _ => 0))), (q2, .inl (c2, 9, .inl (fun _ => 0))), (q3, .inl (c3, 770, .inl (fun _ => 0))), (q4, .inl (c4, 770, .inl (fun _ => 0)))] A s H _ := hI
  refine z_putF hC hnm hI (w1 := [(h0, .inr (3, [.ref q1, .ref q2, .ref q3, .ref q4, .null, .int 0])), (q1, .inl (c1, 9, .inl (fun _ => 0))), (q2, .inl (c2, 9, .inl (fun _ => 0))), (q3, .inl (c3, 770, .inl (fun _ => 0))), (q4, .inl (c4, 770, .inl (fun _ => 0)))]) (fun w h => List.mem_cons_of_mem _ (inlX1 w h)) tyX1_ok nmX1 0 rfl rfl 3 (by decide) (List.mem_cons_of_mem _ zw8_12) rfl rfl rfl rfl (Nat.le_of_ble_eq_true rfl) rfl dX1_init_35 (fun H locs hI => ?_)
  refine lv_aload_n hx hb dX1_init_38 rfl (lv_at hl 0 rfl) ?_
  refine lv_bipush (v := 32) hx hb dX1_init_39 (by decide) ?_
  refine z_newi hC hI (List.mem_cons_of_mem _ zw3_15) 32 (by decide +kernel) (by decide +kernel) (by decide +kernel) (Nat.le_of_ble_eq_true rfl) (Nat.le_of_ble_eq_true rfl) dX1_init_41 (fun q5 c5 H hI => ?_)
  have hI : zI st D [(c1, .int), (c2, .int), (c3, .int), (c4, .int), (c5, .int)] [(h0, .inr (3, [.ref q1, .ref q2, .ref q3, .ref q4, .null, .int 0])), (q1, .inl (c1, 9, .inl (fun _ => 0))), (q2, .inl (c2, 9, .inl (fun _ => 0))), (q3, .inl (c3, 770, .inl (fun _ => 0))), (q4, .inl (c4, 770, .inl (fun _ => 0))), (q5, .inl (c5, 32, .inl (fun _ => 0)))] A s H _ := hI
  refine z_putF hC hnm hI (w1 := [(h0, .inr (3, [.ref q1, .ref q2, .ref q3, .ref q4, .ref q5, .int 0])), (q1, .inl (c1, 9, .inl (fun _ => 0))), (q2, .inl (c2, 9, .inl (fun _ => 0))), (q3, .inl (c3, 770, .inl (fun _ => 0))), (q4, .inl (c4, 770, .inl (fun _ => 0))), (q5, .inl (c5, 32, .inl (fun _ => 0)))]) (fun w h => List.mem_cons_of_mem _ (inlX1 w h)) tyX1_ok nmX1 0 rfl rfl 4 (by decide) (List.mem_cons_of_mem _ zw8_13) rfl rfl rfl rfl (Nat.le_of_ble_eq_true rfl) rfl dX1_init_43 (fun H locs hI => ?_)
  refine lv_aload_n hx hb dX1_init_46 rfl (lv_at hl 0 rfl) ?_
  refine z_get (v := .ref q5) hC hI (fun w h => List.mem_cons_of_mem _ (inlX1 w h)) 0 rfl rfl 4 (by decide) (List.mem_cons_of_mem _ zw8_13) rfl dX1_init_47 ?_
  refine lv_iconst (v := (-1)) hx hb dX1_init_50 (by decide) ?_
  obtain ⟨ad, had⟩ : ∃ f : Nat → Nat, f = (fun j => if j = 9 then h0 else if j = 40 then q1 else if j = 41 then q2 else if j = 42 then q3 else if j = 43 then q4 else if j = 44 then q5 else 0) := ⟨_, rfl⟩
  obtain ⟨cy, hcy⟩ : ∃ f : Nat → ClassId, f = (fun j => if j = 40 then c1 else if j = 41 then c2 else if j = 42 then c3 else if j = 43 then c4 else if j = 44 then c5 else 0) := ⟨_, rfl⟩
  have e9 : h0 = ad 9 := by rw [had]; rfl
  have e40 : q1 = ad 40 := by rw [had]; rfl
  have e41 : q2 = ad 41 := by rw [had]; rfl
  have e42 : q3 = ad 42 := by rw [had]; rfl
  have e43 : q4 = ad 43 := by rw [had]; rfl
  have e44 : q5 = ad 44 := by rw [had]; rfl
  have hI : zI st D (tN9 cy) (wN9 ad cy zS0) A s H locs := by rw [had, hcy]; exact hI
  refine z_callSu (As := [.ref (ad 44), .int (-1)]) (rest := []) hC hI (cJ7_fill_53178_k44_w9_met st l D ad cy zS0 (-1) σ1 hf) (zgS zw8_14 zw5_12 zw5_13 zw5_14) rfl ⟨rfl, rfl⟩ 2 hdJ7_fill_53178_k44_w9 ⟨Nat.le_of_ble_eq_true rfl, Nat.le_of_ble_eq_true rfl⟩ rfl hl (by rw [← e44]; rfl) (Nat.le_of_ble_eq_true rfl) dX1_init_51 ⟨Nat.le_of_ble_eq_true rfl, Nat.le_of_ble_eq_true rfl⟩ (fun H locs hI => ?_)
  exact z_nreturn0 (wn := fun ad cy => wN9 ad cy σ1) (tn := tN9) (ex := fun f => h0 = f 9) hC ad cy hI e9 (Nat.le_refl _) (Nat.le_refl _) dX1_init_54
theorem hdX1_init : yX1_init.cls ≠ "java/lang/invoke/MethodHandle" ∧ yX1_init.cls ≠ "java/lang/invoke/VarHandle" ∧ (parseMethodDescriptor yX1_init.desc).map (fun d => d.parameters.length) = some 0 := by decide +kernel
noncomputable def rmX8_init : Room := { frames := 1, cells := 1, slots := 32, locals := 20 }
noncomputable def wzX8_init : List Cond := .code yX8_init cX8_init 2 none :: wsL_law
noncomputable def kn_cX8_init : Nat := 0xb10d00b52b2a0900b50abc20102a0100b72a
theorem zk_cX8_init : zkd cX8_init.data.toList kn_cX8_init = true := by decide +kernel
theorem zn_cX8_init : cX8_init.data.toList.length = 18 := by decide +kernel
theorem dX8_init_0 : decode cX8_init 0 = .ok (.aload_n 0, 1) := zo_42 (zkb zk_cX8_init zn_cX8_init rfl)
theorem dX8_init_1 : decode cX8_init 1 = .ok (.invokespecial 1, 3) := zo_183 (b1 := 0) (b2 := 1) (zkb3 zk_cX8_init zn_cX8_init rfl) rfl
theorem dX8_init_4 : decode cX8_init 4 = .ok (.aload_n 0, 1) := zo_42 (zkb zk_cX8_init zn_cX8_init rfl)
theorem dX8_init_5 : decode cX8_init 5 = .ok (.bipush 32, 2) := zo_16 (b1 := 32) (zkb2 zk_cX8_init zn_cX8_init rfl) rfl
theorem dX8_init_7 : decode cX8_init 7 = .ok (.newarray .int, 2) := by decide +kernel
theorem dX8_init_9 : decode cX8_init 9 = .ok (.putfield 9, 3) := zo_181 (b1 := 0) (b2 := 9) (zkb3 zk_cX8_init zn_cX8_init rfl) rfl
theorem dX8_init_12 : decode cX8_init 12 = .ok (.aload_n 0, 1) := zo_42 (zkb zk_cX8_init zn_cX8_init rfl)
theorem dX8_init_13 : decode cX8_init 13 = .ok (.aload_n 1, 1) := zo_43 (zkb zk_cX8_init zn_cX8_init rfl)
theorem dX8_init_14 : decode cX8_init 14 = .ok (.putfield 13, 3) := zo_181 (b1 := 0) (b2 := 13) (zkb3 zk_cX8_init zn_cX8_init rfl) rfl
theorem dX8_init_17 : decode cX8_init 17 = .ok (.return_, 1) := zo_177 (zkb zk_cX8_init zn_cX8_init rfl)
set_option maxRecDepth 20000 in
set_option maxHeartbeats 4000000 in
theorem cX8_init_met (st : Nat → Nat) (l : Launch) (D : va_G) (h0 : Nat) (a1 : Nat)  (sz : Nat) : zN st l yX8_init wzX8_init rmX8_init [.ref h0, .ref a1] D [(h0, .inr (10, [.null, .null, .int 0, .int 0, .int 0, .int 0, .int 0, .int 0, .int 0, .int 0, .int 0]))] sz (fun ad cy => wN10 ad cy zS0) tN10 (fun f => h0 = f 10 ∧ a1 = f 1) 1 32 := by
  refine zN.of (cc := cX8_init) (maxL := 2) (by decide) rfl rfl (Nat.le_of_ble_eq_true rfl) (fun p e s m args below meth c hC hnm A hI ls hl => ?_)
  have hx := hC.1
  have hb := hC.2.1
  refine lv_aload_n hx hb dX8_init_0 rfl (lv_at hl 0 rfl) ?_
  refine z_objInit hC hl (List.mem_cons_of_mem _ zw8_18) (List.mem_cons_of_mem _ zw1_16) (List.mem_cons_of_mem _ zw1_17) dX8_init_1 (Nat.le_of_ble_eq_true rfl) (Nat.le_of_ble_eq_true rfl) ?_
  refine lv_aload_n hx hb dX8_init_4 rfl (lv_at hl 0 rfl) ?_
  refine lv_bipush (v := 32) hx hb dX8_init_5 (by decide) ?_
  refine z_newi hC hI (List.mem_cons_of_mem _ zw3_15) 32 (by decide +kernel) (by decide +kernel) (by decide +kernel) (Nat.le_of_ble_eq_true rfl) (Nat.le_of_ble_eq_true rfl) dX8_init_7 (fun q1 c1 H hI => ?_)
  have hI : zI st D [(c1, .int)] [(h0, .inr (10, [.null, .null, .int 0, .int 0, .int 0, .int 0, .int 0, .int 0, .int 0, .int 0, .int 0])), (q1, .inl (c1, 32, .inl (fun _ => 0)))] A s H _ := hI
  refine z_putF hC hnm hI (w1 := [(h0, .inr (10, [.null, .ref q1, .int 0, .int 0, .int 0, .int 0, .int 0, .int 0, .int 0, .int 0, .int 0])), (q1, .inl (c1, 32, .inl (fun _ => 0)))]) (fun w h => List.mem_cons_of_mem _ (inlX8 w h)) tyX8_ok nmX8 0 rfl rfl 1 (by decide) (List.mem_cons_of_mem _ zw8_19) rfl rfl rfl rfl (Nat.le_of_ble_eq_true rfl) rfl dX8_init_9 (fun H locs hI => ?_)
  refine lv_aload_n hx hb dX8_init_12 rfl (lv_at hl 0 rfl) ?_
  refine lv_aload_n hx hb dX8_init_13 rfl (lv_at hl 1 rfl) ?_
  refine z_putF hC hnm hI (w1 := [(h0, .inr (10, [.ref a1, .ref q1, .int 0, .int 0, .int 0, .int 0, .int 0, .int 0, .int 0, .int 0, .int 0])), (q1, .inl (c1, 32, .inl (fun _ => 0)))]) (fun w h => List.mem_cons_of_mem _ (inlX8 w h)) tyX8_ok nmX8 0 rfl rfl 0 (by decide) (List.mem_cons_of_mem _ zw8_20) rfl rfl rfl rfl (Nat.le_of_ble_eq_true rfl) rfl dX8_init_14 (fun H locs hI => ?_)
  obtain ⟨ad, had⟩ : ∃ f : Nat → Nat, f = (fun j => if j = 10 then h0 else if j = 45 then q1 else if j = 1 then a1 else 0) := ⟨_, rfl⟩
  obtain ⟨cy, hcy⟩ : ∃ f : Nat → ClassId, f = (fun j => if j = 45 then c1 else 0) := ⟨_, rfl⟩
  have e10 : h0 = ad 10 := by rw [had]; rfl
  have e45 : q1 = ad 45 := by rw [had]; rfl
  have e1 : a1 = ad 1 := by rw [had]; rfl
  have hI : zI st D (tN10 cy) (wN10 ad cy zS0) A s H locs := by rw [had, hcy]; exact hI
  exact z_nreturn0 (wn := fun ad cy => wN10 ad cy zS0) (tn := tN10) (ex := fun f => h0 = f 10 ∧ a1 = f 1) hC ad cy hI ⟨e10, e1⟩ (Nat.le_refl _) (Nat.le_refl _) dX8_init_17
theorem hdX8_init : yX8_init.cls ≠ "java/lang/invoke/MethodHandle" ∧ yX8_init.cls ≠ "java/lang/invoke/VarHandle" ∧ (parseMethodDescriptor yX8_init.desc).map (fun d => d.parameters.length) = some 1 := by decide +kernel
noncomputable def rmX6_init_k11 : Room := { frames := 1, cells := 2, slots := 8192, locals := 20 }
noncomputable def wzX6_init : List Cond := .code yX6_init cX6_init 1 none :: wsL_law
noncomputable def kn_cX6_init : Nat := 0xb10d00b50bbc0010112a0900b50bbc0010112a0100b72a
theorem zk_cX6_init : zkd cX6_init.data.toList kn_cX6_init = true := by decide +kernel
theorem zn_cX6_init : cX6_init.data.toList.length = 23 := by decide +kernel
theorem dX6_init_0 : decode cX6_init 0 = .ok (.aload_n 0, 1) := zo_42 (zkb zk_cX6_init zn_cX6_init rfl)
theorem dX6_init_1 : decode cX6_init 1 = .ok (.invokespecial 1, 3) := zo_183 (b1 := 0) (b2 := 1) (zkb3 zk_cX6_init zn_cX6_init rfl) rfl
theorem dX6_init_4 : decode cX6_init 4 = .ok (.aload_n 0, 1) := zo_42 (zkb zk_cX6_init zn_cX6_init rfl)
theorem dX6_init_5 : decode cX6_init 5 = .ok (.sipush 4096, 3) := zo_17 (b1 := 16) (b2 := 0) (zkb3 zk_cX6_init zn_cX6_init rfl) rfl
theorem dX6_init_8 : decode cX6_init 8 = .ok (.newarray .long, 2) := by decide +kernel
theorem dX6_init_10 : decode cX6_init 10 = .ok (.putfield 9, 3) := zo_181 (b1 := 0) (b2 := 9) (zkb3 zk_cX6_init zn_cX6_init rfl) rfl
theorem dX6_init_13 : decode cX6_init 13 = .ok (.aload_n 0, 1) := zo_42 (zkb zk_cX6_init zn_cX6_init rfl)
theorem dX6_init_14 : decode cX6_init 14 = .ok (.sipush 4096, 3) := zo_17 (b1 := 16) (b2 := 0) (zkb3 zk_cX6_init zn_cX6_init rfl) rfl
theorem dX6_init_17 : decode cX6_init 17 = .ok (.newarray .long, 2) := by decide +kernel
theorem dX6_init_19 : decode cX6_init 19 = .ok (.putfield 13, 3) := zo_181 (b1 := 0) (b2 := 13) (zkb3 zk_cX6_init zn_cX6_init rfl) rfl
theorem dX6_init_22 : decode cX6_init 22 = .ok (.return_, 1) := zo_177 (zkb zk_cX6_init zn_cX6_init rfl)
set_option maxRecDepth 20000 in
set_option maxHeartbeats 4000000 in
theorem cX6_init_k11_met (st : Nat → Nat) (l : Launch) (D : va_G) (h0 : Nat)   (sz : Nat) : zN st l yX6_init wzX6_init rmX6_init_k11 [.ref h0] D [(h0, .inr (8, [.null, .null, .int 0, .int 0, .int 0, .int 0]))] sz (fun ad cy => wN11 ad cy zS0) tN11 (fun f => h0 = f 11) 2 8192 := by
  refine zN.of (cc := cX6_init) (maxL := 1) (by decide) rfl rfl (Nat.le_of_ble_eq_true rfl) (fun p e s m args below meth c hC hnm A hI ls hl => ?_)
  have hx := hC.1
  have hb := hC.2.1
  refine lv_aload_n hx hb dX6_init_0 rfl (lv_at hl 0 rfl) ?_
  refine z_objInit hC hl (List.mem_cons_of_mem _ zw8_2) (List.mem_cons_of_mem _ zw1_16) (List.mem_cons_of_mem _ zw1_17) dX6_init_1 (Nat.le_of_ble_eq_true rfl) (Nat.le_of_ble_eq_true rfl) ?_
  refine lv_aload_n hx hb dX6_init_4 rfl (lv_at hl 0 rfl) ?_
  refine lv_sipush (v := 4096) hx hb dX6_init_5 (by decide) ?_
  refine z_newl hC hI (List.mem_cons_of_mem _ zw1_6) 4096 (by decide +kernel) (by decide +kernel) (by decide +kernel) (Nat.le_of_ble_eq_true rfl) (Nat.le_of_ble_eq_true rfl) dX6_init_8 (fun q1 c1 H hI => ?_)
  have hI : zI st D [(c1, .long)] [(h0, .inr (8, [.null, .null, .int 0, .int 0, .int 0, .int 0])), (q1, .inl (c1, 4096, .inr (.inl (fun _ => 0))))] A s H _ := hI
  refine z_putF hC hnm hI (w1 := [(h0, .inr (8, [.ref q1, .null, .int 0, .int 0, .int 0, .int 0])), (q1, .inl (c1, 4096, .inr (.inl (fun _ => 0))))]) (fun w h => List.mem_cons_of_mem _ (inlX6 w h)) tyX6_ok nmX6 0 rfl rfl 0 (by decide) (List.mem_cons_of_mem _ zw8_3) rfl rfl rfl rfl (Nat.le_of_ble_eq_true rfl) rfl dX6_init_10 (fun H locs hI => ?_)
  refine lv_aload_n hx hb dX6_init_13 rfl (lv_at hl 0 rfl) ?_
  refine lv_sipush (v := 4096) hx hb dX6_init_14 (by decide) ?_
  refine z_newl hC hI (List.mem_cons_of_mem _ zw1_6) 4096 (by decide +kernel) (by decide +kernel) (by decide +kernel) (Nat.le_of_ble_eq_true rfl) (Nat.le_of_ble_eq_true rfl) dX6_init_17 (fun q2 c2 H hI => ?_)
  have hI : zI st D [(c1, .long), (c2, .long)] [(h0, .inr (8, [.ref q1, .null, .int 0, .int 0, .int 0, .int 0])), (q1, .inl (c1, 4096, .inr (.inl (fun _ => 0)))), (q2, .inl (c2, 4096, .inr (.inl (fun _ => 0))))] A s H _ := hI
  refine z_putF hC hnm hI (w1 := [(h0, .inr (8, [.ref q1, .ref q2, .int 0, .int 0, .int 0, .int 0])), (q1, .inl (c1, 4096, .inr (.inl (fun _ => 0)))), (q2, .inl (c2, 4096, .inr (.inl (fun _ => 0))))]) (fun w h => List.mem_cons_of_mem _ (inlX6 w h)) tyX6_ok nmX6 0 rfl rfl 1 (by decide) (List.mem_cons_of_mem _ zw8_4) rfl rfl rfl rfl (Nat.le_of_ble_eq_true rfl) rfl dX6_init_19 (fun H locs hI => ?_)
  obtain ⟨ad, had⟩ : ∃ f : Nat → Nat, f = (fun j => if j = 11 then h0 else if j = 46 then q1 else if j = 47 then q2 else 0) := ⟨_, rfl⟩
  obtain ⟨cy, hcy⟩ : ∃ f : Nat → ClassId, f = (fun j => if j = 46 then c1 else if j = 47 then c2 else 0) := ⟨_, rfl⟩
  have e11 : h0 = ad 11 := by rw [had]; rfl
  have e46 : q1 = ad 46 := by rw [had]; rfl
  have e47 : q2 = ad 47 := by rw [had]; rfl
  have hI : zI st D (tN11 cy) (wN11 ad cy zS0) A s H locs := by rw [had, hcy]; exact hI
  exact z_nreturn0 (wn := fun ad cy => wN11 ad cy zS0) (tn := tN11) (ex := fun f => h0 = f 11) hC ad cy hI e11 (Nat.le_refl _) (Nat.le_refl _) dX6_init_22
theorem hdX6_init : yX6_init.cls ≠ "java/lang/invoke/MethodHandle" ∧ yX6_init.cls ≠ "java/lang/invoke/VarHandle" ∧ (parseMethodDescriptor yX6_init.desc).map (fun d => d.parameters.length) = some 0 := by decide +kernel
noncomputable def rmX6_init_k12 : Room := { frames := 1, cells := 2, slots := 8192, locals := 20 }
set_option maxRecDepth 20000 in
set_option maxHeartbeats 4000000 in
theorem cX6_init_k12_met (st : Nat → Nat) (l : Launch) (D : va_G) (h0 : Nat)   (sz : Nat) : zN st l yX6_init wzX6_init rmX6_init_k12 [.ref h0] D [(h0, .inr (8, [.null, .null, .int 0, .int 0, .int 0, .int 0]))] sz (fun ad cy => wN12 ad cy zS0) tN12 (fun f => h0 = f 12) 2 8192 := by
  refine zN.of (cc := cX6_init) (maxL := 1) (by decide) rfl rfl (Nat.le_of_ble_eq_true rfl) (fun p e s m args below meth c hC hnm A hI ls hl => ?_)
  have hx := hC.1
  have hb := hC.2.1
  refine lv_aload_n hx hb dX6_init_0 rfl (lv_at hl 0 rfl) ?_
  refine z_objInit hC hl (List.mem_cons_of_mem _ zw8_2) (List.mem_cons_of_mem _ zw1_16) (List.mem_cons_of_mem _ zw1_17) dX6_init_1 (Nat.le_of_ble_eq_true rfl) (Nat.le_of_ble_eq_true rfl) ?_
  refine lv_aload_n hx hb dX6_init_4 rfl (lv_at hl 0 rfl) ?_
  refine lv_sipush (v := 4096) hx hb dX6_init_5 (by decide) ?_
  refine z_newl hC hI (List.mem_cons_of_mem _ zw1_6) 4096 (by decide +kernel) (by decide +kernel) (by decide +kernel) (Nat.le_of_ble_eq_true rfl) (Nat.le_of_ble_eq_true rfl) dX6_init_8 (fun q1 c1 H hI => ?_)
  have hI : zI st D [(c1, .long)] [(h0, .inr (8, [.null, .null, .int 0, .int 0, .int 0, .int 0])), (q1, .inl (c1, 4096, .inr (.inl (fun _ => 0))))] A s H _ := hI
  refine z_putF hC hnm hI (w1 := [(h0, .inr (8, [.ref q1, .null, .int 0, .int 0, .int 0, .int 0])), (q1, .inl (c1, 4096, .inr (.inl (fun _ => 0))))]) (fun w h => List.mem_cons_of_mem _ (inlX6 w h)) tyX6_ok nmX6 0 rfl rfl 0 (by decide) (List.mem_cons_of_mem _ zw8_3) rfl rfl rfl rfl (Nat.le_of_ble_eq_true rfl) rfl dX6_init_10 (fun H locs hI => ?_)
  refine lv_aload_n hx hb dX6_init_13 rfl (lv_at hl 0 rfl) ?_
  refine lv_sipush (v := 4096) hx hb dX6_init_14 (by decide) ?_
  refine z_newl hC hI (List.mem_cons_of_mem _ zw1_6) 4096 (by decide +kernel) (by decide +kernel) (by decide +kernel) (Nat.le_of_ble_eq_true rfl) (Nat.le_of_ble_eq_true rfl) dX6_init_17 (fun q2 c2 H hI => ?_)
  have hI : zI st D [(c1, .long), (c2, .long)] [(h0, .inr (8, [.ref q1, .null, .int 0, .int 0, .int 0, .int 0])), (q1, .inl (c1, 4096, .inr (.inl (fun _ => 0)))), (q2, .inl (c2, 4096, .inr (.inl (fun _ => 0))))] A s H _ := hI
  refine z_putF hC hnm hI (w1 := [(h0, .inr (8, [.ref q1, .ref q2, .int 0, .int 0, .int 0, .int 0])), (q1, .inl (c1, 4096, .inr (.inl (fun _ => 0)))), (q2, .inl (c2, 4096, .inr (.inl (fun _ => 0))))]) (fun w h => List.mem_cons_of_mem _ (inlX6 w h)) tyX6_ok nmX6 0 rfl rfl 1 (by decide) (List.mem_cons_of_mem _ zw8_4) rfl rfl rfl rfl (Nat.le_of_ble_eq_true rfl) rfl dX6_init_19 (fun H locs hI => ?_)
  obtain ⟨ad, had⟩ : ∃ f : Nat → Nat, f = (fun j => if j = 12 then h0 else if j = 48 then q1 else if j = 49 then q2 else 0) := ⟨_, rfl⟩
  obtain ⟨cy, hcy⟩ : ∃ f : Nat → ClassId, f = (fun j => if j = 48 then c1 else if j = 49 then c2 else 0) := ⟨_, rfl⟩
  have e12 : h0 = ad 12 := by rw [had]; rfl
  have e48 : q1 = ad 48 := by rw [had]; rfl
  have e49 : q2 = ad 49 := by rw [had]; rfl
  have hI : zI st D (tN12 cy) (wN12 ad cy zS0) A s H locs := by rw [had, hcy]; exact hI
  exact z_nreturn0 (wn := fun ad cy => wN12 ad cy zS0) (tn := tN12) (ex := fun f => h0 = f 12) hC ad cy hI e12 (Nat.le_refl _) (Nat.le_refl _) dX6_init_22
noncomputable def rmX0_init : Room := { frames := 2, cells := 8, slots := 16410, locals := 40 }
noncomputable def wzX0_init : List Cond := .code yX0_init cX0_init 3 none :: wsL_law
noncomputable def kn_cX0_init : Nat := 0xb11e00b52c2a1a00b52b2a1700b50bbc07102a1300b50bbc07102a1000b50900b7590700bb2a0a00b50900b7590700bb2a0100b72a
theorem zk_cX0_init : zkd cX0_init.data.toList kn_cX0_init = true := by decide +kernel
theorem zn_cX0_init : cX0_init.data.toList.length = 53 := by decide +kernel
theorem dX0_init_0 : decode cX0_init 0 = .ok (.aload_n 0, 1) := zo_42 (zkb zk_cX0_init zn_cX0_init rfl)
theorem dX0_init_1 : decode cX0_init 1 = .ok (.invokespecial 1, 3) := zo_183 (b1 := 0) (b2 := 1) (zkb3 zk_cX0_init zn_cX0_init rfl) rfl
theorem dX0_init_4 : decode cX0_init 4 = .ok (.aload_n 0, 1) := zo_42 (zkb zk_cX0_init zn_cX0_init rfl)
theorem dX0_init_5 : decode cX0_init 5 = .ok (.new 7, 3) := zo_187 (b1 := 0) (b2 := 7) (zkb3 zk_cX0_init zn_cX0_init rfl) rfl
theorem dX0_init_8 : decode cX0_init 8 = .ok (.dup, 1) := zo_89 (zkb zk_cX0_init zn_cX0_init rfl)
theorem dX0_init_9 : decode cX0_init 9 = .ok (.invokespecial 9, 3) := zo_183 (b1 := 0) (b2 := 9) (zkb3 zk_cX0_init zn_cX0_init rfl) rfl
theorem dX0_init_12 : decode cX0_init 12 = .ok (.putfield 10, 3) := zo_181 (b1 := 0) (b2 := 10) (zkb3 zk_cX0_init zn_cX0_init rfl) rfl
theorem dX0_init_15 : decode cX0_init 15 = .ok (.aload_n 0, 1) := zo_42 (zkb zk_cX0_init zn_cX0_init rfl)
theorem dX0_init_16 : decode cX0_init 16 = .ok (.new 7, 3) := zo_187 (b1 := 0) (b2 := 7) (zkb3 zk_cX0_init zn_cX0_init rfl) rfl
theorem dX0_init_19 : decode cX0_init 19 = .ok (.dup, 1) := zo_89 (zkb zk_cX0_init zn_cX0_init rfl)
theorem dX0_init_20 : decode cX0_init 20 = .ok (.invokespecial 9, 3) := zo_183 (b1 := 0) (b2 := 9) (zkb3 zk_cX0_init zn_cX0_init rfl) rfl
theorem dX0_init_23 : decode cX0_init 23 = .ok (.putfield 16, 3) := zo_181 (b1 := 0) (b2 := 16) (zkb3 zk_cX0_init zn_cX0_init rfl) rfl
theorem dX0_init_26 : decode cX0_init 26 = .ok (.aload_n 0, 1) := zo_42 (zkb zk_cX0_init zn_cX0_init rfl)
theorem dX0_init_27 : decode cX0_init 27 = .ok (.bipush 7, 2) := zo_16 (b1 := 7) (zkb2 zk_cX0_init zn_cX0_init rfl) rfl
theorem dX0_init_29 : decode cX0_init 29 = .ok (.newarray .long, 2) := by decide +kernel
theorem dX0_init_31 : decode cX0_init 31 = .ok (.putfield 19, 3) := zo_181 (b1 := 0) (b2 := 19) (zkb3 zk_cX0_init zn_cX0_init rfl) rfl
theorem dX0_init_34 : decode cX0_init 34 = .ok (.aload_n 0, 1) := zo_42 (zkb zk_cX0_init zn_cX0_init rfl)
theorem dX0_init_35 : decode cX0_init 35 = .ok (.bipush 7, 2) := zo_16 (b1 := 7) (zkb2 zk_cX0_init zn_cX0_init rfl) rfl
theorem dX0_init_37 : decode cX0_init 37 = .ok (.newarray .long, 2) := by decide +kernel
theorem dX0_init_39 : decode cX0_init 39 = .ok (.putfield 23, 3) := zo_181 (b1 := 0) (b2 := 23) (zkb3 zk_cX0_init zn_cX0_init rfl) rfl
theorem dX0_init_42 : decode cX0_init 42 = .ok (.aload_n 0, 1) := zo_42 (zkb zk_cX0_init zn_cX0_init rfl)
theorem dX0_init_43 : decode cX0_init 43 = .ok (.aload_n 1, 1) := zo_43 (zkb zk_cX0_init zn_cX0_init rfl)
theorem dX0_init_44 : decode cX0_init 44 = .ok (.putfield 26, 3) := zo_181 (b1 := 0) (b2 := 26) (zkb3 zk_cX0_init zn_cX0_init rfl) rfl
theorem dX0_init_47 : decode cX0_init 47 = .ok (.aload_n 0, 1) := zo_42 (zkb zk_cX0_init zn_cX0_init rfl)
theorem dX0_init_48 : decode cX0_init 48 = .ok (.aload_n 2, 1) := zo_44 (zkb zk_cX0_init zn_cX0_init rfl)
theorem dX0_init_49 : decode cX0_init 49 = .ok (.putfield 30, 3) := zo_181 (b1 := 0) (b2 := 30) (zkb3 zk_cX0_init zn_cX0_init rfl) rfl
theorem dX0_init_52 : decode cX0_init 52 = .ok (.return_, 1) := zo_177 (zkb zk_cX0_init zn_cX0_init rfl)
set_option maxRecDepth 20000 in
set_option maxHeartbeats 4000000 in
theorem cX0_init_met (st : Nat → Nat) (l : Launch) (D : va_G) (h0 : Nat) (a4 : Nat) (a5 : Nat)  (sz : Nat) : zN st l yX0_init wzX0_init rmX0_init [.ref h0, .ref a4, .ref a5] D [(h0, .inr (2, [.null, .null, .null, .null, .null, .null]))] sz (fun ad cy => wN8 ad cy zS0) tN8 (fun f => h0 = f 8 ∧ a4 = f 4 ∧ a5 = f 5) 8 16410 := by
  refine zN.of (cc := cX0_init) (maxL := 3) (by decide) rfl rfl (Nat.le_of_ble_eq_true rfl) (fun p e s m args below meth c hC hnm A hI ls hl => ?_)
  have hx := hC.1
  have hb := hC.2.1
  refine lv_aload_n hx hb dX0_init_0 rfl (lv_at hl 0 rfl) ?_
  refine z_objInit hC hl (List.mem_cons_of_mem _ zw7_14) (List.mem_cons_of_mem _ zw1_16) (List.mem_cons_of_mem _ zw1_17) dX0_init_1 (Nat.le_of_ble_eq_true rfl) (Nat.le_of_ble_eq_true rfl) ?_
  refine lv_aload_n hx hb dX0_init_4 rfl (lv_at hl 0 rfl) ?_
  refine z_new (ci := 8) hC hI (fun w h => List.mem_cons_of_mem _ (inlX6 w h)) tyX6_ok (List.mem_cons_of_mem _ zw7_15) (List.mem_cons_of_mem _ zw7_16) (List.mem_cons_of_mem _ zw7_17) rfl [.null, .null, .int 0, .int 0, .int 0, .int 0] (fun j hj => by rcases (show j = 0 ∨ j = 1 ∨ j = 2 ∨ j = 3 ∨ j = 4 ∨ j = 5 by omega) with rfl | rfl | rfl | rfl | rfl | rfl <;> rfl) (Nat.le_of_ble_eq_true rfl) (Nat.le_of_ble_eq_true rfl) dX0_init_5 (fun q1 H hI => ?_)
  have hI : zI st D [] ([(h0, .inr (2, [.null, .null, .null, .null, .null, .null]))] ++ [(q1, .inr (8, [.null, .null, .int 0, .int 0, .int 0, .int 0]))]) A s H _ := hI
  refine lv_dup hx hb dX0_init_8 rfl ?_
  refine z_callIN (As := []) (rest := [.ref q1, .ref h0]) (host := "PadConsole") hC hI (cX6_init_k11_met st l D q1  ) (zgI zw8_1) rfl rfl rfl (List.mem_cons_of_mem _ zw7_17) (by decide) (List.mem_cons_of_mem _ zw8_0) rfl 0 hdX6_init ⟨Nat.le_of_ble_eq_true rfl, Nat.le_of_ble_eq_true rfl⟩ rfl hl rfl (Nat.le_of_ble_eq_true rfl) dX0_init_9 ⟨Nat.le_of_ble_eq_true rfl, Nat.le_of_ble_eq_true rfl⟩ (fun ad11 cy11 H locs hex hI2 => ?_)
  have hq11 : q1 = ad11 11 := hex
  subst hq11
  have hI : zI st D (tN11 cy11) ([(h0, .inr (2, [.null, .null, .null, .null, .null, .null]))] ++ wN11 ad11 cy11 zS0) A s H _ := hI2
  refine z_putF hC hnm hI (w1 := ([(h0, .inr (2, [.null, .null, .ref (ad11 11), .null, .null, .null]))] ++ wN11 ad11 cy11 zS0)) (fun w h => List.mem_cons_of_mem _ (inlX0 w h)) tyX0_ok nmX0 0 rfl rfl 2 (by decide) (List.mem_cons_of_mem _ zw7_18) rfl rfl rfl rfl (Nat.le_of_ble_eq_true rfl) rfl dX0_init_12 (fun H locs hI => ?_)
  refine lv_aload_n hx hb dX0_init_15 rfl (lv_at hl 0 rfl) ?_
  refine z_new (ci := 8) hC hI (fun w h => List.mem_cons_of_mem _ (inlX6 w h)) tyX6_ok (List.mem_cons_of_mem _ zw7_15) (List.mem_cons_of_mem _ zw7_16) (List.mem_cons_of_mem _ zw7_17) rfl [.null, .null, .int 0, .int 0, .int 0, .int 0] (fun j hj => by rcases (show j = 0 ∨ j = 1 ∨ j = 2 ∨ j = 3 ∨ j = 4 ∨ j = 5 by omega) with rfl | rfl | rfl | rfl | rfl | rfl <;> rfl) (Nat.le_of_ble_eq_true rfl) (Nat.le_of_ble_eq_true rfl) dX0_init_16 (fun q2 H hI => ?_)
  have hI : zI st D (tN11 cy11) (([(h0, .inr (2, [.null, .null, .ref (ad11 11), .null, .null, .null]))] ++ wN11 ad11 cy11 zS0) ++ [(q2, .inr (8, [.null, .null, .int 0, .int 0, .int 0, .int 0]))]) A s H _ := hI
  refine lv_dup hx hb dX0_init_19 rfl ?_
  refine z_callIN (As := []) (rest := [.ref q2, .ref h0]) (host := "PadConsole") hC hI (cX6_init_k12_met st l D q2  ) (zgI zw8_1) rfl rfl rfl (List.mem_cons_of_mem _ zw7_17) (by decide) (List.mem_cons_of_mem _ zw8_0) rfl 0 hdX6_init ⟨Nat.le_of_ble_eq_true rfl, Nat.le_of_ble_eq_true rfl⟩ rfl hl rfl (Nat.le_of_ble_eq_true rfl) dX0_init_20 ⟨Nat.le_of_ble_eq_true rfl, Nat.le_of_ble_eq_true rfl⟩ (fun ad12 cy12 H locs hex hI2 => ?_)
  have hq12 : q2 = ad12 12 := hex
  subst hq12
  have hI : zI st D (tN11 cy11 ++ tN12 cy12) (([(h0, .inr (2, [.null, .null, .ref (ad11 11), .null, .null, .null]))] ++ wN11 ad11 cy11 zS0) ++ wN12 ad12 cy12 zS0) A s H _ := hI2
  refine z_putF hC hnm hI (w1 := (([(h0, .inr (2, [.null, .null, .ref (ad11 11), .ref (ad12 12), .null, .null]))] ++ wN11 ad11 cy11 zS0) ++ wN12 ad12 cy12 zS0)) (fun w h => List.mem_cons_of_mem _ (inlX0 w h)) tyX0_ok nmX0 0 rfl rfl 3 (by decide) (List.mem_cons_of_mem _ zw7_19) rfl rfl rfl rfl (Nat.le_of_ble_eq_true rfl) rfl dX0_init_23 (fun H locs hI => ?_)
  refine lv_aload_n hx hb dX0_init_26 rfl (lv_at hl 0 rfl) ?_
  refine lv_bipush (v := 7) hx hb dX0_init_27 (by decide) ?_
  refine z_newl hC hI (List.mem_cons_of_mem _ zw1_6) 7 (by decide +kernel) (by decide +kernel) (by decide +kernel) (Nat.le_of_ble_eq_true rfl) (Nat.le_of_ble_eq_true rfl) dX0_init_29 (fun q3 c3 H hI => ?_)
  have hI : zI st D ((tN11 cy11 ++ tN12 cy12) ++ [(c3, .long)]) ((([(h0, .inr (2, [.null, .null, .ref (ad11 11), .ref (ad12 12), .null, .null]))] ++ wN11 ad11 cy11 zS0) ++ wN12 ad12 cy12 zS0) ++ [(q3, .inl (c3, 7, .inr (.inl (fun _ => 0))))]) A s H _ := hI
  refine z_putF hC hnm hI (w1 := ((([(h0, .inr (2, [.null, .null, .ref (ad11 11), .ref (ad12 12), .ref q3, .null]))] ++ wN11 ad11 cy11 zS0) ++ wN12 ad12 cy12 zS0) ++ [(q3, .inl (c3, 7, .inr (.inl (fun _ => 0))))])) (fun w h => List.mem_cons_of_mem _ (inlX0 w h)) tyX0_ok nmX0 0 rfl rfl 4 (by decide) (List.mem_cons_of_mem _ zw7_20) rfl rfl rfl rfl (Nat.le_of_ble_eq_true rfl) rfl dX0_init_31 (fun H locs hI => ?_)
  refine lv_aload_n hx hb dX0_init_34 rfl (lv_at hl 0 rfl) ?_
  refine lv_bipush (v := 7) hx hb dX0_init_35 (by decide) ?_
  refine z_newl hC hI (List.mem_cons_of_mem _ zw1_6) 7 (by decide +kernel) (by decide +kernel) (by decide +kernel) (Nat.le_of_ble_eq_true rfl) (Nat.le_of_ble_eq_true rfl) dX0_init_37 (fun q4 c4 H hI => ?_)
  have hI : zI st D ((tN11 cy11 ++ tN12 cy12) ++ [(c3, .long), (c4, .long)]) ((([(h0, .inr (2, [.null, .null, .ref (ad11 11), .ref (ad12 12), .ref q3, .null]))] ++ wN11 ad11 cy11 zS0) ++ wN12 ad12 cy12 zS0) ++ [(q3, .inl (c3, 7, .inr (.inl (fun _ => 0)))), (q4, .inl (c4, 7, .inr (.inl (fun _ => 0))))]) A s H _ := hI
  refine z_putF hC hnm hI (w1 := ((([(h0, .inr (2, [.null, .null, .ref (ad11 11), .ref (ad12 12), .ref q3, .ref q4]))] ++ wN11 ad11 cy11 zS0) ++ wN12 ad12 cy12 zS0) ++ [(q3, .inl (c3, 7, .inr (.inl (fun _ => 0)))), (q4, .inl (c4, 7, .inr (.inl (fun _ => 0))))])) (fun w h => List.mem_cons_of_mem _ (inlX0 w h)) tyX0_ok nmX0 0 rfl rfl 5 (by decide) (List.mem_cons_of_mem _ zw7_21) rfl rfl rfl rfl (Nat.le_of_ble_eq_true rfl) rfl dX0_init_39 (fun H locs hI => ?_)
  refine lv_aload_n hx hb dX0_init_42 rfl (lv_at hl 0 rfl) ?_
  refine lv_aload_n hx hb dX0_init_43 rfl (lv_at hl 1 rfl) ?_
  refine z_putF hC hnm hI (w1 := ((([(h0, .inr (2, [.ref a4, .null, .ref (ad11 11), .ref (ad12 12), .ref q3, .ref q4]))] ++ wN11 ad11 cy11 zS0) ++ wN12 ad12 cy12 zS0) ++ [(q3, .inl (c3, 7, .inr (.inl (fun _ => 0)))), (q4, .inl (c4, 7, .inr (.inl (fun _ => 0))))])) (fun w h => List.mem_cons_of_mem _ (inlX0 w h)) tyX0_ok nmX0 0 rfl rfl 0 (by decide) (List.mem_cons_of_mem _ zw7_22) rfl rfl rfl rfl (Nat.le_of_ble_eq_true rfl) rfl dX0_init_44 (fun H locs hI => ?_)
  refine lv_aload_n hx hb dX0_init_47 rfl (lv_at hl 0 rfl) ?_
  refine lv_aload_n hx hb dX0_init_48 rfl (lv_at hl 2 rfl) ?_
  refine z_putF hC hnm hI (w1 := ((([(h0, .inr (2, [.ref a4, .ref a5, .ref (ad11 11), .ref (ad12 12), .ref q3, .ref q4]))] ++ wN11 ad11 cy11 zS0) ++ wN12 ad12 cy12 zS0) ++ [(q3, .inl (c3, 7, .inr (.inl (fun _ => 0)))), (q4, .inl (c4, 7, .inr (.inl (fun _ => 0))))])) (fun w h => List.mem_cons_of_mem _ (inlX0 w h)) tyX0_ok nmX0 0 rfl rfl 1 (by decide) (List.mem_cons_of_mem _ zw7_23) rfl rfl rfl rfl (Nat.le_of_ble_eq_true rfl) rfl dX0_init_49 (fun H locs hI => ?_)
  obtain ⟨ad, had⟩ : ∃ f : Nat → Nat, f = (fun j => if j = 8 then h0 else if j = 11 then ad11 11 else if j = 46 then ad11 46 else if j = 47 then ad11 47 else if j = 12 then ad12 12 else if j = 48 then ad12 48 else if j = 49 then ad12 49 else if j = 38 then q3 else if j = 39 then q4 else if j = 4 then a4 else if j = 5 then a5 else 0) := ⟨_, rfl⟩
  obtain ⟨cy, hcy⟩ : ∃ f : Nat → ClassId, f = (fun j => if j = 46 then cy11 46 else if j = 47 then cy11 47 else if j = 48 then cy12 48 else if j = 49 then cy12 49 else if j = 38 then c3 else if j = 39 then c4 else 0) := ⟨_, rfl⟩
  have e8 : h0 = ad 8 := by rw [had]; rfl
  have e11 : ad11 11 = ad 11 := by rw [had]; rfl
  have e46 : ad11 46 = ad 46 := by rw [had]; rfl
  have e47 : ad11 47 = ad 47 := by rw [had]; rfl
  have e12 : ad12 12 = ad 12 := by rw [had]; rfl
  have e48 : ad12 48 = ad 48 := by rw [had]; rfl
  have e49 : ad12 49 = ad 49 := by rw [had]; rfl
  have e38 : q3 = ad 38 := by rw [had]; rfl
  have e39 : q4 = ad 39 := by rw [had]; rfl
  have e4 : a4 = ad 4 := by rw [had]; rfl
  have e5 : a5 = ad 5 := by rw [had]; rfl
  have hI : zI st D (tN8 cy) (wN8 ad cy zS0) A s H locs := by rw [had, hcy]; exact hI
  exact z_nreturn0 (wn := fun ad cy => wN8 ad cy zS0) (tn := tN8) (ex := fun f => h0 = f 8 ∧ a4 = f 4 ∧ a5 = f 5) hC ad cy hI ⟨e8, e4, e5⟩ (Nat.le_refl _) (Nat.le_refl _) dX0_init_52
theorem hdX0_init : yX0_init.cls ≠ "java/lang/invoke/MethodHandle" ∧ yX0_init.cls ≠ "java/lang/invoke/VarHandle" ∧ (parseMethodDescriptor yX0_init.desc).map (fun d => d.parameters.length) = some 2 := by decide +kernel
end ZJN1
section ZJN2
/-- the state of a new object out of its parts' -/
noncomputable def zC0p (s0 s1 s2 s3 s4 s5 s6 s7 s8 s9 s10 : zSt) (a : Nat) : zSt := bif Nat.beq a 0 then s0 else bif Nat.beq a 1 then s1 else bif Nat.beq a 13 then s1 else bif Nat.beq a 14 then s1 else bif Nat.beq a 15 then s1 else bif Nat.beq a 16 then s1 else bif Nat.beq a 17 then s1 else bif Nat.beq a 18 then s1 else bif Nat.beq a 19 then s1 else bif Nat.beq a 20 then s1 else bif Nat.beq a 2 then s2 else bif Nat.beq a 21 then s2 else bif Nat.beq a 22 then s2 else bif Nat.beq a 23 then s2 else bif Nat.beq a 24 then s2 else bif Nat.beq a 3 then s3 else bif Nat.beq a 25 then s3 else bif Nat.beq a 26 then s3 else bif Nat.beq a 27 then s3 else bif Nat.beq a 28 then s3 else bif Nat.beq a 29 then s3 else bif Nat.beq a 4 then s4 else bif Nat.beq a 30 then s4 else bif Nat.beq a 31 then s4 else bif Nat.beq a 5 then s5 else bif Nat.beq a 32 then s5 else bif Nat.beq a 33 then s5 else bif Nat.beq a 6 then s6 else bif Nat.beq a 34 then s6 else bif Nat.beq a 35 then s6 else bif Nat.beq a 7 then s7 else bif Nat.beq a 36 then s7 else bif Nat.beq a 37 then s7 else bif Nat.beq a 8 then s8 else bif Nat.beq a 11 then s8 else bif Nat.beq a 46 then s8 else bif Nat.beq a 47 then s8 else bif Nat.beq a 12 then s8 else bif Nat.beq a 48 then s8 else bif Nat.beq a 49 then s8 else bif Nat.beq a 38 then s8 else bif Nat.beq a 39 then s8 else bif Nat.beq a 9 then s9 else bif Nat.beq a 40 then s9 else bif Nat.beq a 41 then s9 else bif Nat.beq a 42 then s9 else bif Nat.beq a 43 then s9 else bif Nat.beq a 44 then s9 else bif Nat.beq a 10 then s10 else bif Nat.beq a 45 then s10 else zS0
noncomputable def zC0 (s0 s1 s2 s3 s4 s5 s6 s7 s8 s9 s10 : zSt) : zSt := (fun a => (zC0p s0 s1 s2 s3 s4 s5 s6 s7 s8 s9 s10 a).1 a, fun a => (zC0p s0 s1 s2 s3 s4 s5 s6 s7 s8 s9 s10 a).2 a)
section ZN3
variable {p : Program} {l : Launch} {e : Env} {R : Room} {s : State} {m : MethodId} {args : Array Value} {below : List Frame} {meth : Method} {c : Code} {H : Heap} {locs : List Loc} {cells slots : Nat} {Q : State → Prop} {cc : ByteArray} {pc pcA pcJ t1 : Nat} {ls : Array Slot} {rest : List Value}
/-- x == k ? a : b -/
theorem z_tern (hx : p.tables.exec = Jvm.exec) (hb : c.code = cc) {x k a b : Int32} {off : Int} (d1 : decode cc pc = .ok (.if_icmp .ne off, 3)) (ht : (pc : Int) + off = (t1 : Int))
    (ka : W p l e R s m args below meth c H locs cells slots Q (F0 m pcA ls (.int a :: rest)) → W p l e R s m args below meth c H locs cells slots Q (F0 m (pc + 3) ls rest)) (kg : W p l e R s m args below meth c H locs cells slots Q (F0 m pcJ ls (.int a :: rest)) → W p l e R s m args below meth c H locs cells slots Q (F0 m pcA ls (.int a :: rest)))
    (kb : W p l e R s m args below meth c H locs cells slots Q (F0 m pcJ ls (.int b :: rest)) → W p l e R s m args below meth c H locs cells slots Q (F0 m t1 ls rest)) (kk : W p l e R s m args below meth c H locs cells slots Q (F0 m pcJ ls (.int (if x = k then a else b) :: rest))) : W p l e R s m args below meth c H locs cells slots Q (F0 m pc ls (.int k :: .int x :: rest)) := by
  refine lv_icmp_ne (tgt := t1) hx hb d1 ht (fun q => kb ?_) (fun q => ka (kg ?_))
  · rw [if_neg q] at kk; exact kk
  · rw [if_pos q] at kk; exact kk
end ZN3
noncomputable def rmX11_init : Room := { frames := 4, cells := 49, slots := 782394, locals := 86 }
noncomputable def wzX11_init : List Cond := .code yX11_init cX11_init 2 none :: wsL_law
noncomputable def kn_cX11_init : Nat := 0xb15b00b55800b71000b42a595600bb2a5200b55100b7594f00bb2a4b00b54800b73000b42a2900b42a594600bb2a4200b53f00b73900b42a1000b42a593d00bb2a3900b53600b73000b42a2900b42a1900b42a0700b42a593400bb2a3000b52f00b7592d00bb2a2900b52800b7592600bb2a2200b51f00b70700b42a1900b42a591d00bb2a1900b51600b70601110600a73901110900a0041b0700b42a591400bb2a1000b50f00b7590d00bb2a0700b5030400a7040700a0051b2a0100b72a
theorem zk_cX11_init : zkd cX11_init.data.toList kn_cX11_init = true := by decide +kernel
theorem zn_cX11_init : cX11_init.data.toList.length = 191 := by decide +kernel
theorem dX11_init_0 : decode cX11_init 0 = .ok (.aload_n 0, 1) := zo_42 (zkb zk_cX11_init zn_cX11_init rfl)
theorem dX11_init_1 : decode cX11_init 1 = .ok (.invokespecial 1, 3) := zo_183 (b1 := 0) (b2 := 1) (zkb3 zk_cX11_init zn_cX11_init rfl) rfl
theorem dX11_init_4 : decode cX11_init 4 = .ok (.aload_n 0, 1) := zo_42 (zkb zk_cX11_init zn_cX11_init rfl)
theorem dX11_init_5 : decode cX11_init 5 = .ok (.iload_n 1, 1) := zo_27 (zkb zk_cX11_init zn_cX11_init rfl)
theorem dX11_init_6 : decode cX11_init 6 = .ok (.iconst 2, 1) := zo_5 (zkb zk_cX11_init zn_cX11_init rfl)
theorem dX11_init_7 : decode cX11_init 7 = .ok (.if_icmp .ne 7, 3) := zo_160 (b1 := 0) (b2 := 7) (zkb3 zk_cX11_init zn_cX11_init rfl) rfl
theorem dX11_init_10 : decode cX11_init 10 = .ok (.iconst 1, 1) := zo_4 (zkb zk_cX11_init zn_cX11_init rfl)
theorem dX11_init_11 : decode cX11_init 11 = .ok (.goto 4, 3) := zo_167 (b1 := 0) (b2 := 4) (zkb3 zk_cX11_init zn_cX11_init rfl) rfl
theorem dX11_init_14 : decode cX11_init 14 = .ok (.iconst 0, 1) := zo_3 (zkb zk_cX11_init zn_cX11_init rfl)
theorem dX11_init_15 : decode cX11_init 15 = .ok (.putfield 7, 3) := zo_181 (b1 := 0) (b2 := 7) (zkb3 zk_cX11_init zn_cX11_init rfl) rfl
theorem dX11_init_18 : decode cX11_init 18 = .ok (.aload_n 0, 1) := zo_42 (zkb zk_cX11_init zn_cX11_init rfl)
theorem dX11_init_19 : decode cX11_init 19 = .ok (.new 13, 3) := zo_187 (b1 := 0) (b2 := 13) (zkb3 zk_cX11_init zn_cX11_init rfl) rfl
theorem dX11_init_22 : decode cX11_init 22 = .ok (.dup, 1) := zo_89 (zkb zk_cX11_init zn_cX11_init rfl)
theorem dX11_init_23 : decode cX11_init 23 = .ok (.invokespecial 15, 3) := zo_183 (b1 := 0) (b2 := 15) (zkb3 zk_cX11_init zn_cX11_init rfl) rfl
theorem dX11_init_26 : decode cX11_init 26 = .ok (.putfield 16, 3) := zo_181 (b1 := 0) (b2 := 16) (zkb3 zk_cX11_init zn_cX11_init rfl) rfl
theorem dX11_init_29 : decode cX11_init 29 = .ok (.aload_n 0, 1) := zo_42 (zkb zk_cX11_init zn_cX11_init rfl)
theorem dX11_init_30 : decode cX11_init 30 = .ok (.new 20, 3) := zo_187 (b1 := 0) (b2 := 20) (zkb3 zk_cX11_init zn_cX11_init rfl) rfl
theorem dX11_init_33 : decode cX11_init 33 = .ok (.dup, 1) := zo_89 (zkb zk_cX11_init zn_cX11_init rfl)
theorem dX11_init_34 : decode cX11_init 34 = .ok (.aload_n 0, 1) := zo_42 (zkb zk_cX11_init zn_cX11_init rfl)
theorem dX11_init_35 : decode cX11_init 35 = .ok (.getfield 7, 3) := zo_180 (b1 := 0) (b2 := 7) (zkb3 zk_cX11_init zn_cX11_init rfl) rfl
theorem dX11_init_38 : decode cX11_init 38 = .ok (.iload_n 1, 1) := zo_27 (zkb zk_cX11_init zn_cX11_init rfl)
theorem dX11_init_39 : decode cX11_init 39 = .ok (.iconst 1, 1) := zo_4 (zkb zk_cX11_init zn_cX11_init rfl)
theorem dX11_init_40 : decode cX11_init 40 = .ok (.if_icmp .ne 9, 3) := zo_160 (b1 := 0) (b2 := 9) (zkb3 zk_cX11_init zn_cX11_init rfl) rfl
theorem dX11_init_43 : decode cX11_init 43 = .ok (.sipush 313, 3) := zo_17 (b1 := 1) (b2 := 57) (zkb3 zk_cX11_init zn_cX11_init rfl) rfl
theorem dX11_init_46 : decode cX11_init 46 = .ok (.goto 6, 3) := zo_167 (b1 := 0) (b2 := 6) (zkb3 zk_cX11_init zn_cX11_init rfl) rfl
theorem dX11_init_49 : decode cX11_init 49 = .ok (.sipush 262, 3) := zo_17 (b1 := 1) (b2 := 6) (zkb3 zk_cX11_init zn_cX11_init rfl) rfl
theorem dX11_init_52 : decode cX11_init 52 = .ok (.invokespecial 22, 3) := zo_183 (b1 := 0) (b2 := 22) (zkb3 zk_cX11_init zn_cX11_init rfl) rfl
theorem dX11_init_55 : decode cX11_init 55 = .ok (.putfield 25, 3) := zo_181 (b1 := 0) (b2 := 25) (zkb3 zk_cX11_init zn_cX11_init rfl) rfl
theorem dX11_init_58 : decode cX11_init 58 = .ok (.aload_n 0, 1) := zo_42 (zkb zk_cX11_init zn_cX11_init rfl)
theorem dX11_init_59 : decode cX11_init 59 = .ok (.new 29, 3) := zo_187 (b1 := 0) (b2 := 29) (zkb3 zk_cX11_init zn_cX11_init rfl) rfl
theorem dX11_init_62 : decode cX11_init 62 = .ok (.dup, 1) := zo_89 (zkb zk_cX11_init zn_cX11_init rfl)
theorem dX11_init_63 : decode cX11_init 63 = .ok (.aload_n 0, 1) := zo_42 (zkb zk_cX11_init zn_cX11_init rfl)
theorem dX11_init_64 : decode cX11_init 64 = .ok (.getfield 25, 3) := zo_180 (b1 := 0) (b2 := 25) (zkb3 zk_cX11_init zn_cX11_init rfl) rfl
theorem dX11_init_67 : decode cX11_init 67 = .ok (.aload_n 0, 1) := zo_42 (zkb zk_cX11_init zn_cX11_init rfl)
theorem dX11_init_68 : decode cX11_init 68 = .ok (.getfield 7, 3) := zo_180 (b1 := 0) (b2 := 7) (zkb3 zk_cX11_init zn_cX11_init rfl) rfl
theorem dX11_init_71 : decode cX11_init 71 = .ok (.invokespecial 31, 3) := zo_183 (b1 := 0) (b2 := 31) (zkb3 zk_cX11_init zn_cX11_init rfl) rfl
theorem dX11_init_74 : decode cX11_init 74 = .ok (.putfield 34, 3) := zo_181 (b1 := 0) (b2 := 34) (zkb3 zk_cX11_init zn_cX11_init rfl) rfl
theorem dX11_init_77 : decode cX11_init 77 = .ok (.aload_n 0, 1) := zo_42 (zkb zk_cX11_init zn_cX11_init rfl)
theorem dX11_init_78 : decode cX11_init 78 = .ok (.new 38, 3) := zo_187 (b1 := 0) (b2 := 38) (zkb3 zk_cX11_init zn_cX11_init rfl) rfl
theorem dX11_init_81 : decode cX11_init 81 = .ok (.dup, 1) := zo_89 (zkb zk_cX11_init zn_cX11_init rfl)
theorem dX11_init_82 : decode cX11_init 82 = .ok (.invokespecial 40, 3) := zo_183 (b1 := 0) (b2 := 40) (zkb3 zk_cX11_init zn_cX11_init rfl) rfl
theorem dX11_init_85 : decode cX11_init 85 = .ok (.putfield 41, 3) := zo_181 (b1 := 0) (b2 := 41) (zkb3 zk_cX11_init zn_cX11_init rfl) rfl
theorem dX11_init_88 : decode cX11_init 88 = .ok (.aload_n 0, 1) := zo_42 (zkb zk_cX11_init zn_cX11_init rfl)
theorem dX11_init_89 : decode cX11_init 89 = .ok (.new 45, 3) := zo_187 (b1 := 0) (b2 := 45) (zkb3 zk_cX11_init zn_cX11_init rfl) rfl
theorem dX11_init_92 : decode cX11_init 92 = .ok (.dup, 1) := zo_89 (zkb zk_cX11_init zn_cX11_init rfl)
theorem dX11_init_93 : decode cX11_init 93 = .ok (.invokespecial 47, 3) := zo_183 (b1 := 0) (b2 := 47) (zkb3 zk_cX11_init zn_cX11_init rfl) rfl
theorem dX11_init_96 : decode cX11_init 96 = .ok (.putfield 48, 3) := zo_181 (b1 := 0) (b2 := 48) (zkb3 zk_cX11_init zn_cX11_init rfl) rfl
theorem dX11_init_99 : decode cX11_init 99 = .ok (.aload_n 0, 1) := zo_42 (zkb zk_cX11_init zn_cX11_init rfl)
theorem dX11_init_100 : decode cX11_init 100 = .ok (.new 52, 3) := zo_187 (b1 := 0) (b2 := 52) (zkb3 zk_cX11_init zn_cX11_init rfl) rfl
theorem dX11_init_103 : decode cX11_init 103 = .ok (.dup, 1) := zo_89 (zkb zk_cX11_init zn_cX11_init rfl)
theorem dX11_init_104 : decode cX11_init 104 = .ok (.aload_n 0, 1) := zo_42 (zkb zk_cX11_init zn_cX11_init rfl)
theorem dX11_init_105 : decode cX11_init 105 = .ok (.getfield 7, 3) := zo_180 (b1 := 0) (b2 := 7) (zkb3 zk_cX11_init zn_cX11_init rfl) rfl
theorem dX11_init_108 : decode cX11_init 108 = .ok (.aload_n 0, 1) := zo_42 (zkb zk_cX11_init zn_cX11_init rfl)
theorem dX11_init_109 : decode cX11_init 109 = .ok (.getfield 25, 3) := zo_180 (b1 := 0) (b2 := 25) (zkb3 zk_cX11_init zn_cX11_init rfl) rfl
theorem dX11_init_112 : decode cX11_init 112 = .ok (.aload_n 0, 1) := zo_42 (zkb zk_cX11_init zn_cX11_init rfl)
theorem dX11_init_113 : decode cX11_init 113 = .ok (.getfield 41, 3) := zo_180 (b1 := 0) (b2 := 41) (zkb3 zk_cX11_init zn_cX11_init rfl) rfl
theorem dX11_init_116 : decode cX11_init 116 = .ok (.aload_n 0, 1) := zo_42 (zkb zk_cX11_init zn_cX11_init rfl)
theorem dX11_init_117 : decode cX11_init 117 = .ok (.getfield 48, 3) := zo_180 (b1 := 0) (b2 := 48) (zkb3 zk_cX11_init zn_cX11_init rfl) rfl
theorem dX11_init_120 : decode cX11_init 120 = .ok (.invokespecial 54, 3) := zo_183 (b1 := 0) (b2 := 54) (zkb3 zk_cX11_init zn_cX11_init rfl) rfl
theorem dX11_init_123 : decode cX11_init 123 = .ok (.putfield 57, 3) := zo_181 (b1 := 0) (b2 := 57) (zkb3 zk_cX11_init zn_cX11_init rfl) rfl
theorem dX11_init_126 : decode cX11_init 126 = .ok (.aload_n 0, 1) := zo_42 (zkb zk_cX11_init zn_cX11_init rfl)
theorem dX11_init_127 : decode cX11_init 127 = .ok (.new 61, 3) := zo_187 (b1 := 0) (b2 := 61) (zkb3 zk_cX11_init zn_cX11_init rfl) rfl
theorem dX11_init_130 : decode cX11_init 130 = .ok (.dup, 1) := zo_89 (zkb zk_cX11_init zn_cX11_init rfl)
theorem dX11_init_131 : decode cX11_init 131 = .ok (.aload_n 0, 1) := zo_42 (zkb zk_cX11_init zn_cX11_init rfl)
theorem dX11_init_132 : decode cX11_init 132 = .ok (.getfield 16, 3) := zo_180 (b1 := 0) (b2 := 16) (zkb3 zk_cX11_init zn_cX11_init rfl) rfl
theorem dX11_init_135 : decode cX11_init 135 = .ok (.aload_n 0, 1) := zo_42 (zkb zk_cX11_init zn_cX11_init rfl)
theorem dX11_init_136 : decode cX11_init 136 = .ok (.getfield 57, 3) := zo_180 (b1 := 0) (b2 := 57) (zkb3 zk_cX11_init zn_cX11_init rfl) rfl
theorem dX11_init_139 : decode cX11_init 139 = .ok (.invokespecial 63, 3) := zo_183 (b1 := 0) (b2 := 63) (zkb3 zk_cX11_init zn_cX11_init rfl) rfl
theorem dX11_init_142 : decode cX11_init 142 = .ok (.putfield 66, 3) := zo_181 (b1 := 0) (b2 := 66) (zkb3 zk_cX11_init zn_cX11_init rfl) rfl
theorem dX11_init_145 : decode cX11_init 145 = .ok (.aload_n 0, 1) := zo_42 (zkb zk_cX11_init zn_cX11_init rfl)
theorem dX11_init_146 : decode cX11_init 146 = .ok (.new 70, 3) := zo_187 (b1 := 0) (b2 := 70) (zkb3 zk_cX11_init zn_cX11_init rfl) rfl
theorem dX11_init_149 : decode cX11_init 149 = .ok (.dup, 1) := zo_89 (zkb zk_cX11_init zn_cX11_init rfl)
theorem dX11_init_150 : decode cX11_init 150 = .ok (.aload_n 0, 1) := zo_42 (zkb zk_cX11_init zn_cX11_init rfl)
theorem dX11_init_151 : decode cX11_init 151 = .ok (.getfield 41, 3) := zo_180 (b1 := 0) (b2 := 41) (zkb3 zk_cX11_init zn_cX11_init rfl) rfl
theorem dX11_init_154 : decode cX11_init 154 = .ok (.aload_n 0, 1) := zo_42 (zkb zk_cX11_init zn_cX11_init rfl)
theorem dX11_init_155 : decode cX11_init 155 = .ok (.getfield 48, 3) := zo_180 (b1 := 0) (b2 := 48) (zkb3 zk_cX11_init zn_cX11_init rfl) rfl
theorem dX11_init_158 : decode cX11_init 158 = .ok (.invokespecial 72, 3) := zo_183 (b1 := 0) (b2 := 72) (zkb3 zk_cX11_init zn_cX11_init rfl) rfl
theorem dX11_init_161 : decode cX11_init 161 = .ok (.putfield 75, 3) := zo_181 (b1 := 0) (b2 := 75) (zkb3 zk_cX11_init zn_cX11_init rfl) rfl
theorem dX11_init_164 : decode cX11_init 164 = .ok (.aload_n 0, 1) := zo_42 (zkb zk_cX11_init zn_cX11_init rfl)
theorem dX11_init_165 : decode cX11_init 165 = .ok (.new 79, 3) := zo_187 (b1 := 0) (b2 := 79) (zkb3 zk_cX11_init zn_cX11_init rfl) rfl
theorem dX11_init_168 : decode cX11_init 168 = .ok (.dup, 1) := zo_89 (zkb zk_cX11_init zn_cX11_init rfl)
theorem dX11_init_169 : decode cX11_init 169 = .ok (.invokespecial 81, 3) := zo_183 (b1 := 0) (b2 := 81) (zkb3 zk_cX11_init zn_cX11_init rfl) rfl
theorem dX11_init_172 : decode cX11_init 172 = .ok (.putfield 82, 3) := zo_181 (b1 := 0) (b2 := 82) (zkb3 zk_cX11_init zn_cX11_init rfl) rfl
theorem dX11_init_175 : decode cX11_init 175 = .ok (.aload_n 0, 1) := zo_42 (zkb zk_cX11_init zn_cX11_init rfl)
theorem dX11_init_176 : decode cX11_init 176 = .ok (.new 86, 3) := zo_187 (b1 := 0) (b2 := 86) (zkb3 zk_cX11_init zn_cX11_init rfl) rfl
theorem dX11_init_179 : decode cX11_init 179 = .ok (.dup, 1) := zo_89 (zkb zk_cX11_init zn_cX11_init rfl)
theorem dX11_init_180 : decode cX11_init 180 = .ok (.aload_n 0, 1) := zo_42 (zkb zk_cX11_init zn_cX11_init rfl)
theorem dX11_init_181 : decode cX11_init 181 = .ok (.getfield 16, 3) := zo_180 (b1 := 0) (b2 := 16) (zkb3 zk_cX11_init zn_cX11_init rfl) rfl
theorem dX11_init_184 : decode cX11_init 184 = .ok (.invokespecial 88, 3) := zo_183 (b1 := 0) (b2 := 88) (zkb3 zk_cX11_init zn_cX11_init rfl) rfl
theorem dX11_init_187 : decode cX11_init 187 = .ok (.putfield 91, 3) := zo_181 (b1 := 0) (b2 := 91) (zkb3 zk_cX11_init zn_cX11_init rfl) rfl
theorem dX11_init_190 : decode cX11_init 190 = .ok (.return_, 1) := zo_177 (zkb zk_cX11_init zn_cX11_init rfl)
set_option maxRecDepth 20000 in
set_option maxHeartbeats 4000000 in
theorem cX11_init_met (st : Nat → Nat) (l : Launch) (D : va_G) (h0 : Nat) (x1 : Int32) (σN4 : zSt) (hfN4 : fX7_clear zS0 = some σN4) (σN5 : zSt) (hfN5 : fX10_clear zS0 = some σN5) (σN6 : Int32 → zSt) (hfN6 : ∀ v, fX4_clear (zsi (zsi (zsi zS0 6 0 v) 34 10 1) 34 11 1) = some (σN6 v)) (σN9 : zSt) (hfN9 : fJ7_fill_53178_k44 zS0 (-1) = some σN9) (sz : Nat) : zN st l yX11_init wzX11_init rmX11_init [.ref h0, .int x1] D [(h0, .inr (13, [.int 0, .null, .null, .null, .null, .null, .null, .null, .null, .null, .null, .int 0]))] sz (fun ad cy => wC ad cy (zC0 (zsi zS0 0 0 (if x1 = 2 then 1 else 0)) ((zsi (zsi (zsi (zsi (zsi (zsi zS0 1 1 1) 1 7 (-1)) 19 0 0) 19 1 1) 19 2 2) 19 3 0)) ((zsi (zsi zS0 2 0 (if x1 = 2 then 1 else 0)) 2 1 (if x1 = 1 then 313 else 262))) ((zsi zS0 3 1 (if x1 = 2 then 1 else 0))) σN4 σN5 (σN6 (if x1 = 2 then 1 else 0)) ((zsi (zsi zS0 7 4 6) 36 18 57328)) zS0 σN9 zS0)) tC (fun f => h0 = f 0) 49 782394 := by
  refine zN.of (cc := cX11_init) (maxL := 2) (by decide) rfl rfl (Nat.le_of_ble_eq_true rfl) (fun p e s m args below meth c hC hnm A hI ls hl => ?_)
  have hx := hC.1
  have hb := hC.2.1
  refine lv_aload_n hx hb dX11_init_0 rfl (lv_at hl 0 rfl) ?_
  refine z_objInit hC hl (List.mem_cons_of_mem _ zw1_15) (List.mem_cons_of_mem _ zw1_16) (List.mem_cons_of_mem _ zw1_17) dX11_init_1 (Nat.le_of_ble_eq_true rfl) (Nat.le_of_ble_eq_true rfl) ?_
  refine lv_aload_n hx hb dX11_init_4 rfl (lv_at hl 0 rfl) ?_
  refine lv_iload_n hx hb dX11_init_5 rfl (lv_at hl 1 rfl) ?_
  refine lv_iconst (v := 2) hx hb dX11_init_6 (by decide) ?_
  refine z_tern (x := x1) (k := 2) (a := 1) (b := 0) (pcJ := 15) hx hb dX11_init_7 (by decide) (fun h => lv_iconst (v := 1) hx hb dX11_init_10 (by decide) h) (fun h => lv_goto (tgt := 15) hx hb dX11_init_11 (by decide) h) (fun h => lv_iconst (v := 0) hx hb dX11_init_14 (by decide) h) ?_
  refine lv_topi (fun v0 ev0 => ?_)
  have hz0 : zbo v0 = true := by rw [ev0]; split <;> rfl
  refine z_putF hC hnm hI (w1 := [(h0, .inr (13, [.int v0, .null, .null, .null, .null, .null, .null, .null, .null, .null, .null, .int 0]))]) (fun w h => List.mem_cons_of_mem _ (inlX11 w h)) tyX11_ok nmX11 0 rfl rfl 0 (by decide) (List.mem_cons_of_mem _ zw1_18) rfl rfl (zbo_n hz0) (zbo_f hz0) (Nat.le_of_ble_eq_true rfl) rfl dX11_init_15 (fun H locs hI => ?_)
  refine lv_aload_n hx hb dX11_init_18 rfl (lv_at hl 0 rfl) ?_
  refine z_new (ci := 4) hC hI (fun w h => List.mem_cons_of_mem _ (inlX2 w h)) tyX2_ok (List.mem_cons_of_mem _ zw1_19) (List.mem_cons_of_mem _ zw1_20) (List.mem_cons_of_mem _ zw1_21) rfl [.null, .null, .int 0, .int 0, .int 0, .int 0, .int 0, .int 0, .null, .null, .null, .null, .null, .null] (fun j hj => by rcases (show j = 0 ∨ j = 1 ∨ j = 2 ∨ j = 3 ∨ j = 4 ∨ j = 5 ∨ j = 6 ∨ j = 7 ∨ j = 8 ∨ j = 9 ∨ j = 10 ∨ j = 11 ∨ j = 12 ∨ j = 13 by omega) with rfl | rfl | rfl | rfl | rfl | rfl | rfl | rfl | rfl | rfl | rfl | rfl | rfl | rfl <;> rfl) (Nat.le_of_ble_eq_true rfl) (Nat.le_of_ble_eq_true rfl) dX11_init_19 (fun q1 H hI => ?_)
  have hI : zI st D [] ([(h0, .inr (13, [.int v0, .null, .null, .null, .null, .null, .null, .null, .null, .null, .null, .int 0]))] ++ [(q1, .inr (4, [.null, .null, .int 0, .int 0, .int 0, .int 0, .int 0, .int 0, .null, .null, .null, .null, .null, .null]))]) A s H _ := hI
  refine lv_dup hx hb dX11_init_22 rfl ?_
  refine z_callIN (As := []) (rest := [.ref q1, .ref h0]) (host := "PadConsole") hC hI (cX2_init_met st l D q1  ) (zgI zw3_12) rfl rfl rfl (List.mem_cons_of_mem _ zw1_21) (by decide) (List.mem_cons_of_mem _ zw3_11) rfl 0 hdX2_init ⟨Nat.le_of_ble_eq_true rfl, Nat.le_of_ble_eq_true rfl⟩ rfl hl rfl (Nat.le_of_ble_eq_true rfl) dX11_init_23 ⟨Nat.le_of_ble_eq_true rfl, Nat.le_of_ble_eq_true rfl⟩ (fun ad1 cy1 H locs hex hI2 => ?_)
  have hq1 : q1 = ad1 1 := hex
  subst hq1
  have hI : zI st D (tN1 cy1) ([(h0, .inr (13, [.int v0, .null, .null, .null, .null, .null, .null, .null, .null, .null, .null, .int 0]))] ++ wN1 ad1 cy1 ((zsi (zsi (zsi (zsi (zsi (zsi zS0 1 1 1) 1 7 (-1)) 19 0 0) 19 1 1) 19 2 2) 19 3 0))) A s H _ := hI2
  refine z_putF hC hnm hI (w1 := ([(h0, .inr (13, [.int v0, .ref (ad1 1), .null, .null, .null, .null, .null, .null, .null, .null, .null, .int 0]))] ++ wN1 ad1 cy1 ((zsi (zsi (zsi (zsi (zsi (zsi zS0 1 1 1) 1 7 (-1)) 19 0 0) 19 1 1) 19 2 2) 19 3 0)))) (fun w h => List.mem_cons_of_mem _ (inlX11 w h)) tyX11_ok nmX11 0 rfl rfl 1 (by decide) (List.mem_cons_of_mem _ zw1_22) rfl rfl rfl rfl (Nat.le_of_ble_eq_true rfl) rfl dX11_init_26 (fun H locs hI => ?_)
  refine lv_aload_n hx hb dX11_init_29 rfl (lv_at hl 0 rfl) ?_
  refine z_new (ci := 11) hC hI (fun w h => List.mem_cons_of_mem _ (inlX9 w h)) tyX9_ok (List.mem_cons_of_mem _ zw1_23) (List.mem_cons_of_mem _ zw2_0) (List.mem_cons_of_mem _ zw2_1) rfl [.int 0, .int 0, .null, .null, .null, .null] (fun j hj => by rcases (show j = 0 ∨ j = 1 ∨ j = 2 ∨ j = 3 ∨ j = 4 ∨ j = 5 by omega) with rfl | rfl | rfl | rfl | rfl | rfl <;> rfl) (Nat.le_of_ble_eq_true rfl) (Nat.le_of_ble_eq_true rfl) dX11_init_30 (fun q2 H hI => ?_)
  have hI : zI st D (tN1 cy1) (([(h0, .inr (13, [.int v0, .ref (ad1 1), .null, .null, .null, .null, .null, .null, .null, .null, .null, .int 0]))] ++ wN1 ad1 cy1 ((zsi (zsi (zsi (zsi (zsi (zsi zS0 1 1 1) 1 7 (-1)) 19 0 0) 19 1 1) 19 2 2) 19 3 0))) ++ [(q2, .inr (11, [.int 0, .int 0, .null, .null, .null, .null]))]) A s H _ := hI
  refine lv_dup hx hb dX11_init_33 rfl ?_
  refine lv_aload_n hx hb dX11_init_34 rfl (lv_at hl 0 rfl) ?_
  refine z_get (v := .int v0) hC hI (fun w h => List.mem_cons_of_mem _ (inlX11 w h)) 0 rfl rfl 0 (by decide) (List.mem_cons_of_mem _ zw1_18) rfl dX11_init_35 ?_
  refine lv_iload_n hx hb dX11_init_38 rfl (lv_at hl 1 rfl) ?_
  refine lv_iconst (v := 1) hx hb dX11_init_39 (by decide) ?_
  refine z_tern (x := x1) (k := 1) (a := 313) (b := 262) (pcJ := 52) hx hb dX11_init_40 (by decide) (fun h => lv_sipush (v := 313) hx hb dX11_init_43 (by decide) h) (fun h => lv_goto (tgt := 52) hx hb dX11_init_46 (by decide) h) (fun h => lv_sipush (v := 262) hx hb dX11_init_49 (by decide) h) ?_
  refine lv_topi (fun v1 ev1 => ?_)
  refine z_callI (As := [.int v0, .int v1]) (rest := [.ref q2, .ref h0]) hC hI (cX9_init_met st l D q2 v0 v1 hz0) (zgI zw4_4) rfl rfl rfl (List.mem_cons_of_mem _ zw2_1) (List.mem_cons_of_mem _ zw4_2) (List.mem_cons_of_mem _ zw4_3) rfl 2 hdX9_init ⟨Nat.le_of_ble_eq_true rfl, Nat.le_of_ble_eq_true rfl⟩ rfl hl rfl (Nat.le_of_ble_eq_true rfl) dX11_init_52 ⟨Nat.le_of_ble_eq_true rfl, Nat.le_of_ble_eq_true rfl⟩ (fun ad2 cy2 H locs hex hI2 => ?_)
  have hq2 : q2 = ad2 2 := hex
  subst hq2
  have hI : zI st D (tN1 cy1 ++ tN2 cy2) (([(h0, .inr (13, [.int v0, .ref (ad1 1), .null, .null, .null, .null, .null, .null, .null, .null, .null, .int 0]))] ++ wN1 ad1 cy1 ((zsi (zsi (zsi (zsi (zsi (zsi zS0 1 1 1) 1 7 (-1)) 19 0 0) 19 1 1) 19 2 2) 19 3 0))) ++ wN2 ad2 cy2 ((zsi (zsi zS0 2 0 v0) 2 1 v1))) A s H _ := hI2
  refine z_putF hC hnm hI (w1 := (([(h0, .inr (13, [.int v0, .ref (ad1 1), .ref (ad2 2), .null, .null, .null, .null, .null, .null, .null, .null, .int 0]))] ++ wN1 ad1 cy1 ((zsi (zsi (zsi (zsi (zsi (zsi zS0 1 1 1) 1 7 (-1)) 19 0 0) 19 1 1) 19 2 2) 19 3 0))) ++ wN2 ad2 cy2 ((zsi (zsi zS0 2 0 v0) 2 1 v1)))) (fun w h => List.mem_cons_of_mem _ (inlX11 w h)) tyX11_ok nmX11 0 rfl rfl 2 (by decide) (List.mem_cons_of_mem _ zw2_2) rfl rfl rfl rfl (Nat.le_of_ble_eq_true rfl) rfl dX11_init_55 (fun H locs hI => ?_)
  refine lv_aload_n hx hb dX11_init_58 rfl (lv_at hl 0 rfl) ?_
  refine z_new (ci := 5) hC hI (fun w h => List.mem_cons_of_mem _ (inlX3 w h)) tyX3_ok (List.mem_cons_of_mem _ zw2_3) (List.mem_cons_of_mem _ zw2_4) (List.mem_cons_of_mem _ zw2_5) rfl [.null, .int 0, .null, .null, .null, .null, .null, .int 0, .int 0] (fun j hj => by rcases (show j = 0 ∨ j = 1 ∨ j = 2 ∨ j = 3 ∨ j = 4 ∨ j = 5 ∨ j = 6 ∨ j = 7 ∨ j = 8 by omega) with rfl | rfl | rfl | rfl | rfl | rfl | rfl | rfl | rfl <;> rfl) (Nat.le_of_ble_eq_true rfl) (Nat.le_of_ble_eq_true rfl) dX11_init_59 (fun q3 H hI => ?_)
  have hI : zI st D (tN1 cy1 ++ tN2 cy2) ((([(h0, .inr (13, [.int v0, .ref (ad1 1), .ref (ad2 2), .null, .null, .null, .null, .null, .null, .null, .null, .int 0]))] ++ wN1 ad1 cy1 ((zsi (zsi (zsi (zsi (zsi (zsi zS0 1 1 1) 1 7 (-1)) 19 0 0) 19 1 1) 19 2 2) 19 3 0))) ++ wN2 ad2 cy2 ((zsi (zsi zS0 2 0 v0) 2 1 v1))) ++ [(q3, .inr (5, [.null, .int 0, .null, .null, .null, .null, .null, .int 0, .int 0]))]) A s H _ := hI
  refine lv_dup hx hb dX11_init_62 rfl ?_
  refine lv_aload_n hx hb dX11_init_63 rfl (lv_at hl 0 rfl) ?_
  refine z_get (v := .ref (ad2 2)) hC hI (fun w h => List.mem_cons_of_mem _ (inlX11 w h)) 0 rfl rfl 2 (by decide) (List.mem_cons_of_mem _ zw2_2) rfl dX11_init_64 ?_
  refine lv_aload_n hx hb dX11_init_67 rfl (lv_at hl 0 rfl) ?_
  refine z_get (v := .int v0) hC hI (fun w h => List.mem_cons_of_mem _ (inlX11 w h)) 0 rfl rfl 0 (by decide) (List.mem_cons_of_mem _ zw1_18) rfl dX11_init_68 ?_
  refine z_callI (As := [.ref ((ad2 2)), .int v0]) (rest := [.ref q3, .ref h0]) hC hI (cX3_init_met st l D q3 ((ad2 2)) v0 hz0) (zgI zw4_14) rfl rfl rfl (List.mem_cons_of_mem _ zw2_5) (List.mem_cons_of_mem _ zw4_12) (List.mem_cons_of_mem _ zw4_13) rfl 2 hdX3_init ⟨Nat.le_of_ble_eq_true rfl, Nat.le_of_ble_eq_true rfl⟩ rfl hl rfl (Nat.le_of_ble_eq_true rfl) dX11_init_71 ⟨Nat.le_of_ble_eq_true rfl, Nat.le_of_ble_eq_true rfl⟩ (fun ad3 cy3 H locs hex hI2 => ?_)
  obtain ⟨hq3, hx3_2⟩ := hex
  subst hq3
  have hI : zI st D ((tN1 cy1 ++ tN2 cy2) ++ tN3 cy3) ((([(h0, .inr (13, [.int v0, .ref (ad1 1), .ref (ad2 2), .null, .null, .null, .null, .null, .null, .null, .null, .int 0]))] ++ wN1 ad1 cy1 ((zsi (zsi (zsi (zsi (zsi (zsi zS0 1 1 1) 1 7 (-1)) 19 0 0) 19 1 1) 19 2 2) 19 3 0))) ++ wN2 ad2 cy2 ((zsi (zsi zS0 2 0 v0) 2 1 v1))) ++ wN3 ad3 cy3 ((zsi zS0 3 1 v0))) A s H _ := hI2
  refine z_putF hC hnm hI (w1 := ((([(h0, .inr (13, [.int v0, .ref (ad1 1), .ref (ad2 2), .ref (ad3 3), .null, .null, .null, .null, .null, .null, .null, .int 0]))] ++ wN1 ad1 cy1 ((zsi (zsi (zsi (zsi (zsi (zsi zS0 1 1 1) 1 7 (-1)) 19 0 0) 19 1 1) 19 2 2) 19 3 0))) ++ wN2 ad2 cy2 ((zsi (zsi zS0 2 0 v0) 2 1 v1))) ++ wN3 ad3 cy3 ((zsi zS0 3 1 v0)))) (fun w h => List.mem_cons_of_mem _ (inlX11 w h)) tyX11_ok nmX11 0 rfl rfl 3 (by decide) (List.mem_cons_of_mem _ zw2_6) rfl rfl rfl rfl (Nat.le_of_ble_eq_true rfl) rfl dX11_init_74 (fun H locs hI => ?_)
  refine lv_aload_n hx hb dX11_init_77 rfl (lv_at hl 0 rfl) ?_
  refine z_new (ci := 9) hC hI (fun w h => List.mem_cons_of_mem _ (inlX7 w h)) tyX7_ok (List.mem_cons_of_mem _ zw2_7) (List.mem_cons_of_mem _ zw2_8) (List.mem_cons_of_mem _ zw2_9) rfl [.null, .null] (fun j hj => by rcases (show j = 0 ∨ j = 1 by omega) with rfl | rfl <;> rfl) (Nat.le_of_ble_eq_true rfl) (Nat.le_of_ble_eq_true rfl) dX11_init_78 (fun q4 H hI => ?_)
  have hI : zI st D ((tN1 cy1 ++ tN2 cy2) ++ tN3 cy3) (((([(h0, .inr (13, [.int v0, .ref (ad1 1), .ref (ad2 2), .ref (ad3 3), .null, .null, .null, .null, .null, .null, .null, .int 0]))] ++ wN1 ad1 cy1 ((zsi (zsi (zsi (zsi (zsi (zsi zS0 1 1 1) 1 7 (-1)) 19 0 0) 19 1 1) 19 2 2) 19 3 0))) ++ wN2 ad2 cy2 ((zsi (zsi zS0 2 0 v0) 2 1 v1))) ++ wN3 ad3 cy3 ((zsi zS0 3 1 v0))) ++ [(q4, .inr (9, [.null, .null]))]) A s H _ := hI
  refine lv_dup hx hb dX11_init_81 rfl ?_
  refine z_callI (As := []) (rest := [.ref q4, .ref h0]) hC hI (cX7_init_met st l D q4   σN4 hfN4) (zgI zw5_2) rfl rfl rfl (List.mem_cons_of_mem _ zw2_9) (List.mem_cons_of_mem _ zw5_0) (List.mem_cons_of_mem _ zw5_1) rfl 0 hdX7_init ⟨Nat.le_of_ble_eq_true rfl, Nat.le_of_ble_eq_true rfl⟩ rfl hl rfl (Nat.le_of_ble_eq_true rfl) dX11_init_82 ⟨Nat.le_of_ble_eq_true rfl, Nat.le_of_ble_eq_true rfl⟩ (fun ad4 cy4 H locs hex hI2 => ?_)
  have hq4 : q4 = ad4 4 := hex
  subst hq4
  have hI : zI st D (((tN1 cy1 ++ tN2 cy2) ++ tN3 cy3) ++ tN4 cy4) (((([(h0, .inr (13, [.int v0, .ref (ad1 1), .ref (ad2 2), .ref (ad3 3), .null, .null, .null, .null, .null, .null, .null, .int 0]))] ++ wN1 ad1 cy1 ((zsi (zsi (zsi (zsi (zsi (zsi zS0 1 1 1) 1 7 (-1)) 19 0 0) 19 1 1) 19 2 2) 19 3 0))) ++ wN2 ad2 cy2 ((zsi (zsi zS0 2 0 v0) 2 1 v1))) ++ wN3 ad3 cy3 ((zsi zS0 3 1 v0))) ++ wN4 ad4 cy4 σN4) A s H _ := hI2
  refine z_putF hC hnm hI (w1 := (((([(h0, .inr (13, [.int v0, .ref (ad1 1), .ref (ad2 2), .ref (ad3 3), .ref (ad4 4), .null, .null, .null, .null, .null, .null, .int 0]))] ++ wN1 ad1 cy1 ((zsi (zsi (zsi (zsi (zsi (zsi zS0 1 1 1) 1 7 (-1)) 19 0 0) 19 1 1) 19 2 2) 19 3 0))) ++ wN2 ad2 cy2 ((zsi (zsi zS0 2 0 v0) 2 1 v1))) ++ wN3 ad3 cy3 ((zsi zS0 3 1 v0))) ++ wN4 ad4 cy4 σN4)) (fun w h => List.mem_cons_of_mem _ (inlX11 w h)) tyX11_ok nmX11 0 rfl rfl 4 (by decide) (List.mem_cons_of_mem _ zw2_10) rfl rfl rfl rfl (Nat.le_of_ble_eq_true rfl) rfl dX11_init_85 (fun H locs hI => ?_)
  refine lv_aload_n hx hb dX11_init_88 rfl (lv_at hl 0 rfl) ?_
  refine z_new (ci := 12) hC hI (fun w h => List.mem_cons_of_mem _ (inlX10 w h)) tyX10_ok (List.mem_cons_of_mem _ zw2_11) (List.mem_cons_of_mem _ zw2_12) (List.mem_cons_of_mem _ zw2_13) rfl [.null, .null, .int 0, .int 0, .int 0, .int 0, .long 0, .long 0] (fun j hj => by rcases (show j = 0 ∨ j = 1 ∨ j = 2 ∨ j = 3 ∨ j = 4 ∨ j = 5 ∨ j = 6 ∨ j = 7 by omega) with rfl | rfl | rfl | rfl | rfl | rfl | rfl | rfl <;> rfl) (Nat.le_of_ble_eq_true rfl) (Nat.le_of_ble_eq_true rfl) dX11_init_89 (fun q5 H hI => ?_)
  have hI : zI st D (((tN1 cy1 ++ tN2 cy2) ++ tN3 cy3) ++ tN4 cy4) ((((([(h0, .inr (13, [.int v0, .ref (ad1 1), .ref (ad2 2), .ref (ad3 3), .ref (ad4 4), .null, .null, .null, .null, .null, .null, .int 0]))] ++ wN1 ad1 cy1 ((zsi (zsi (zsi (zsi (zsi (zsi zS0 1 1 1) 1 7 (-1)) 19 0 0) 19 1 1) 19 2 2) 19 3 0))) ++ wN2 ad2 cy2 ((zsi (zsi zS0 2 0 v0) 2 1 v1))) ++ wN3 ad3 cy3 ((zsi zS0 3 1 v0))) ++ wN4 ad4 cy4 σN4) ++ [(q5, .inr (12, [.null, .null, .int 0, .int 0, .int 0, .int 0, .long 0, .long 0]))]) A s H _ := hI
  refine lv_dup hx hb dX11_init_92 rfl ?_
  refine z_callI (As := []) (rest := [.ref q5, .ref h0]) hC hI (cX10_init_met st l D q5   σN5 hfN5) (zgI zw6_2) rfl rfl rfl (List.mem_cons_of_mem _ zw2_13) (List.mem_cons_of_mem _ zw6_0) (List.mem_cons_of_mem _ zw6_1) rfl 0 hdX10_init ⟨Nat.le_of_ble_eq_true rfl, Nat.le_of_ble_eq_true rfl⟩ rfl hl rfl (Nat.le_of_ble_eq_true rfl) dX11_init_93 ⟨Nat.le_of_ble_eq_true rfl, Nat.le_of_ble_eq_true rfl⟩ (fun ad5 cy5 H locs hex hI2 => ?_)
  have hq5 : q5 = ad5 5 := hex
  subst hq5
  have hI : zI st D ((((tN1 cy1 ++ tN2 cy2) ++ tN3 cy3) ++ tN4 cy4) ++ tN5 cy5) ((((([(h0, .inr (13, [.int v0, .ref (ad1 1), .ref (ad2 2), .ref (ad3 3), .ref (ad4 4), .null, .null, .null, .null, .null, .null, .int 0]))] ++ wN1 ad1 cy1 ((zsi (zsi (zsi (zsi (zsi (zsi zS0 1 1 1) 1 7 (-1)) 19 0 0) 19 1 1) 19 2 2) 19 3 0))) ++ wN2 ad2 cy2 ((zsi (zsi zS0 2 0 v0) 2 1 v1))) ++ wN3 ad3 cy3 ((zsi zS0 3 1 v0))) ++ wN4 ad4 cy4 σN4) ++ wN5 ad5 cy5 σN5) A s H _ := hI2
  refine z_putF hC hnm hI (w1 := ((((([(h0, .inr (13, [.int v0, .ref (ad1 1), .ref (ad2 2), .ref (ad3 3), .ref (ad4 4), .ref (ad5 5), .null, .null, .null, .null, .null, .int 0]))] ++ wN1 ad1 cy1 ((zsi (zsi (zsi (zsi (zsi (zsi zS0 1 1 1) 1 7 (-1)) 19 0 0) 19 1 1) 19 2 2) 19 3 0))) ++ wN2 ad2 cy2 ((zsi (zsi zS0 2 0 v0) 2 1 v1))) ++ wN3 ad3 cy3 ((zsi zS0 3 1 v0))) ++ wN4 ad4 cy4 σN4) ++ wN5 ad5 cy5 σN5)) (fun w h => List.mem_cons_of_mem _ (inlX11 w h)) tyX11_ok nmX11 0 rfl rfl 5 (by decide) (List.mem_cons_of_mem _ zw2_14) rfl rfl rfl rfl (Nat.le_of_ble_eq_true rfl) rfl dX11_init_96 (fun H locs hI => ?_)
  refine lv_aload_n hx hb dX11_init_99 rfl (lv_at hl 0 rfl) ?_
  refine z_new (ci := 6) hC hI (fun w h => List.mem_cons_of_mem _ (inlX4 w h)) tyX4_ok (List.mem_cons_of_mem _ zw2_15) (List.mem_cons_of_mem _ zw2_16) (List.mem_cons_of_mem _ zw2_17) rfl [.int 0, .null, .null, .null, .null, .null] (fun j hj => by rcases (show j = 0 ∨ j = 1 ∨ j = 2 ∨ j = 3 ∨ j = 4 ∨ j = 5 by omega) with rfl | rfl | rfl | rfl | rfl | rfl <;> rfl) (Nat.le_of_ble_eq_true rfl) (Nat.le_of_ble_eq_true rfl) dX11_init_100 (fun q6 H hI => ?_)
  have hI : zI st D ((((tN1 cy1 ++ tN2 cy2) ++ tN3 cy3) ++ tN4 cy4) ++ tN5 cy5) (((((([(h0, .inr (13, [.int v0, .ref (ad1 1), .ref (ad2 2), .ref (ad3 3), .ref (ad4 4), .ref (ad5 5), .null, .null, .null, .null, .null, .int 0]))] ++ wN1 ad1 cy1 ((zsi (zsi (zsi (zsi (zsi (zsi zS0 1 1 1) 1 7 (-1)) 19 0 0) 19 1 1) 19 2 2) 19 3 0))) ++ wN2 ad2 cy2 ((zsi (zsi zS0 2 0 v0) 2 1 v1))) ++ wN3 ad3 cy3 ((zsi zS0 3 1 v0))) ++ wN4 ad4 cy4 σN4) ++ wN5 ad5 cy5 σN5) ++ [(q6, .inr (6, [.int 0, .null, .null, .null, .null, .null]))]) A s H _ := hI
  refine lv_dup hx hb dX11_init_103 rfl ?_
  refine lv_aload_n hx hb dX11_init_104 rfl (lv_at hl 0 rfl) ?_
  refine z_get (v := .int v0) hC hI (fun w h => List.mem_cons_of_mem _ (inlX11 w h)) 0 rfl rfl 0 (by decide) (List.mem_cons_of_mem _ zw1_18) rfl dX11_init_105 ?_
  refine lv_aload_n hx hb dX11_init_108 rfl (lv_at hl 0 rfl) ?_
  refine z_get (v := .ref (ad2 2)) hC hI (fun w h => List.mem_cons_of_mem _ (inlX11 w h)) 0 rfl rfl 2 (by decide) (List.mem_cons_of_mem _ zw2_2) rfl dX11_init_109 ?_
  refine lv_aload_n hx hb dX11_init_112 rfl (lv_at hl 0 rfl) ?_
  refine z_get (v := .ref (ad4 4)) hC hI (fun w h => List.mem_cons_of_mem _ (inlX11 w h)) 0 rfl rfl 4 (by decide) (List.mem_cons_of_mem _ zw2_10) rfl dX11_init_113 ?_
  refine lv_aload_n hx hb dX11_init_116 rfl (lv_at hl 0 rfl) ?_
  refine z_get (v := .ref (ad5 5)) hC hI (fun w h => List.mem_cons_of_mem _ (inlX11 w h)) 0 rfl rfl 5 (by decide) (List.mem_cons_of_mem _ zw2_14) rfl dX11_init_117 ?_
  refine z_callI (As := [.int v0, .ref ((ad2 2)), .ref ((ad4 4)), .ref ((ad5 5))]) (rest := [.ref q6, .ref h0]) hC hI (cX4_init_met st l D q6 v0 ((ad2 2)) ((ad4 4)) ((ad5 5)) hz0 (σN6 v0) (hfN6 v0)) (zgI zw6_13) rfl rfl rfl (List.mem_cons_of_mem _ zw2_17) (List.mem_cons_of_mem _ zw6_11) (List.mem_cons_of_mem _ zw6_12) rfl 4 hdX4_init ⟨Nat.le_of_ble_eq_true rfl, Nat.le_of_ble_eq_true rfl⟩ rfl hl rfl (Nat.le_of_ble_eq_true rfl) dX11_init_120 ⟨Nat.le_of_ble_eq_true rfl, Nat.le_of_ble_eq_true rfl⟩ (fun ad6 cy6 H locs hex hI2 => ?_)
  obtain ⟨hq6, hx6_2, hx6_4, hx6_5⟩ := hex
  subst hq6
  have hI : zI st D (((((tN1 cy1 ++ tN2 cy2) ++ tN3 cy3) ++ tN4 cy4) ++ tN5 cy5) ++ tN6 cy6) (((((([(h0, .inr (13, [.int v0, .ref (ad1 1), .ref (ad2 2), .ref (ad3 3), .ref (ad4 4), .ref (ad5 5), .null, .null, .null, .null, .null, .int 0]))] ++ wN1 ad1 cy1 ((zsi (zsi (zsi (zsi (zsi (zsi zS0 1 1 1) 1 7 (-1)) 19 0 0) 19 1 1) 19 2 2) 19 3 0))) ++ wN2 ad2 cy2 ((zsi (zsi zS0 2 0 v0) 2 1 v1))) ++ wN3 ad3 cy3 ((zsi zS0 3 1 v0))) ++ wN4 ad4 cy4 σN4) ++ wN5 ad5 cy5 σN5) ++ wN6 ad6 cy6 (σN6 v0)) A s H _ := hI2
  refine z_putF hC hnm hI (w1 := (((((([(h0, .inr (13, [.int v0, .ref (ad1 1), .ref (ad2 2), .ref (ad3 3), .ref (ad4 4), .ref (ad5 5), .ref (ad6 6), .null, .null, .null, .null, .int 0]))] ++ wN1 ad1 cy1 ((zsi (zsi (zsi (zsi (zsi (zsi zS0 1 1 1) 1 7 (-1)) 19 0 0) 19 1 1) 19 2 2) 19 3 0))) ++ wN2 ad2 cy2 ((zsi (zsi zS0 2 0 v0) 2 1 v1))) ++ wN3 ad3 cy3 ((zsi zS0 3 1 v0))) ++ wN4 ad4 cy4 σN4) ++ wN5 ad5 cy5 σN5) ++ wN6 ad6 cy6 (σN6 v0))) (fun w h => List.mem_cons_of_mem _ (inlX11 w h)) tyX11_ok nmX11 0 rfl rfl 6 (by decide) (List.mem_cons_of_mem _ zw2_18) rfl rfl rfl rfl (Nat.le_of_ble_eq_true rfl) rfl dX11_init_123 (fun H locs hI => ?_)
  refine lv_aload_n hx hb dX11_init_126 rfl (lv_at hl 0 rfl) ?_
  refine z_new (ci := 7) hC hI (fun w h => List.mem_cons_of_mem _ (inlX5 w h)) tyX5_ok (List.mem_cons_of_mem _ zw2_19) (List.mem_cons_of_mem _ zw2_20) (List.mem_cons_of_mem _ zw2_21) rfl [.null, .null, .null, .null, .int 0, .int 0] (fun j hj => by rcases (show j = 0 ∨ j = 1 ∨ j = 2 ∨ j = 3 ∨ j = 4 ∨ j = 5 by omega) with rfl | rfl | rfl | rfl | rfl | rfl <;> rfl) (Nat.le_of_ble_eq_true rfl) (Nat.le_of_ble_eq_true rfl) dX11_init_127 (fun q7 H hI => ?_)
  have hI : zI st D (((((tN1 cy1 ++ tN2 cy2) ++ tN3 cy3) ++ tN4 cy4) ++ tN5 cy5) ++ tN6 cy6) ((((((([(h0, .inr (13, [.int v0, .ref (ad1 1), .ref (ad2 2), .ref (ad3 3), .ref (ad4 4), .ref (ad5 5), .ref (ad6 6), .null, .null, .null, .null, .int 0]))] ++ wN1 ad1 cy1 ((zsi (zsi (zsi (zsi (zsi (zsi zS0 1 1 1) 1 7 (-1)) 19 0 0) 19 1 1) 19 2 2) 19 3 0))) ++ wN2 ad2 cy2 ((zsi (zsi zS0 2 0 v0) 2 1 v1))) ++ wN3 ad3 cy3 ((zsi zS0 3 1 v0))) ++ wN4 ad4 cy4 σN4) ++ wN5 ad5 cy5 σN5) ++ wN6 ad6 cy6 (σN6 v0)) ++ [(q7, .inr (7, [.null, .null, .null, .null, .int 0, .int 0]))]) A s H _ := hI
  refine lv_dup hx hb dX11_init_130 rfl ?_
  refine lv_aload_n hx hb dX11_init_131 rfl (lv_at hl 0 rfl) ?_
  refine z_get (v := .ref (ad1 1)) hC hI (fun w h => List.mem_cons_of_mem _ (inlX11 w h)) 0 rfl rfl 1 (by decide) (List.mem_cons_of_mem _ zw1_22) rfl dX11_init_132 ?_
  refine lv_aload_n hx hb dX11_init_135 rfl (lv_at hl 0 rfl) ?_
  refine z_get (v := .ref (ad6 6)) hC hI (fun w h => List.mem_cons_of_mem _ (inlX11 w h)) 0 rfl rfl 6 (by decide) (List.mem_cons_of_mem _ zw2_18) rfl dX11_init_136 ?_
  refine z_callI (As := [.ref ((ad1 1)), .ref ((ad6 6))]) (rest := [.ref q7, .ref h0]) hC hI (cX5_init_met st l D q7 ((ad1 1)) ((ad6 6)) ) (zgI zw7_3) rfl rfl rfl (List.mem_cons_of_mem _ zw2_21) (List.mem_cons_of_mem _ zw7_1) (List.mem_cons_of_mem _ zw7_2) rfl 2 hdX5_init ⟨Nat.le_of_ble_eq_true rfl, Nat.le_of_ble_eq_true rfl⟩ rfl hl rfl (Nat.le_of_ble_eq_true rfl) dX11_init_139 ⟨Nat.le_of_ble_eq_true rfl, Nat.le_of_ble_eq_true rfl⟩ (fun ad7 cy7 H locs hex hI2 => ?_)
  obtain ⟨hq7, hx7_1, hx7_6⟩ := hex
  subst hq7
  have hI : zI st D ((((((tN1 cy1 ++ tN2 cy2) ++ tN3 cy3) ++ tN4 cy4) ++ tN5 cy5) ++ tN6 cy6) ++ tN7 cy7) ((((((([(h0, .inr (13, [.int v0, .ref (ad1 1), .ref (ad2 2), .ref (ad3 3), .ref (ad4 4), .ref (ad5 5), .ref (ad6 6), .null, .null, .null, .null, .int 0]))] ++ wN1 ad1 cy1 ((zsi (zsi (zsi (zsi (zsi (zsi zS0 1 1 1) 1 7 (-1)) 19 0 0) 19 1 1) 19 2 2) 19 3 0))) ++ wN2 ad2 cy2 ((zsi (zsi zS0 2 0 v0) 2 1 v1))) ++ wN3 ad3 cy3 ((zsi zS0 3 1 v0))) ++ wN4 ad4 cy4 σN4) ++ wN5 ad5 cy5 σN5) ++ wN6 ad6 cy6 (σN6 v0)) ++ wN7 ad7 cy7 ((zsi (zsi zS0 7 4 6) 36 18 57328))) A s H _ := hI2
  refine z_putF hC hnm hI (w1 := ((((((([(h0, .inr (13, [.int v0, .ref (ad1 1), .ref (ad2 2), .ref (ad3 3), .ref (ad4 4), .ref (ad5 5), .ref (ad6 6), .ref (ad7 7), .null, .null, .null, .int 0]))] ++ wN1 ad1 cy1 ((zsi (zsi (zsi (zsi (zsi (zsi zS0 1 1 1) 1 7 (-1)) 19 0 0) 19 1 1) 19 2 2) 19 3 0))) ++ wN2 ad2 cy2 ((zsi (zsi zS0 2 0 v0) 2 1 v1))) ++ wN3 ad3 cy3 ((zsi zS0 3 1 v0))) ++ wN4 ad4 cy4 σN4) ++ wN5 ad5 cy5 σN5) ++ wN6 ad6 cy6 (σN6 v0)) ++ wN7 ad7 cy7 ((zsi (zsi zS0 7 4 6) 36 18 57328)))) (fun w h => List.mem_cons_of_mem _ (inlX11 w h)) tyX11_ok nmX11 0 rfl rfl 7 (by decide) (List.mem_cons_of_mem _ zw2_22) rfl rfl rfl rfl (Nat.le_of_ble_eq_true rfl) rfl dX11_init_142 (fun H locs hI => ?_)
  refine lv_aload_n hx hb dX11_init_145 rfl (lv_at hl 0 rfl) ?_
  refine z_new (ci := 2) hC hI (fun w h => List.mem_cons_of_mem _ (inlX0 w h)) tyX0_ok (List.mem_cons_of_mem _ zw2_23) (List.mem_cons_of_mem _ zw3_0) (List.mem_cons_of_mem _ zw3_1) rfl [.null, .null, .null, .null, .null, .null] (fun j hj => by rcases (show j = 0 ∨ j = 1 ∨ j = 2 ∨ j = 3 ∨ j = 4 ∨ j = 5 by omega) with rfl | rfl | rfl | rfl | rfl | rfl <;> rfl) (Nat.le_of_ble_eq_true rfl) (Nat.le_of_ble_eq_true rfl) dX11_init_146 (fun q8 H hI => ?_)
  have hI : zI st D ((((((tN1 cy1 ++ tN2 cy2) ++ tN3 cy3) ++ tN4 cy4) ++ tN5 cy5) ++ tN6 cy6) ++ tN7 cy7) (((((((([(h0, .inr (13, [.int v0, .ref (ad1 1), .ref (ad2 2), .ref (ad3 3), .ref (ad4 4), .ref (ad5 5), .ref (ad6 6), .ref (ad7 7), .null, .null, .null, .int 0]))] ++ wN1 ad1 cy1 ((zsi (zsi (zsi (zsi (zsi (zsi zS0 1 1 1) 1 7 (-1)) 19 0 0) 19 1 1) 19 2 2) 19 3 0))) ++ wN2 ad2 cy2 ((zsi (zsi zS0 2 0 v0) 2 1 v1))) ++ wN3 ad3 cy3 ((zsi zS0 3 1 v0))) ++ wN4 ad4 cy4 σN4) ++ wN5 ad5 cy5 σN5) ++ wN6 ad6 cy6 (σN6 v0)) ++ wN7 ad7 cy7 ((zsi (zsi zS0 7 4 6) 36 18 57328))) ++ [(q8, .inr (2, [.null, .null, .null, .null, .null, .null]))]) A s H _ := hI
  refine lv_dup hx hb dX11_init_149 rfl ?_
  refine lv_aload_n hx hb dX11_init_150 rfl (lv_at hl 0 rfl) ?_
  refine z_get (v := .ref (ad4 4)) hC hI (fun w h => List.mem_cons_of_mem _ (inlX11 w h)) 0 rfl rfl 4 (by decide) (List.mem_cons_of_mem _ zw2_10) rfl dX11_init_151 ?_
  refine lv_aload_n hx hb dX11_init_154 rfl (lv_at hl 0 rfl) ?_
  refine z_get (v := .ref (ad5 5)) hC hI (fun w h => List.mem_cons_of_mem _ (inlX11 w h)) 0 rfl rfl 5 (by decide) (List.mem_cons_of_mem _ zw2_14) rfl dX11_init_155 ?_
  refine z_callI (As := [.ref ((ad4 4)), .ref ((ad5 5))]) (rest := [.ref q8, .ref h0]) hC hI (cX0_init_met st l D q8 ((ad4 4)) ((ad5 5)) ) (zgI zw7_13) rfl rfl rfl (List.mem_cons_of_mem _ zw3_1) (List.mem_cons_of_mem _ zw7_11) (List.mem_cons_of_mem _ zw7_12) rfl 2 hdX0_init ⟨Nat.le_of_ble_eq_true rfl, Nat.le_of_ble_eq_true rfl⟩ rfl hl rfl (Nat.le_of_ble_eq_true rfl) dX11_init_158 ⟨Nat.le_of_ble_eq_true rfl, Nat.le_of_ble_eq_true rfl⟩ (fun ad8 cy8 H locs hex hI2 => ?_)
  obtain ⟨hq8, hx8_4, hx8_5⟩ := hex
  subst hq8
  have hI : zI st D (((((((tN1 cy1 ++ tN2 cy2) ++ tN3 cy3) ++ tN4 cy4) ++ tN5 cy5) ++ tN6 cy6) ++ tN7 cy7) ++ tN8 cy8) (((((((([(h0, .inr (13, [.int v0, .ref (ad1 1), .ref (ad2 2), .ref (ad3 3), .ref (ad4 4), .ref (ad5 5), .ref (ad6 6), .ref (ad7 7), .null, .null, .null, .int 0]))] ++ wN1 ad1 cy1 ((zsi (zsi (zsi (zsi (zsi (zsi zS0 1 1 1) 1 7 (-1)) 19 0 0) 19 1 1) 19 2 2) 19 3 0))) ++ wN2 ad2 cy2 ((zsi (zsi zS0 2 0 v0) 2 1 v1))) ++ wN3 ad3 cy3 ((zsi zS0 3 1 v0))) ++ wN4 ad4 cy4 σN4) ++ wN5 ad5 cy5 σN5) ++ wN6 ad6 cy6 (σN6 v0)) ++ wN7 ad7 cy7 ((zsi (zsi zS0 7 4 6) 36 18 57328))) ++ wN8 ad8 cy8 zS0) A s H _ := hI2
  refine z_putF hC hnm hI (w1 := (((((((([(h0, .inr (13, [.int v0, .ref (ad1 1), .ref (ad2 2), .ref (ad3 3), .ref (ad4 4), .ref (ad5 5), .ref (ad6 6), .ref (ad7 7), .ref (ad8 8), .null, .null, .int 0]))] ++ wN1 ad1 cy1 ((zsi (zsi (zsi (zsi (zsi (zsi zS0 1 1 1) 1 7 (-1)) 19 0 0) 19 1 1) 19 2 2) 19 3 0))) ++ wN2 ad2 cy2 ((zsi (zsi zS0 2 0 v0) 2 1 v1))) ++ wN3 ad3 cy3 ((zsi zS0 3 1 v0))) ++ wN4 ad4 cy4 σN4) ++ wN5 ad5 cy5 σN5) ++ wN6 ad6 cy6 (σN6 v0)) ++ wN7 ad7 cy7 ((zsi (zsi zS0 7 4 6) 36 18 57328))) ++ wN8 ad8 cy8 zS0)) (fun w h => List.mem_cons_of_mem _ (inlX11 w h)) tyX11_ok nmX11 0 rfl rfl 8 (by decide) (List.mem_cons_of_mem _ zw3_2) rfl rfl rfl rfl (Nat.le_of_ble_eq_true rfl) rfl dX11_init_161 (fun H locs hI => ?_)
  refine lv_aload_n hx hb dX11_init_164 rfl (lv_at hl 0 rfl) ?_
  refine z_new (ci := 3) hC hI (fun w h => List.mem_cons_of_mem _ (inlX1 w h)) tyX1_ok (List.mem_cons_of_mem _ zw3_3) (List.mem_cons_of_mem _ zw3_4) (List.mem_cons_of_mem _ zw3_5) rfl [.null, .null, .null, .null, .null, .int 0] (fun j hj => by rcases (show j = 0 ∨ j = 1 ∨ j = 2 ∨ j = 3 ∨ j = 4 ∨ j = 5 by omega) with rfl | rfl | rfl | rfl | rfl | rfl <;> rfl) (Nat.le_of_ble_eq_true rfl) (Nat.le_of_ble_eq_true rfl) dX11_init_165 (fun q9 H hI => ?_)
  have hI : zI st D (((((((tN1 cy1 ++ tN2 cy2) ++ tN3 cy3) ++ tN4 cy4) ++ tN5 cy5) ++ tN6 cy6) ++ tN7 cy7) ++ tN8 cy8) ((((((((([(h0, .inr (13, [.int v0, .ref (ad1 1), .ref (ad2 2), .ref (ad3 3), .ref (ad4 4), .ref (ad5 5), .ref (ad6 6), .ref (ad7 7), .ref (ad8 8), .null, .null, .int 0]))] ++ wN1 ad1 cy1 ((zsi (zsi (zsi (zsi (zsi (zsi zS0 1 1 1) 1 7 (-1)) 19 0 0) 19 1 1) 19 2 2) 19 3 0))) ++ wN2 ad2 cy2 ((zsi (zsi zS0 2 0 v0) 2 1 v1))) ++ wN3 ad3 cy3 ((zsi zS0 3 1 v0))) ++ wN4 ad4 cy4 σN4) ++ wN5 ad5 cy5 σN5) ++ wN6 ad6 cy6 (σN6 v0)) ++ wN7 ad7 cy7 ((zsi (zsi zS0 7 4 6) 36 18 57328))) ++ wN8 ad8 cy8 zS0) ++ [(q9, .inr (3, [.null, .null, .null, .null, .null, .int 0]))]) A s H _ := hI
  refine lv_dup hx hb dX11_init_168 rfl ?_
  refine z_callI (As := []) (rest := [.ref q9, .ref h0]) hC hI (cX1_init_met st l D q9   σN9 hfN9) (zgI zw8_7) rfl rfl rfl (List.mem_cons_of_mem _ zw3_5) (List.mem_cons_of_mem _ zw8_5) (List.mem_cons_of_mem _ zw8_6) rfl 0 hdX1_init ⟨Nat.le_of_ble_eq_true rfl, Nat.le_of_ble_eq_true rfl⟩ rfl hl rfl (Nat.le_of_ble_eq_true rfl) dX11_init_169 ⟨Nat.le_of_ble_eq_true rfl, Nat.le_of_ble_eq_true rfl⟩ (fun ad9 cy9 H locs hex hI2 => ?_)
  have hq9 : q9 = ad9 9 := hex
  subst hq9
  have hI : zI st D ((((((((tN1 cy1 ++ tN2 cy2) ++ tN3 cy3) ++ tN4 cy4) ++ tN5 cy5) ++ tN6 cy6) ++ tN7 cy7) ++ tN8 cy8) ++ tN9 cy9) ((((((((([(h0, .inr (13, [.int v0, .ref (ad1 1), .ref (ad2 2), .ref (ad3 3), .ref (ad4 4), .ref (ad5 5), .ref (ad6 6), .ref (ad7 7), .ref (ad8 8), .null, .null, .int 0]))] ++ wN1 ad1 cy1 ((zsi (zsi (zsi (zsi (zsi (zsi zS0 1 1 1) 1 7 (-1)) 19 0 0) 19 1 1) 19 2 2) 19 3 0))) ++ wN2 ad2 cy2 ((zsi (zsi zS0 2 0 v0) 2 1 v1))) ++ wN3 ad3 cy3 ((zsi zS0 3 1 v0))) ++ wN4 ad4 cy4 σN4) ++ wN5 ad5 cy5 σN5) ++ wN6 ad6 cy6 (σN6 v0)) ++ wN7 ad7 cy7 ((zsi (zsi zS0 7 4 6) 36 18 57328))) ++ wN8 ad8 cy8 zS0) ++ wN9 ad9 cy9 σN9) A s H _ := hI2
  refine z_putF hC hnm hI (w1 := ((((((((([(h0, .inr (13, [.int v0, .ref (ad1 1), .ref (ad2 2), .ref (ad3 3), .ref (ad4 4), .ref (ad5 5), .ref (ad6 6), .ref (ad7 7), .ref (ad8 8), .ref (ad9 9), .null, .int 0]))] ++ wN1 ad1 cy1 ((zsi (zsi (zsi (zsi (zsi (zsi zS0 1 1 1) 1 7 (-1)) 19 0 0) 19 1 1) 19 2 2) 19 3 0))) ++ wN2 ad2 cy2 ((zsi (zsi zS0 2 0 v0) 2 1 v1))) ++ wN3 ad3 cy3 ((zsi zS0 3 1 v0))) ++ wN4 ad4 cy4 σN4) ++ wN5 ad5 cy5 σN5) ++ wN6 ad6 cy6 (σN6 v0)) ++ wN7 ad7 cy7 ((zsi (zsi zS0 7 4 6) 36 18 57328))) ++ wN8 ad8 cy8 zS0) ++ wN9 ad9 cy9 σN9)) (fun w h => List.mem_cons_of_mem _ (inlX11 w h)) tyX11_ok nmX11 0 rfl rfl 9 (by decide) (List.mem_cons_of_mem _ zw3_6) rfl rfl rfl rfl (Nat.le_of_ble_eq_true rfl) rfl dX11_init_172 (fun H locs hI => ?_)
  refine lv_aload_n hx hb dX11_init_175 rfl (lv_at hl 0 rfl) ?_
  refine z_new (ci := 10) hC hI (fun w h => List.mem_cons_of_mem _ (inlX8 w h)) tyX8_ok (List.mem_cons_of_mem _ zw3_7) (List.mem_cons_of_mem _ zw3_8) (List.mem_cons_of_mem _ zw3_9) rfl [.null, .null, .int 0, .int 0, .int 0, .int 0, .int 0, .int 0, .int 0, .int 0, .int 0] (fun j hj => by rcases (show j = 0 ∨ j = 1 ∨ j = 2 ∨ j = 3 ∨ j = 4 ∨ j = 5 ∨ j = 6 ∨ j = 7 ∨ j = 8 ∨ j = 9 ∨ j = 10 by omega) with rfl | rfl | rfl | rfl | rfl | rfl | rfl | rfl | rfl | rfl | rfl <;> rfl) (Nat.le_of_ble_eq_true rfl) (Nat.le_of_ble_eq_true rfl) dX11_init_176 (fun q10 H hI => ?_)
  have hI : zI st D ((((((((tN1 cy1 ++ tN2 cy2) ++ tN3 cy3) ++ tN4 cy4) ++ tN5 cy5) ++ tN6 cy6) ++ tN7 cy7) ++ tN8 cy8) ++ tN9 cy9) (((((((((([(h0, .inr (13, [.int v0, .ref (ad1 1), .ref (ad2 2), .ref (ad3 3), .ref (ad4 4), .ref (ad5 5), .ref (ad6 6), .ref (ad7 7), .ref (ad8 8), .ref (ad9 9), .null, .int 0]))] ++ wN1 ad1 cy1 ((zsi (zsi (zsi (zsi (zsi (zsi zS0 1 1 1) 1 7 (-1)) 19 0 0) 19 1 1) 19 2 2) 19 3 0))) ++ wN2 ad2 cy2 ((zsi (zsi zS0 2 0 v0) 2 1 v1))) ++ wN3 ad3 cy3 ((zsi zS0 3 1 v0))) ++ wN4 ad4 cy4 σN4) ++ wN5 ad5 cy5 σN5) ++ wN6 ad6 cy6 (σN6 v0)) ++ wN7 ad7 cy7 ((zsi (zsi zS0 7 4 6) 36 18 57328))) ++ wN8 ad8 cy8 zS0) ++ wN9 ad9 cy9 σN9) ++ [(q10, .inr (10, [.null, .null, .int 0, .int 0, .int 0, .int 0, .int 0, .int 0, .int 0, .int 0, .int 0]))]) A s H _ := hI
  refine lv_dup hx hb dX11_init_179 rfl ?_
  refine lv_aload_n hx hb dX11_init_180 rfl (lv_at hl 0 rfl) ?_
  refine z_get (v := .ref (ad1 1)) hC hI (fun w h => List.mem_cons_of_mem _ (inlX11 w h)) 0 rfl rfl 1 (by decide) (List.mem_cons_of_mem _ zw1_22) rfl dX11_init_181 ?_
  refine z_callI (As := [.ref ((ad1 1))]) (rest := [.ref q10, .ref h0]) hC hI (cX8_init_met st l D q10 ((ad1 1)) ) (zgI zw8_17) rfl rfl rfl (List.mem_cons_of_mem _ zw3_9) (List.mem_cons_of_mem _ zw8_15) (List.mem_cons_of_mem _ zw8_16) rfl 1 hdX8_init ⟨Nat.le_of_ble_eq_true rfl, Nat.le_of_ble_eq_true rfl⟩ rfl hl rfl (Nat.le_of_ble_eq_true rfl) dX11_init_184 ⟨Nat.le_of_ble_eq_true rfl, Nat.le_of_ble_eq_true rfl⟩ (fun ad10 cy10 H locs hex hI2 => ?_)
  obtain ⟨hq10, hx10_1⟩ := hex
  subst hq10
  have hI : zI st D (((((((((tN1 cy1 ++ tN2 cy2) ++ tN3 cy3) ++ tN4 cy4) ++ tN5 cy5) ++ tN6 cy6) ++ tN7 cy7) ++ tN8 cy8) ++ tN9 cy9) ++ tN10 cy10) (((((((((([(h0, .inr (13, [.int v0, .ref (ad1 1), .ref (ad2 2), .ref (ad3 3), .ref (ad4 4), .ref (ad5 5), .ref (ad6 6), .ref (ad7 7), .ref (ad8 8), .ref (ad9 9), .null, .int 0]))] ++ wN1 ad1 cy1 ((zsi (zsi (zsi (zsi (zsi (zsi zS0 1 1 1) 1 7 (-1)) 19 0 0) 19 1 1) 19 2 2) 19 3 0))) ++ wN2 ad2 cy2 ((zsi (zsi zS0 2 0 v0) 2 1 v1))) ++ wN3 ad3 cy3 ((zsi zS0 3 1 v0))) ++ wN4 ad4 cy4 σN4) ++ wN5 ad5 cy5 σN5) ++ wN6 ad6 cy6 (σN6 v0)) ++ wN7 ad7 cy7 ((zsi (zsi zS0 7 4 6) 36 18 57328))) ++ wN8 ad8 cy8 zS0) ++ wN9 ad9 cy9 σN9) ++ wN10 ad10 cy10 zS0) A s H _ := hI2
  refine z_putF hC hnm hI (w1 := (((((((((([(h0, .inr (13, [.int v0, .ref (ad1 1), .ref (ad2 2), .ref (ad3 3), .ref (ad4 4), .ref (ad5 5), .ref (ad6 6), .ref (ad7 7), .ref (ad8 8), .ref (ad9 9), .ref (ad10 10), .int 0]))] ++ wN1 ad1 cy1 ((zsi (zsi (zsi (zsi (zsi (zsi zS0 1 1 1) 1 7 (-1)) 19 0 0) 19 1 1) 19 2 2) 19 3 0))) ++ wN2 ad2 cy2 ((zsi (zsi zS0 2 0 v0) 2 1 v1))) ++ wN3 ad3 cy3 ((zsi zS0 3 1 v0))) ++ wN4 ad4 cy4 σN4) ++ wN5 ad5 cy5 σN5) ++ wN6 ad6 cy6 (σN6 v0)) ++ wN7 ad7 cy7 ((zsi (zsi zS0 7 4 6) 36 18 57328))) ++ wN8 ad8 cy8 zS0) ++ wN9 ad9 cy9 σN9) ++ wN10 ad10 cy10 zS0)) (fun w h => List.mem_cons_of_mem _ (inlX11 w h)) tyX11_ok nmX11 0 rfl rfl 10 (by decide) (List.mem_cons_of_mem _ zw3_10) rfl rfl rfl rfl (Nat.le_of_ble_eq_true rfl) rfl dX11_init_187 (fun H locs hI => ?_)
  simp only [wN3, wCf3, wN6, wCf6, wN7, wCf7, wN8, wCf8, wN10, wCf10, ← hx3_2, ← hx6_2, ← hx6_4, ← hx6_5, ← hx7_1, ← hx7_6, ← hx8_4, ← hx8_5, ← hx10_1] at hI
  obtain ⟨ad, had⟩ : ∃ f : Nat → Nat, f = (fun j => bif Nat.beq j 0 then h0 else bif Nat.beq j 1 then ad1 1 else bif Nat.beq j 13 then ad1 13 else bif Nat.beq j 14 then ad1 14 else bif Nat.beq j 15 then ad1 15 else bif Nat.beq j 16 then ad1 16 else bif Nat.beq j 17 then ad1 17 else bif Nat.beq j 18 then ad1 18 else bif Nat.beq j 19 then ad1 19 else bif Nat.beq j 20 then ad1 20 else bif Nat.beq j 2 then ad2 2 else bif Nat.beq j 21 then ad2 21 else bif Nat.beq j 22 then ad2 22 else bif Nat.beq j 23 then ad2 23 else bif Nat.beq j 24 then ad2 24 else bif Nat.beq j 3 then ad3 3 else bif Nat.beq j 25 then ad3 25 else bif Nat.beq j 26 then ad3 26 else bif Nat.beq j 27 then ad3 27 else bif Nat.beq j 28 then ad3 28 else bif Nat.beq j 29 then ad3 29 else bif Nat.beq j 4 then ad4 4 else bif Nat.beq j 30 then ad4 30 else bif Nat.beq j 31 then ad4 31 else bif Nat.beq j 5 then ad5 5 else bif Nat.beq j 32 then ad5 32 else bif Nat.beq j 33 then ad5 33 else bif Nat.beq j 6 then ad6 6 else bif Nat.beq j 34 then ad6 34 else bif Nat.beq j 35 then ad6 35 else bif Nat.beq j 7 then ad7 7 else bif Nat.beq j 36 then ad7 36 else bif Nat.beq j 37 then ad7 37 else bif Nat.beq j 8 then ad8 8 else bif Nat.beq j 11 then ad8 11 else bif Nat.beq j 46 then ad8 46 else bif Nat.beq j 47 then ad8 47 else bif Nat.beq j 12 then ad8 12 else bif Nat.beq j 48 then ad8 48 else bif Nat.beq j 49 then ad8 49 else bif Nat.beq j 38 then ad8 38 else bif Nat.beq j 39 then ad8 39 else bif Nat.beq j 9 then ad9 9 else bif Nat.beq j 40 then ad9 40 else bif Nat.beq j 41 then ad9 41 else bif Nat.beq j 42 then ad9 42 else bif Nat.beq j 43 then ad9 43 else bif Nat.beq j 44 then ad9 44 else bif Nat.beq j 10 then ad10 10 else bif Nat.beq j 45 then ad10 45 else 0) := ⟨_, rfl⟩
  obtain ⟨cy, hcy⟩ : ∃ f : Nat → ClassId, f = (fun j => bif Nat.beq j 13 then cy1 13 else bif Nat.beq j 14 then cy1 14 else bif Nat.beq j 15 then cy1 15 else bif Nat.beq j 16 then cy1 16 else bif Nat.beq j 17 then cy1 17 else bif Nat.beq j 18 then cy1 18 else bif Nat.beq j 19 then cy1 19 else bif Nat.beq j 20 then cy1 20 else bif Nat.beq j 21 then cy2 21 else bif Nat.beq j 22 then cy2 22 else bif Nat.beq j 23 then cy2 23 else bif Nat.beq j 24 then cy2 24 else bif Nat.beq j 25 then cy3 25 else bif Nat.beq j 26 then cy3 26 else bif Nat.beq j 27 then cy3 27 else bif Nat.beq j 28 then cy3 28 else bif Nat.beq j 29 then cy3 29 else bif Nat.beq j 30 then cy4 30 else bif Nat.beq j 31 then cy4 31 else bif Nat.beq j 32 then cy5 32 else bif Nat.beq j 33 then cy5 33 else bif Nat.beq j 34 then cy6 34 else bif Nat.beq j 35 then cy6 35 else bif Nat.beq j 36 then cy7 36 else bif Nat.beq j 37 then cy7 37 else bif Nat.beq j 46 then cy8 46 else bif Nat.beq j 47 then cy8 47 else bif Nat.beq j 48 then cy8 48 else bif Nat.beq j 49 then cy8 49 else bif Nat.beq j 38 then cy8 38 else bif Nat.beq j 39 then cy8 39 else bif Nat.beq j 40 then cy9 40 else bif Nat.beq j 41 then cy9 41 else bif Nat.beq j 42 then cy9 42 else bif Nat.beq j 43 then cy9 43 else bif Nat.beq j 44 then cy9 44 else bif Nat.beq j 45 then cy10 45 else 0) := ⟨_, rfl⟩
  have e0 : h0 = ad 0 := by rw [had]; rfl
  subst ev0
  subst ev1
  have hI9 : zI st D (tC cy) (wC ad cy (zC0 (zsi zS0 0 0 (if x1 = 2 then 1 else 0)) ((zsi (zsi (zsi (zsi (zsi (zsi zS0 1 1 1) 1 7 (-1)) 19 0 0) 19 1 1) 19 2 2) 19 3 0)) ((zsi (zsi zS0 2 0 (if x1 = 2 then 1 else 0)) 2 1 (if x1 = 1 then 313 else 262))) ((zsi zS0 3 1 (if x1 = 2 then 1 else 0))) σN4 σN5 (σN6 (if x1 = 2 then 1 else 0)) ((zsi (zsi zS0 7 4 6) 36 18 57328)) zS0 σN9 zS0)) A s H locs := by
    rw [had, hcy]
    exact z_resub hI [0, 1, 2, 3, 4, 5, 6, 7, 8, 9, 10, 11, 12, 13, 14, 15, 16, 17, 18, 19, 20, 21, 22, 23, 24, 29, 30, 31, 32, 33, 34, 35, 36, 25, 26, 27, 28] [0, 1, 10, 15, 21, 24, 27, 30, 33, 42, 48, 34, 37, 2, 3, 4, 5, 6, 7, 8, 9, 11, 12, 13, 14, 16, 17, 18, 19, 20, 22, 23, 25, 26, 28, 29, 31, 32, 40, 41, 43, 44, 45, 46, 47, 49, 35, 36, 38, 39] rfl (by decide) rfl
  exact z_nreturn0 (wn := fun ad cy => wC ad cy (zC0 (zsi zS0 0 0 (if x1 = 2 then 1 else 0)) ((zsi (zsi (zsi (zsi (zsi (zsi zS0 1 1 1) 1 7 (-1)) 19 0 0) 19 1 1) 19 2 2) 19 3 0)) ((zsi (zsi zS0 2 0 (if x1 = 2 then 1 else 0)) 2 1 (if x1 = 1 then 313 else 262))) ((zsi zS0 3 1 (if x1 = 2 then 1 else 0))) σN4 σN5 (σN6 (if x1 = 2 then 1 else 0)) ((zsi (zsi zS0 7 4 6) 36 18 57328)) zS0 σN9 zS0)) (tn := tC) (ex := fun f => h0 = f 0) hC ad cy hI9 e0 (Nat.le_refl _) (Nat.le_refl _) dX11_init_190
theorem hdX11_init : yX11_init.cls ≠ "java/lang/invoke/MethodHandle" ∧ yX11_init.cls ≠ "java/lang/invoke/VarHandle" ∧ (parseMethodDescriptor yX11_init.desc).map (fun d => d.parameters.length) = some 1 := by decide +kernel
end ZJN2
section ZJN3
theorem zw9_0 : Cond.methodLink RX12 1 objectInit ∈ wsL_law := zr9 _ (List.mem_of_getElem? (i := 0) rfl)
theorem zw9_2 : Cond.arrayClass .byte ∈ wsL_law := zr9 _ (List.mem_of_getElem? (i := 2) rfl)
theorem zw10_5 : Cond.arrayClass .boolean ∈ wsL_law := zr10 _ (List.mem_of_getElem? (i := 5) rfl)
section ZN4
variable {p : Program} {l : Launch} {e : Env} {R : Room} {s : State} {m : MethodId} {args : Array Value} {below : List Frame} {meth : Method} {c : Code} {H : Heap} {locs : List Loc} {cells slots : Nat} {Q : State → Prop}
variable {st : Nat → Nat} {D : va_G} {tys : List (ClassId × FieldType)} {A : Nat → Prop} {cc : ByteArray} {nL : Nat} {Ts : List Cond} {own : String} {pc : Nat} {ls : Array Slot} {rest : List Value} {ret : Option FieldType} {w : va_W}
theorem z_newb (hC : zC p m c cc nL s args Ts own meth ret) (hI : zI st D tys w A s H locs) (harr : Cond.arrayClass .byte ∈ Ts) {n : Int32} (N' : Nat) (hn : ¬ n < 0) (hN : n.toNatClampNeg = N') (hbytes : N' * componentBytes .byte ≤ 536870912) (hcells : cells + 1 ≤ R.cells) (hslots : slots + N' ≤ R.slots) (hdg : decode cc pc = .ok (.newarray .byte, 2))
    (kk : ∀ (q : Nat) (cA : ClassId) (H1 : Heap), zI st D (tys ++ [(cA, .byte)]) (w ++ [(q, .inl (cA, N', .inl (fun _ => 0)))]) A s H1 locs → W p l e R s m args below meth c H1 locs (cells + 1) (slots + N') Q (F0 m (pc + 2) ls (.ref q :: rest))) : W p l e R s m args below meth c H locs cells slots Q (F0 m pc ls (.int n :: rest)) :=
  z_newa (atype := .byte) (ty := .byte) (a0 := (N', .inl (fun _ => 0))) hC hI rfl harr N' (fun _ => rfl) hn hN hbytes hcells hslots hdg kk
theorem z_newz (hC : zC p m c cc nL s args Ts own meth ret) (hI : zI st D tys w A s H locs) (harr : Cond.arrayClass .boolean ∈ Ts) {n : Int32} (N' : Nat) (hn : ¬ n < 0) (hN : n.toNatClampNeg = N') (hbytes : N' * componentBytes .boolean ≤ 536870912) (hcells : cells + 1 ≤ R.cells) (hslots : slots + N' ≤ R.slots) (hdg : decode cc pc = .ok (.newarray .boolean, 2))
    (kk : ∀ (q : Nat) (cA : ClassId) (H1 : Heap), zI st D (tys ++ [(cA, .boolean)]) (w ++ [(q, .inl (cA, N', .inl (fun _ => 0)))]) A s H1 locs → W p l e R s m args below meth c H1 locs (cells + 1) (slots + N') Q (F0 m (pc + 2) ls (.ref q :: rest))) : W p l e R s m args below meth c H locs cells slots Q (F0 m pc ls (.int n :: rest)) :=
  z_newa (atype := .boolean) (ty := .boolean) (a0 := (N', .inl (fun _ => 0))) hC hI rfl harr N' (fun _ => rfl) hn hN hbytes hcells hslots hdg kk
/-- x == 1 || x == 2 ? x : 0 -/
theorem z_ternM (hx : p.tables.exec = Jvm.exec) (hb : c.code = cc) {x : Int32} {o1 o2 : Int} {p0 p3 p5 tB pJ : Nat} (k0 : W p l e R s m args below meth c H locs cells slots Q (F0 m p3 ls (.int 1 :: .int x :: rest)) → W p l e R s m args below meth c H locs cells slots Q (F0 m p0 ls rest))
    (d1 : decode cc p3 = .ok (.if_icmp .eq o1, 3)) (h1 : (p3 : Int) + o1 = ((p5 + 3 : Nat) : Int)) (k1 : W p l e R s m args below meth c H locs cells slots Q (F0 m p5 ls (.int 2 :: .int x :: rest)) → W p l e R s m args below meth c H locs cells slots Q (F0 m (p3 + 3) ls rest))
    (d2 : decode cc p5 = .ok (.if_icmp .ne o2, 3)) (h2 : (p5 : Int) + o2 = (tB : Int)) (kA : W p l e R s m args below meth c H locs cells slots Q (F0 m pJ ls (.int x :: rest)) → W p l e R s m args below meth c H locs cells slots Q (F0 m (p5 + 3) ls rest))
    (kB : W p l e R s m args below meth c H locs cells slots Q (F0 m pJ ls (.int 0 :: rest)) → W p l e R s m args below meth c H locs cells slots Q (F0 m tB ls rest)) (kk : W p l e R s m args below meth c H locs cells slots Q (F0 m pJ ls (.int (if x = 1 then x else if x = 2 then x else 0) :: rest))) : W p l e R s m args below meth c H locs cells slots Q (F0 m p0 ls rest) := by
  refine k0 (lv_icmp_eq (tgt := p5 + 3) hx hb d1 h1 (fun q => kA ?_) (fun q => k1 (lv_icmp_ne (tgt := tB) hx hb d2 h2 (fun q2 => kB ?_) (fun q2 => kA ?_))))
  · rw [if_pos q] at kk; exact kk
  · rw [if_neg q, if_neg q2] at kk; exact kk
  · rw [if_neg q, if_pos q2] at kk; exact kk
end ZN4
noncomputable def rmX12_init : Room := { frames := 1, cells := 26, slots := 782082, locals := 21 }
noncomputable def wzX12_init : List Cond := .code yX12_init cX12_init 2 none :: wsL_law
noncomputable def kn_cX12_init : Nat := 0xb16600b62a4f042e101600b42a4f042d101600b42a4f032c101600b42a6300b5030400a71b0700a0051b08009f041b2a6000b50abc28102a5d00b504bc0001112a5a00b50abc0001112a5600b504bc0001112a5300b50abc0001112a5000b50abc20102a4d00b50bbc0010112a4a00b50bbc0010112a4700b50abc2b122a4400b508bc40102a4100b508bc0040112a3e00b508bc21122a3b00b508bc0020112a3800b50bbc082a3500b50abc1804112a3200b50bbc0010112a2f00b50bbc0010112a2c00b50abc2b122a2800b508bc40102a2500b508bc0040112a2200b508bc21122a1e00b508bc0020112a1a00b50bbc082a1600b50abc1804112a1200b5022a0f00b508bc0e122a0a00b508bc09122a0100b72a
theorem zk_cX12_init : zkd cX12_init.data.toList kn_cX12_init = true := by decide +kernel
theorem zn_cX12_init : cX12_init.data.toList.length = 277 := by decide +kernel
theorem dX12_init_0 : decode cX12_init 0 = .ok (.aload_n 0, 1) := zo_42 (zkb zk_cX12_init zn_cX12_init rfl)
theorem dX12_init_1 : decode cX12_init 1 = .ok (.invokespecial 1, 3) := zo_183 (b1 := 0) (b2 := 1) (zkb3 zk_cX12_init zn_cX12_init rfl) rfl
theorem dX12_init_4 : decode cX12_init 4 = .ok (.aload_n 0, 1) := zo_42 (zkb zk_cX12_init zn_cX12_init rfl)
theorem dX12_init_5 : decode cX12_init 5 = .ok (.ldc 9, 2) := zo_18 (b1 := 9) (zkb2 zk_cX12_init zn_cX12_init rfl)
theorem dX12_init_7 : decode cX12_init 7 = .ok (.newarray .byte, 2) := by decide +kernel
theorem dX12_init_9 : decode cX12_init 9 = .ok (.putfield 10, 3) := zo_181 (b1 := 0) (b2 := 10) (zkb3 zk_cX12_init zn_cX12_init rfl) rfl
theorem dX12_init_12 : decode cX12_init 12 = .ok (.aload_n 0, 1) := zo_42 (zkb zk_cX12_init zn_cX12_init rfl)
theorem dX12_init_13 : decode cX12_init 13 = .ok (.ldc 14, 2) := zo_18 (b1 := 14) (zkb2 zk_cX12_init zn_cX12_init rfl)
theorem dX12_init_15 : decode cX12_init 15 = .ok (.newarray .byte, 2) := by decide +kernel
theorem dX12_init_17 : decode cX12_init 17 = .ok (.putfield 15, 3) := zo_181 (b1 := 0) (b2 := 15) (zkb3 zk_cX12_init zn_cX12_init rfl) rfl
theorem dX12_init_20 : decode cX12_init 20 = .ok (.aload_n 0, 1) := zo_42 (zkb zk_cX12_init zn_cX12_init rfl)
theorem dX12_init_21 : decode cX12_init 21 = .ok (.iconst (-1), 1) := zo_2 (zkb zk_cX12_init zn_cX12_init rfl)
theorem dX12_init_22 : decode cX12_init 22 = .ok (.putfield 18, 3) := zo_181 (b1 := 0) (b2 := 18) (zkb3 zk_cX12_init zn_cX12_init rfl) rfl
theorem dX12_init_25 : decode cX12_init 25 = .ok (.aload_n 0, 1) := zo_42 (zkb zk_cX12_init zn_cX12_init rfl)
theorem dX12_init_26 : decode cX12_init 26 = .ok (.sipush 1048, 3) := zo_17 (b1 := 4) (b2 := 24) (zkb3 zk_cX12_init zn_cX12_init rfl) rfl
theorem dX12_init_29 : decode cX12_init 29 = .ok (.newarray .int, 2) := by decide +kernel
theorem dX12_init_31 : decode cX12_init 31 = .ok (.putfield 22, 3) := zo_181 (b1 := 0) (b2 := 22) (zkb3 zk_cX12_init zn_cX12_init rfl) rfl
theorem dX12_init_34 : decode cX12_init 34 = .ok (.aload_n 0, 1) := zo_42 (zkb zk_cX12_init zn_cX12_init rfl)
theorem dX12_init_35 : decode cX12_init 35 = .ok (.iconst 5, 1) := zo_8 (zkb zk_cX12_init zn_cX12_init rfl)
theorem dX12_init_36 : decode cX12_init 36 = .ok (.newarray .long, 2) := by decide +kernel
theorem dX12_init_38 : decode cX12_init 38 = .ok (.putfield 26, 3) := zo_181 (b1 := 0) (b2 := 26) (zkb3 zk_cX12_init zn_cX12_init rfl) rfl
theorem dX12_init_41 : decode cX12_init 41 = .ok (.aload_n 0, 1) := zo_42 (zkb zk_cX12_init zn_cX12_init rfl)
theorem dX12_init_42 : decode cX12_init 42 = .ok (.sipush 8192, 3) := zo_17 (b1 := 32) (b2 := 0) (zkb3 zk_cX12_init zn_cX12_init rfl) rfl
theorem dX12_init_45 : decode cX12_init 45 = .ok (.newarray .byte, 2) := by decide +kernel
theorem dX12_init_47 : decode cX12_init 47 = .ok (.putfield 30, 3) := zo_181 (b1 := 0) (b2 := 30) (zkb3 zk_cX12_init zn_cX12_init rfl) rfl
theorem dX12_init_50 : decode cX12_init 50 = .ok (.aload_n 0, 1) := zo_42 (zkb zk_cX12_init zn_cX12_init rfl)
theorem dX12_init_51 : decode cX12_init 51 = .ok (.ldc 33, 2) := zo_18 (b1 := 33) (zkb2 zk_cX12_init zn_cX12_init rfl)
theorem dX12_init_53 : decode cX12_init 53 = .ok (.newarray .byte, 2) := by decide +kernel
theorem dX12_init_55 : decode cX12_init 55 = .ok (.putfield 34, 3) := zo_181 (b1 := 0) (b2 := 34) (zkb3 zk_cX12_init zn_cX12_init rfl) rfl
theorem dX12_init_58 : decode cX12_init 58 = .ok (.aload_n 0, 1) := zo_42 (zkb zk_cX12_init zn_cX12_init rfl)
theorem dX12_init_59 : decode cX12_init 59 = .ok (.sipush 16384, 3) := zo_17 (b1 := 64) (b2 := 0) (zkb3 zk_cX12_init zn_cX12_init rfl) rfl
theorem dX12_init_62 : decode cX12_init 62 = .ok (.newarray .byte, 2) := by decide +kernel
theorem dX12_init_64 : decode cX12_init 64 = .ok (.putfield 37, 3) := zo_181 (b1 := 0) (b2 := 37) (zkb3 zk_cX12_init zn_cX12_init rfl) rfl
theorem dX12_init_67 : decode cX12_init 67 = .ok (.aload_n 0, 1) := zo_42 (zkb zk_cX12_init zn_cX12_init rfl)
theorem dX12_init_68 : decode cX12_init 68 = .ok (.bipush 64, 2) := zo_16 (b1 := 64) (zkb2 zk_cX12_init zn_cX12_init rfl) rfl
theorem dX12_init_70 : decode cX12_init 70 = .ok (.newarray .byte, 2) := by decide +kernel
theorem dX12_init_72 : decode cX12_init 72 = .ok (.putfield 40, 3) := zo_181 (b1 := 0) (b2 := 40) (zkb3 zk_cX12_init zn_cX12_init rfl) rfl
theorem dX12_init_75 : decode cX12_init 75 = .ok (.aload_n 0, 1) := zo_42 (zkb zk_cX12_init zn_cX12_init rfl)
theorem dX12_init_76 : decode cX12_init 76 = .ok (.ldc 43, 2) := zo_18 (b1 := 43) (zkb2 zk_cX12_init zn_cX12_init rfl)
theorem dX12_init_78 : decode cX12_init 78 = .ok (.newarray .int, 2) := by decide +kernel
theorem dX12_init_80 : decode cX12_init 80 = .ok (.putfield 44, 3) := zo_181 (b1 := 0) (b2 := 44) (zkb3 zk_cX12_init zn_cX12_init rfl) rfl
theorem dX12_init_83 : decode cX12_init 83 = .ok (.aload_n 0, 1) := zo_42 (zkb zk_cX12_init zn_cX12_init rfl)
theorem dX12_init_84 : decode cX12_init 84 = .ok (.sipush 4096, 3) := zo_17 (b1 := 16) (b2 := 0) (zkb3 zk_cX12_init zn_cX12_init rfl) rfl
theorem dX12_init_87 : decode cX12_init 87 = .ok (.newarray .long, 2) := by decide +kernel
theorem dX12_init_89 : decode cX12_init 89 = .ok (.putfield 47, 3) := zo_181 (b1 := 0) (b2 := 47) (zkb3 zk_cX12_init zn_cX12_init rfl) rfl
theorem dX12_init_92 : decode cX12_init 92 = .ok (.aload_n 0, 1) := zo_42 (zkb zk_cX12_init zn_cX12_init rfl)
theorem dX12_init_93 : decode cX12_init 93 = .ok (.sipush 4096, 3) := zo_17 (b1 := 16) (b2 := 0) (zkb3 zk_cX12_init zn_cX12_init rfl) rfl
theorem dX12_init_96 : decode cX12_init 96 = .ok (.newarray .long, 2) := by decide +kernel
theorem dX12_init_98 : decode cX12_init 98 = .ok (.putfield 50, 3) := zo_181 (b1 := 0) (b2 := 50) (zkb3 zk_cX12_init zn_cX12_init rfl) rfl
theorem dX12_init_101 : decode cX12_init 101 = .ok (.aload_n 0, 1) := zo_42 (zkb zk_cX12_init zn_cX12_init rfl)
theorem dX12_init_102 : decode cX12_init 102 = .ok (.sipush 1048, 3) := zo_17 (b1 := 4) (b2 := 24) (zkb3 zk_cX12_init zn_cX12_init rfl) rfl
theorem dX12_init_105 : decode cX12_init 105 = .ok (.newarray .int, 2) := by decide +kernel
theorem dX12_init_107 : decode cX12_init 107 = .ok (.putfield 53, 3) := zo_181 (b1 := 0) (b2 := 53) (zkb3 zk_cX12_init zn_cX12_init rfl) rfl
theorem dX12_init_110 : decode cX12_init 110 = .ok (.aload_n 0, 1) := zo_42 (zkb zk_cX12_init zn_cX12_init rfl)
theorem dX12_init_111 : decode cX12_init 111 = .ok (.iconst 5, 1) := zo_8 (zkb zk_cX12_init zn_cX12_init rfl)
theorem dX12_init_112 : decode cX12_init 112 = .ok (.newarray .long, 2) := by decide +kernel
theorem dX12_init_114 : decode cX12_init 114 = .ok (.putfield 56, 3) := zo_181 (b1 := 0) (b2 := 56) (zkb3 zk_cX12_init zn_cX12_init rfl) rfl
theorem dX12_init_117 : decode cX12_init 117 = .ok (.aload_n 0, 1) := zo_42 (zkb zk_cX12_init zn_cX12_init rfl)
theorem dX12_init_118 : decode cX12_init 118 = .ok (.sipush 8192, 3) := zo_17 (b1 := 32) (b2 := 0) (zkb3 zk_cX12_init zn_cX12_init rfl) rfl
theorem dX12_init_121 : decode cX12_init 121 = .ok (.newarray .byte, 2) := by decide +kernel
theorem dX12_init_123 : decode cX12_init 123 = .ok (.putfield 59, 3) := zo_181 (b1 := 0) (b2 := 59) (zkb3 zk_cX12_init zn_cX12_init rfl) rfl
theorem dX12_init_126 : decode cX12_init 126 = .ok (.aload_n 0, 1) := zo_42 (zkb zk_cX12_init zn_cX12_init rfl)
theorem dX12_init_127 : decode cX12_init 127 = .ok (.ldc 33, 2) := zo_18 (b1 := 33) (zkb2 zk_cX12_init zn_cX12_init rfl)
theorem dX12_init_129 : decode cX12_init 129 = .ok (.newarray .byte, 2) := by decide +kernel
theorem dX12_init_131 : decode cX12_init 131 = .ok (.putfield 62, 3) := zo_181 (b1 := 0) (b2 := 62) (zkb3 zk_cX12_init zn_cX12_init rfl) rfl
theorem dX12_init_134 : decode cX12_init 134 = .ok (.aload_n 0, 1) := zo_42 (zkb zk_cX12_init zn_cX12_init rfl)
theorem dX12_init_135 : decode cX12_init 135 = .ok (.sipush 16384, 3) := zo_17 (b1 := 64) (b2 := 0) (zkb3 zk_cX12_init zn_cX12_init rfl) rfl
theorem dX12_init_138 : decode cX12_init 138 = .ok (.newarray .byte, 2) := by decide +kernel
theorem dX12_init_140 : decode cX12_init 140 = .ok (.putfield 65, 3) := zo_181 (b1 := 0) (b2 := 65) (zkb3 zk_cX12_init zn_cX12_init rfl) rfl
theorem dX12_init_143 : decode cX12_init 143 = .ok (.aload_n 0, 1) := zo_42 (zkb zk_cX12_init zn_cX12_init rfl)
theorem dX12_init_144 : decode cX12_init 144 = .ok (.bipush 64, 2) := zo_16 (b1 := 64) (zkb2 zk_cX12_init zn_cX12_init rfl) rfl
theorem dX12_init_146 : decode cX12_init 146 = .ok (.newarray .byte, 2) := by decide +kernel
theorem dX12_init_148 : decode cX12_init 148 = .ok (.putfield 68, 3) := zo_181 (b1 := 0) (b2 := 68) (zkb3 zk_cX12_init zn_cX12_init rfl) rfl
theorem dX12_init_151 : decode cX12_init 151 = .ok (.aload_n 0, 1) := zo_42 (zkb zk_cX12_init zn_cX12_init rfl)
theorem dX12_init_152 : decode cX12_init 152 = .ok (.ldc 43, 2) := zo_18 (b1 := 43) (zkb2 zk_cX12_init zn_cX12_init rfl)
theorem dX12_init_154 : decode cX12_init 154 = .ok (.newarray .int, 2) := by decide +kernel
theorem dX12_init_156 : decode cX12_init 156 = .ok (.putfield 71, 3) := zo_181 (b1 := 0) (b2 := 71) (zkb3 zk_cX12_init zn_cX12_init rfl) rfl
theorem dX12_init_159 : decode cX12_init 159 = .ok (.aload_n 0, 1) := zo_42 (zkb zk_cX12_init zn_cX12_init rfl)
theorem dX12_init_160 : decode cX12_init 160 = .ok (.sipush 4096, 3) := zo_17 (b1 := 16) (b2 := 0) (zkb3 zk_cX12_init zn_cX12_init rfl) rfl
theorem dX12_init_163 : decode cX12_init 163 = .ok (.newarray .long, 2) := by decide +kernel
theorem dX12_init_165 : decode cX12_init 165 = .ok (.putfield 74, 3) := zo_181 (b1 := 0) (b2 := 74) (zkb3 zk_cX12_init zn_cX12_init rfl) rfl
theorem dX12_init_168 : decode cX12_init 168 = .ok (.aload_n 0, 1) := zo_42 (zkb zk_cX12_init zn_cX12_init rfl)
theorem dX12_init_169 : decode cX12_init 169 = .ok (.sipush 4096, 3) := zo_17 (b1 := 16) (b2 := 0) (zkb3 zk_cX12_init zn_cX12_init rfl) rfl
theorem dX12_init_172 : decode cX12_init 172 = .ok (.newarray .long, 2) := by decide +kernel
theorem dX12_init_174 : decode cX12_init 174 = .ok (.putfield 77, 3) := zo_181 (b1 := 0) (b2 := 77) (zkb3 zk_cX12_init zn_cX12_init rfl) rfl
theorem dX12_init_177 : decode cX12_init 177 = .ok (.aload_n 0, 1) := zo_42 (zkb zk_cX12_init zn_cX12_init rfl)
theorem dX12_init_178 : decode cX12_init 178 = .ok (.bipush 32, 2) := zo_16 (b1 := 32) (zkb2 zk_cX12_init zn_cX12_init rfl) rfl
theorem dX12_init_180 : decode cX12_init 180 = .ok (.newarray .int, 2) := by decide +kernel
theorem dX12_init_182 : decode cX12_init 182 = .ok (.putfield 80, 3) := zo_181 (b1 := 0) (b2 := 80) (zkb3 zk_cX12_init zn_cX12_init rfl) rfl
theorem dX12_init_185 : decode cX12_init 185 = .ok (.aload_n 0, 1) := zo_42 (zkb zk_cX12_init zn_cX12_init rfl)
theorem dX12_init_186 : decode cX12_init 186 = .ok (.sipush 256, 3) := zo_17 (b1 := 1) (b2 := 0) (zkb3 zk_cX12_init zn_cX12_init rfl) rfl
theorem dX12_init_189 : decode cX12_init 189 = .ok (.newarray .int, 2) := by decide +kernel
theorem dX12_init_191 : decode cX12_init 191 = .ok (.putfield 83, 3) := zo_181 (b1 := 0) (b2 := 83) (zkb3 zk_cX12_init zn_cX12_init rfl) rfl
theorem dX12_init_194 : decode cX12_init 194 = .ok (.aload_n 0, 1) := zo_42 (zkb zk_cX12_init zn_cX12_init rfl)
theorem dX12_init_195 : decode cX12_init 195 = .ok (.sipush 256, 3) := zo_17 (b1 := 1) (b2 := 0) (zkb3 zk_cX12_init zn_cX12_init rfl) rfl
theorem dX12_init_198 : decode cX12_init 198 = .ok (.newarray .boolean, 2) := by decide +kernel
theorem dX12_init_200 : decode cX12_init 200 = .ok (.putfield 86, 3) := zo_181 (b1 := 0) (b2 := 86) (zkb3 zk_cX12_init zn_cX12_init rfl) rfl
theorem dX12_init_203 : decode cX12_init 203 = .ok (.aload_n 0, 1) := zo_42 (zkb zk_cX12_init zn_cX12_init rfl)
theorem dX12_init_204 : decode cX12_init 204 = .ok (.sipush 256, 3) := zo_17 (b1 := 1) (b2 := 0) (zkb3 zk_cX12_init zn_cX12_init rfl) rfl
theorem dX12_init_207 : decode cX12_init 207 = .ok (.newarray .int, 2) := by decide +kernel
theorem dX12_init_209 : decode cX12_init 209 = .ok (.putfield 90, 3) := zo_181 (b1 := 0) (b2 := 90) (zkb3 zk_cX12_init zn_cX12_init rfl) rfl
theorem dX12_init_212 : decode cX12_init 212 = .ok (.aload_n 0, 1) := zo_42 (zkb zk_cX12_init zn_cX12_init rfl)
theorem dX12_init_213 : decode cX12_init 213 = .ok (.sipush 256, 3) := zo_17 (b1 := 1) (b2 := 0) (zkb3 zk_cX12_init zn_cX12_init rfl) rfl
theorem dX12_init_216 : decode cX12_init 216 = .ok (.newarray .boolean, 2) := by decide +kernel
theorem dX12_init_218 : decode cX12_init 218 = .ok (.putfield 93, 3) := zo_181 (b1 := 0) (b2 := 93) (zkb3 zk_cX12_init zn_cX12_init rfl) rfl
theorem dX12_init_221 : decode cX12_init 221 = .ok (.aload_n 0, 1) := zo_42 (zkb zk_cX12_init zn_cX12_init rfl)
theorem dX12_init_222 : decode cX12_init 222 = .ok (.bipush 40, 2) := zo_16 (b1 := 40) (zkb2 zk_cX12_init zn_cX12_init rfl) rfl
theorem dX12_init_224 : decode cX12_init 224 = .ok (.newarray .int, 2) := by decide +kernel
theorem dX12_init_226 : decode cX12_init 226 = .ok (.putfield 96, 3) := zo_181 (b1 := 0) (b2 := 96) (zkb3 zk_cX12_init zn_cX12_init rfl) rfl
theorem dX12_init_229 : decode cX12_init 229 = .ok (.aload_n 0, 1) := zo_42 (zkb zk_cX12_init zn_cX12_init rfl)
theorem dX12_init_230 : decode cX12_init 230 = .ok (.iload_n 1, 1) := zo_27 (zkb zk_cX12_init zn_cX12_init rfl)
theorem dX12_init_231 : decode cX12_init 231 = .ok (.iconst 1, 1) := zo_4 (zkb zk_cX12_init zn_cX12_init rfl)
theorem dX12_init_232 : decode cX12_init 232 = .ok (.if_icmp .eq 8, 3) := zo_159 (b1 := 0) (b2 := 8) (zkb3 zk_cX12_init zn_cX12_init rfl) rfl
theorem dX12_init_235 : decode cX12_init 235 = .ok (.iload_n 1, 1) := zo_27 (zkb zk_cX12_init zn_cX12_init rfl)
theorem dX12_init_236 : decode cX12_init 236 = .ok (.iconst 2, 1) := zo_5 (zkb zk_cX12_init zn_cX12_init rfl)
theorem dX12_init_237 : decode cX12_init 237 = .ok (.if_icmp .ne 7, 3) := zo_160 (b1 := 0) (b2 := 7) (zkb3 zk_cX12_init zn_cX12_init rfl) rfl
theorem dX12_init_240 : decode cX12_init 240 = .ok (.iload_n 1, 1) := zo_27 (zkb zk_cX12_init zn_cX12_init rfl)
theorem dX12_init_241 : decode cX12_init 241 = .ok (.goto 4, 3) := zo_167 (b1 := 0) (b2 := 4) (zkb3 zk_cX12_init zn_cX12_init rfl) rfl
theorem dX12_init_244 : decode cX12_init 244 = .ok (.iconst 0, 1) := zo_3 (zkb zk_cX12_init zn_cX12_init rfl)
theorem dX12_init_245 : decode cX12_init 245 = .ok (.putfield 99, 3) := zo_181 (b1 := 0) (b2 := 99) (zkb3 zk_cX12_init zn_cX12_init rfl) rfl
theorem dX12_init_248 : decode cX12_init 248 = .ok (.aload_n 0, 1) := zo_42 (zkb zk_cX12_init zn_cX12_init rfl)
theorem dX12_init_249 : decode cX12_init 249 = .ok (.getfield 22, 3) := zo_180 (b1 := 0) (b2 := 22) (zkb3 zk_cX12_init zn_cX12_init rfl) rfl
theorem dX12_init_252 : decode cX12_init 252 = .ok (.bipush 44, 2) := zo_16 (b1 := 44) (zkb2 zk_cX12_init zn_cX12_init rfl) rfl
theorem dX12_init_254 : decode cX12_init 254 = .ok (.iconst 0, 1) := zo_3 (zkb zk_cX12_init zn_cX12_init rfl)
theorem dX12_init_255 : decode cX12_init 255 = .ok (.iastore, 1) := zo_79 (zkb zk_cX12_init zn_cX12_init rfl)
theorem dX12_init_256 : decode cX12_init 256 = .ok (.aload_n 0, 1) := zo_42 (zkb zk_cX12_init zn_cX12_init rfl)
theorem dX12_init_257 : decode cX12_init 257 = .ok (.getfield 22, 3) := zo_180 (b1 := 0) (b2 := 22) (zkb3 zk_cX12_init zn_cX12_init rfl) rfl
theorem dX12_init_260 : decode cX12_init 260 = .ok (.bipush 45, 2) := zo_16 (b1 := 45) (zkb2 zk_cX12_init zn_cX12_init rfl) rfl
theorem dX12_init_262 : decode cX12_init 262 = .ok (.iconst 1, 1) := zo_4 (zkb zk_cX12_init zn_cX12_init rfl)
theorem dX12_init_263 : decode cX12_init 263 = .ok (.iastore, 1) := zo_79 (zkb zk_cX12_init zn_cX12_init rfl)
theorem dX12_init_264 : decode cX12_init 264 = .ok (.aload_n 0, 1) := zo_42 (zkb zk_cX12_init zn_cX12_init rfl)
theorem dX12_init_265 : decode cX12_init 265 = .ok (.getfield 22, 3) := zo_180 (b1 := 0) (b2 := 22) (zkb3 zk_cX12_init zn_cX12_init rfl) rfl
theorem dX12_init_268 : decode cX12_init 268 = .ok (.bipush 46, 2) := zo_16 (b1 := 46) (zkb2 zk_cX12_init zn_cX12_init rfl) rfl
theorem dX12_init_270 : decode cX12_init 270 = .ok (.iconst 1, 1) := zo_4 (zkb zk_cX12_init zn_cX12_init rfl)
theorem dX12_init_271 : decode cX12_init 271 = .ok (.iastore, 1) := zo_79 (zkb zk_cX12_init zn_cX12_init rfl)
theorem dX12_init_272 : decode cX12_init 272 = .ok (.aload_n 0, 1) := zo_42 (zkb zk_cX12_init zn_cX12_init rfl)
theorem dX12_init_273 : decode cX12_init 273 = .ok (.invokevirtual 102, 3) := zo_182 (b1 := 0) (b2 := 102) (zkb3 zk_cX12_init zn_cX12_init rfl) rfl
theorem dX12_init_276 : decode cX12_init 276 = .ok (.return_, 1) := zo_177 (zkb zk_cX12_init zn_cX12_init rfl)
set_option maxRecDepth 20000 in
set_option maxHeartbeats 4000000 in
theorem cX12_init_met (st : Nat → Nat) (l : Launch) (D : va_G) (h0 : Nat) (x1 : Int32) (σ1 : zSt) (hf : fX12_anew (zsi (zsi (zsi (zsi (zsi zS0 0 8 (-1)) 0 3 (if x1 = 1 then x1 else if x1 = 2 then x1 else 0)) 3 44 0) 3 45 1) 3 46 1) = some σ1) (sz : Nat) : zN st l yX12_init wzX12_init rmX12_init [.ref h0, .int x1] D [(h0, .inr (14, [.int 0, .null, .int 0, .int 0, .null, .int 0, .int 0, .int 0, .int 0, .int 0, .null, .null, .null, .null, .null, .null, .null, .null, .null, .int 0, .null, .null, .null, .null, .null, .null, .null, .null, .null, .null, .long 0, .int 0, .int 0, .int 0, .null, .null, .null, .null, .null, .int 0, .int 0, .int 0, .int 0, .int 0]))] sz (fun ad cy => wM ad cy σ1) tM (fun f => h0 = f 0) 26 782082 := by
  refine zN.of (cc := cX12_init) (maxL := 2) (by decide) rfl rfl (Nat.le_of_ble_eq_true rfl) (fun p e s m args below meth c hC hnm A hI ls hl => ?_)
  have hx := hC.1
  have hb := hC.2.1
  refine lv_aload_n hx hb dX12_init_0 rfl (lv_at hl 0 rfl) ?_
  refine z_objInit hC hl (List.mem_cons_of_mem _ zw9_0) (List.mem_cons_of_mem _ zw1_16) (List.mem_cons_of_mem _ zw1_17) dX12_init_1 (Nat.le_of_ble_eq_true rfl) (Nat.le_of_ble_eq_true rfl) ?_
  refine lv_aload_n hx hb dX12_init_4 rfl (lv_at hl 0 rfl) ?_
  refine lv_ldc (v := 262656) hx hb hC.2.2.2.1 (hC.2.2.2.2.1 _ (List.mem_cons_of_mem _ zw9_1)) dX12_init_5 ?_
  refine z_newb hC hI (List.mem_cons_of_mem _ zw9_2) 262656 (by decide +kernel) (by decide +kernel) (by decide +kernel) (Nat.le_of_ble_eq_true rfl) (Nat.le_of_ble_eq_true rfl) dX12_init_7 (fun q1 c1 H hI => ?_)
  have hI : zI st D [(c1, .byte)] [(h0, .inr (14, [.int 0, .null, .int 0, .int 0, .null, .int 0, .int 0, .int 0, .int 0, .int 0, .null, .null, .null, .null, .null, .null, .null, .null, .null, .int 0, .null, .null, .null, .null, .null, .null, .null, .null, .null, .null, .long 0, .int 0, .int 0, .int 0, .null, .null, .null, .null, .null, .int 0, .int 0, .int 0, .int 0, .int 0])), (q1, .inl (c1, 262656, .inl (fun _ => 0)))] A s H _ := hI
  refine z_putF hC hnm hI (w1 := [(h0, .inr (14, [.int 0, .ref q1, .int 0, .int 0, .null, .int 0, .int 0, .int 0, .int 0, .int 0, .null, .null, .null, .null, .null, .null, .null, .null, .null, .int 0, .null, .null, .null, .null, .null, .null, .null, .null, .null, .null, .long 0, .int 0, .int 0, .int 0, .null, .null, .null, .null, .null, .int 0, .int 0, .int 0, .int 0, .int 0])), (q1, .inl (c1, 262656, .inl (fun _ => 0)))]) (fun w h => List.mem_cons_of_mem _ (inlX12 w h)) tyX12_ok nmX12 0 rfl rfl 1 (by decide) (List.mem_cons_of_mem _ zw9_3) rfl rfl rfl rfl (Nat.le_of_ble_eq_true rfl) rfl dX12_init_9 (fun H locs hI => ?_)
  refine lv_aload_n hx hb dX12_init_12 rfl (lv_at hl 0 rfl) ?_
  refine lv_ldc (v := 262144) hx hb hC.2.2.2.1 (hC.2.2.2.2.1 _ (List.mem_cons_of_mem _ zw9_4)) dX12_init_13 ?_
  refine z_newb hC hI (List.mem_cons_of_mem _ zw9_2) 262144 (by decide +kernel) (by decide +kernel) (by decide +kernel) (Nat.le_of_ble_eq_true rfl) (Nat.le_of_ble_eq_true rfl) dX12_init_15 (fun q2 c2 H hI => ?_)
  have hI : zI st D [(c1, .byte), (c2, .byte)] [(h0, .inr (14, [.int 0, .ref q1, .int 0, .int 0, .null, .int 0, .int 0, .int 0, .int 0, .int 0, .null, .null, .null, .null, .null, .null, .null, .null, .null, .int 0, .null, .null, .null, .null, .null, .null, .null, .null, .null, .null, .long 0, .int 0, .int 0, .int 0, .null, .null, .null, .null, .null, .int 0, .int 0, .int 0, .int 0, .int 0])), (q1, .inl (c1, 262656, .inl (fun _ => 0))), (q2, .inl (c2, 262144, .inl (fun _ => 0)))] A s H _ := hI
  refine z_putF hC hnm hI (w1 := [(h0, .inr (14, [.int 0, .ref q1, .int 0, .int 0, .ref q2, .int 0, .int 0, .int 0, .int 0, .int 0, .null, .null, .null, .null, .null, .null, .null, .null, .null, .int 0, .null, .null, .null, .null, .null, .null, .null, .null, .null, .null, .long 0, .int 0, .int 0, .int 0, .null, .null, .null, .null, .null, .int 0, .int 0, .int 0, .int 0, .int 0])), (q1, .inl (c1, 262656, .inl (fun _ => 0))), (q2, .inl (c2, 262144, .inl (fun _ => 0)))]) (fun w h => List.mem_cons_of_mem _ (inlX12 w h)) tyX12_ok nmX12 0 rfl rfl 4 (by decide) (List.mem_cons_of_mem _ zw9_5) rfl rfl rfl rfl (Nat.le_of_ble_eq_true rfl) rfl dX12_init_17 (fun H locs hI => ?_)
  refine lv_aload_n hx hb dX12_init_20 rfl (lv_at hl 0 rfl) ?_
  refine lv_iconst (v := (-1)) hx hb dX12_init_21 (by decide) ?_
  refine z_put hC hI (w1 := [(h0, .inr (14, [.int 0, .ref q1, .int 0, .int 0, .ref q2, .int 0, .int 0, .int 0, .int (-1), .int 0, .null, .null, .null, .null, .null, .null, .null, .null, .null, .int 0, .null, .null, .null, .null, .null, .null, .null, .null, .null, .null, .long 0, .int 0, .int 0, .int 0, .null, .null, .null, .null, .null, .int 0, .int 0, .int 0, .int 0, .int 0])), (q1, .inl (c1, 262656, .inl (fun _ => 0))), (q2, .inl (c2, 262144, .inl (fun _ => 0)))]) (fun w h => List.mem_cons_of_mem _ (inlX12 w h)) tyX12_ok nmX12 0 rfl rfl 8 (by decide) (List.mem_cons_of_mem _ zw9_6) rfl rfl rfl (Nat.le_of_ble_eq_true rfl) rfl dX12_init_22 (fun H locs hI => ?_)
  refine lv_aload_n hx hb dX12_init_25 rfl (lv_at hl 0 rfl) ?_
  refine lv_sipush (v := 1048) hx hb dX12_init_26 (by decide) ?_
  refine z_newi hC hI (List.mem_cons_of_mem _ zw3_15) 1048 (by decide +kernel) (by decide +kernel) (by decide +kernel) (Nat.le_of_ble_eq_true rfl) (Nat.le_of_ble_eq_true rfl) dX12_init_29 (fun q3 c3 H hI => ?_)
  have hI : zI st D [(c1, .byte), (c2, .byte), (c3, .int)] [(h0, .inr (14, [.int 0, .ref q1, .int 0, .int 0, .ref q2, .int 0, .int 0, .int 0, .int (-1), .int 0, .null, .null, .null, .null, .null, .null, .null, .null, .null, .int 0, .null, .null, .null, .null, .null, .null, .null, .null, .null, .null, .long 0, .int 0, .int 0, .int 0, .null, .null, .null, .null, .null, .int 0, .int 0, .int 0, .int 0, .int 0])), (q1, .inl (c1, 262656, .inl (fun _ => 0))), (q2, .inl (c2, 262144, .inl (fun _ => 0))), (q3, .inl (c3, 1048, .inl (fun _ => 0)))] A s H _ := hI
  refine z_putF hC hnm hI (w1 := [(h0, .inr (14, [.int 0, .ref q1, .int 0, .int 0, .ref q2, .int 0, .int 0, .int 0, .int (-1), .int 0, .ref q3, .null, .null, .null, .null, .null, .null, .null, .null, .int 0, .null, .null, .null, .null, .null, .null, .null, .null, .null, .null, .long 0, .int 0, .int 0, .int 0, .null, .null, .null, .null, .null, .int 0, .int 0, .int 0, .int 0, .int 0])), (q1, .inl (c1, 262656, .inl (fun _ => 0))), (q2, .inl (c2, 262144, .inl (fun _ => 0))), (q3, .inl (c3, 1048, .inl (fun _ => 0)))]) (fun w h => List.mem_cons_of_mem _ (inlX12 w h)) tyX12_ok nmX12 0 rfl rfl 10 (by decide) (List.mem_cons_of_mem _ zw9_7) rfl rfl rfl rfl (Nat.le_of_ble_eq_true rfl) rfl dX12_init_31 (fun H locs hI => ?_)
  refine lv_aload_n hx hb dX12_init_34 rfl (lv_at hl 0 rfl) ?_
  refine lv_iconst (v := 5) hx hb dX12_init_35 (by decide) ?_
  refine z_newl hC hI (List.mem_cons_of_mem _ zw1_6) 5 (by decide +kernel) (by decide +kernel) (by decide +kernel) (Nat.le_of_ble_eq_true rfl) (Nat.le_of_ble_eq_true rfl) dX12_init_36 (fun q4 c4 H hI => ?_)
  have hI : zI st D [(c1, .byte), (c2, .byte), (c3, .int), (c4, .long)] [(h0, .inr (14, [.int 0, .ref q1, .int 0, .int 0, .ref q2, .int 0, .int 0, .int 0, .int (-1), .int 0, .ref q3, .null, .null, .null, .null, .null, .null, .null, .null, .int 0, .null, .null, .null, .null, .null, .null, .null, .null, .null, .null, .long 0, .int 0, .int 0, .int 0, .null, .null, .null, .null, .null, .int 0, .int 0, .int 0, .int 0, .int 0])), (q1, .inl (c1, 262656, .inl (fun _ => 0))), (q2, .inl (c2, 262144, .inl (fun _ => 0))), (q3, .inl (c3, 1048, .inl (fun _ => 0))), (q4, .inl (c4, 5, .inr (.inl (fun _ => 0))))] A s H _ := hI
  refine z_putF hC hnm hI (w1 := [(h0, .inr (14, [.int 0, .ref q1, .int 0, .int 0, .ref q2, .int 0, .int 0, .int 0, .int (-1), .int 0, .ref q3, .ref q4, .null, .null, .null, .null, .null, .null, .null, .int 0, .null, .null, .null, .null, .null, .null, .null, .null, .null, .null, .long 0, .int 0, .int 0, .int 0, .null, .null, .null, .null, .null, .int 0, .int 0, .int 0, .int 0, .int 0])), (q1, .inl (c1, 262656, .inl (fun _ => 0))), (q2, .inl (c2, 262144, .inl (fun _ => 0))), (q3, .inl (c3, 1048, .inl (fun _ => 0))), (q4, .inl (c4, 5, .inr (.inl (fun _ => 0))))]) (fun w h => List.mem_cons_of_mem _ (inlX12 w h)) tyX12_ok nmX12 0 rfl rfl 11 (by decide) (List.mem_cons_of_mem _ zw9_8) rfl rfl rfl rfl (Nat.le_of_ble_eq_true rfl) rfl dX12_init_38 (fun H locs hI => ?_)
  refine lv_aload_n hx hb dX12_init_41 rfl (lv_at hl 0 rfl) ?_
  refine lv_sipush (v := 8192) hx hb dX12_init_42 (by decide) ?_
  refine z_newb hC hI (List.mem_cons_of_mem _ zw9_2) 8192 (by decide +kernel) (by decide +kernel) (by decide +kernel) (Nat.le_of_ble_eq_true rfl) (Nat.le_of_ble_eq_true rfl) dX12_init_45 (fun q5 c5 H hI => ?_)
  have hI : zI st D [(c1, .byte), (c2, .byte), (c3, .int), (c4, .long), (c5, .byte)] [(h0, .inr (14, [.int 0, .ref q1, .int 0, .int 0, .ref q2, .int 0, .int 0, .int 0, .int (-1), .int 0, .ref q3, .ref q4, .null, .null, .null, .null, .null, .null, .null, .int 0, .null, .null, .null, .null, .null, .null, .null, .null, .null, .null, .long 0, .int 0, .int 0, .int 0, .null, .null, .null, .null, .null, .int 0, .int 0, .int 0, .int 0, .int 0])), (q1, .inl (c1, 262656, .inl (fun _ => 0))), (q2, .inl (c2, 262144, .inl (fun _ => 0))), (q3, .inl (c3, 1048, .inl (fun _ => 0))), (q4, .inl (c4, 5, .inr (.inl (fun _ => 0)))), (q5, .inl (c5, 8192, .inl (fun _ => 0)))] A s H _ := hI
  refine z_putF hC hnm hI (w1 := [(h0, .inr (14, [.int 0, .ref q1, .int 0, .int 0, .ref q2, .int 0, .int 0, .int 0, .int (-1), .int 0, .ref q3, .ref q4, .ref q5, .null, .null, .null, .null, .null, .null, .int 0, .null, .null, .null, .null, .null, .null, .null, .null, .null, .null, .long 0, .int 0, .int 0, .int 0, .null, .null, .null, .null, .null, .int 0, .int 0, .int 0, .int 0, .int 0])), (q1, .inl (c1, 262656, .inl (fun _ => 0))), (q2, .inl (c2, 262144, .inl (fun _ => 0))), (q3, .inl (c3, 1048, .inl (fun _ => 0))), (q4, .inl (c4, 5, .inr (.inl (fun _ => 0)))), (q5, .inl (c5, 8192, .inl (fun _ => 0)))]) (fun w h => List.mem_cons_of_mem _ (inlX12 w h)) tyX12_ok nmX12 0 rfl rfl 12 (by decide) (List.mem_cons_of_mem _ zw9_9) rfl rfl rfl rfl (Nat.le_of_ble_eq_true rfl) rfl dX12_init_47 (fun H locs hI => ?_)
  refine lv_aload_n hx hb dX12_init_50 rfl (lv_at hl 0 rfl) ?_
  refine lv_ldc (v := 32768) hx hb hC.2.2.2.1 (hC.2.2.2.2.1 _ (List.mem_cons_of_mem _ zw9_10)) dX12_init_51 ?_
  refine z_newb hC hI (List.mem_cons_of_mem _ zw9_2) 32768 (by decide +kernel) (by decide +kernel) (by decide +kernel) (Nat.le_of_ble_eq_true rfl) (Nat.le_of_ble_eq_true rfl) dX12_init_53 (fun q6 c6 H hI => ?_)
  have hI : zI st D [(c1, .byte), (c2, .byte), (c3, .int), (c4, .long), (c5, .byte), (c6, .byte)] [(h0, .inr (14, [.int 0, .ref q1, .int 0, .int 0, .ref q2, .int 0, .int 0, .int 0, .int (-1), .int 0, .ref q3, .ref q4, .ref q5, .null, .null, .null, .null, .null, .null, .int 0, .null, .null, .null, .null, .null, .null, .null, .null, .null, .null, .long 0, .int 0, .int 0, .int 0, .null, .null, .null, .null, .null, .int 0, .int 0, .int 0, .int 0, .int 0])), (q1, .inl (c1, 262656, .inl (fun _ => 0))), (q2, .inl (c2, 262144, .inl (fun _ => 0))), (q3, .inl (c3, 1048, .inl (fun _ => 0))), (q4, .inl (c4, 5, .inr (.inl (fun _ => 0)))), (q5, .inl (c5, 8192, .inl (fun _ => 0))), (q6, .inl (c6, 32768, .inl (fun _ => 0)))] A s H _ := hI
  refine z_putF hC hnm hI (w1 := [(h0, .inr (14, [.int 0, .ref q1, .int 0, .int 0, .ref q2, .int 0, .int 0, .int 0, .int (-1), .int 0, .ref q3, .ref q4, .ref q5, .ref q6, .null, .null, .null, .null, .null, .int 0, .null, .null, .null, .null, .null, .null, .null, .null, .null, .null, .long 0, .int 0, .int 0, .int 0, .null, .null, .null, .null, .null, .int 0, .int 0, .int 0, .int 0, .int 0])), (q1, .inl (c1, 262656, .inl (fun _ => 0))), (q2, .inl (c2, 262144, .inl (fun _ => 0))), (q3, .inl (c3, 1048, .inl (fun _ => 0))), (q4, .inl (c4, 5, .inr (.inl (fun _ => 0)))), (q5, .inl (c5, 8192, .inl (fun _ => 0))), (q6, .inl (c6, 32768, .inl (fun _ => 0)))]) (fun w h => List.mem_cons_of_mem _ (inlX12 w h)) tyX12_ok nmX12 0 rfl rfl 13 (by decide) (List.mem_cons_of_mem _ zw9_11) rfl rfl rfl rfl (Nat.le_of_ble_eq_true rfl) rfl dX12_init_55 (fun H locs hI => ?_)
  refine lv_aload_n hx hb dX12_init_58 rfl (lv_at hl 0 rfl) ?_
  refine lv_sipush (v := 16384) hx hb dX12_init_59 (by decide) ?_
  refine z_newb hC hI (List.mem_cons_of_mem _ zw9_2) 16384 (by decide +kernel) (by decide +kernel) (by decide +kernel) (Nat.le_of_ble_eq_true rfl) (Nat.le_of_ble_eq_true rfl) dX12_init_62 (fun q7 c7 H hI => ?_)
  have hI : zI st D [(c1, .byte), (c2, .byte), (c3, .int), (c4, .long), (c5, .byte), (c6, .byte), (c7, .byte)] [(h0, .inr (14, [.int 0, .ref q1, .int 0, .int 0, .ref q2, .int 0, .int 0, .int 0, .int (-1), .int 0, .ref q3, .ref q4, .ref q5, .ref q6, .null, .null, .null, .null, .null, .int 0, .null, .null, .null, .null, .null, .null, .null, .null, .null, .null, .long 0, .int 0, .int 0, .int 0, .null, .null, .null, .null, .null, .int 0, .int 0, .int 0, .int 0, .int 0])), (q1, .inl (c1, 262656, .inl (fun _ => 0))), (q2, .inl (c2, 262144, .inl (fun _ => 0))), (q3, .inl (c3, 1048, .inl (fun _ => 0))), (q4, .inl (c4, 5, .inr (.inl (fun _ => 0)))), (q5, .inl (c5, 8192, .inl (fun _ => 0))), (q6, .inl (c6, 32768, .inl (fun _ => 0))), (q7, .inl (c7, 16384, .inl (fun _ => 0)))] A s H _ := hI
  refine z_putF hC hnm hI (w1 := [(h0, .inr (14, [.int 0, .ref q1, .int 0, .int 0, .ref q2, .int 0, .int 0, .int 0, .int (-1), .int 0, .ref q3, .ref q4, .ref q5, .ref q6, .ref q7, .null, .null, .null, .null, .int 0, .null, .null, .null, .null, .null, .null, .null, .null, .null, .null, .long 0, .int 0, .int 0, .int 0, .null, .null, .null, .null, .null, .int 0, .int 0, .int 0, .int 0, .int 0])), (q1, .inl (c1, 262656, .inl (fun _ => 0))), (q2, .inl (c2, 262144, .inl (fun _ => 0))), (q3, .inl (c3, 1048, .inl (fun _ => 0))), (q4, .inl (c4, 5, .inr (.inl (fun _ => 0)))), (q5, .inl (c5, 8192, .inl (fun _ => 0))), (q6, .inl (c6, 32768, .inl (fun _ => 0))), (q7, .inl (c7, 16384, .inl (fun _ => 0)))]) (fun w h => List.mem_cons_of_mem _ (inlX12 w h)) tyX12_ok nmX12 0 rfl rfl 14 (by decide) (List.mem_cons_of_mem _ zw9_12) rfl rfl rfl rfl (Nat.le_of_ble_eq_true rfl) rfl dX12_init_64 (fun H locs hI => ?_)
  refine lv_aload_n hx hb dX12_init_67 rfl (lv_at hl 0 rfl) ?_
  refine lv_bipush (v := 64) hx hb dX12_init_68 (by decide) ?_
  refine z_newb hC hI (List.mem_cons_of_mem _ zw9_2) 64 (by decide +kernel) (by decide +kernel) (by decide +kernel) (Nat.le_of_ble_eq_true rfl) (Nat.le_of_ble_eq_true rfl) dX12_init_70 (fun q8 c8 H hI => ?_)
  have hI : zI st D [(c1, .byte), (c2, .byte), (c3, .int), (c4, .long), (c5, .byte), (c6, .byte), (c7, .byte), (c8, .byte)] [(h0, .inr (14, [.int 0, .ref q1, .int 0, .int 0, .ref q2, .int 0, .int 0, .int 0, .int (-1), .int 0, .ref q3, .ref q4, .ref q5, .ref q6, .ref q7, .null, .null, .null, .null, .int 0, .null, .null, .null, .null, .null, .null, .null, .null, .null, .null, .long 0, .int 0, .int 0, .int 0, .null, .null, .null, .null, .null, .int 0, .int 0, .int 0, .int 0, .int 0])), (q1, .inl (c1, 262656, .inl (fun _ => 0))), (q2, .inl (c2, 262144, .inl (fun _ => 0))), (q3, .inl (c3, 1048, .inl (fun _ => 0))), (q4, .inl (c4, 5, .inr (.inl (fun _ => 0)))), (q5, .inl (c5, 8192, .inl (fun _ => 0))), (q6, .inl (c6, 32768, .inl (fun _ => 0))), (q7, .inl (c7, 16384, .inl (fun _ => 0))), (q8, .inl (c8, 64, .inl (fun _ => 0)))] A s H _ := hI
  refine z_putF hC hnm hI (w1 := [(h0, .inr (14, [.int 0, .ref q1, .int 0, .int 0, .ref q2, .int 0, .int 0, .int 0, .int (-1), .int 0, .ref q3, .ref q4, .ref q5, .ref q6, .ref q7, .ref q8, .null, .null, .null, .int 0, .null, .null, .null, .null, .null, .null, .null, .null, .null, .null, .long 0, .int 0, .int 0, .int 0, .null, .null, .null, .null, .null, .int 0, .int 0, .int 0, .int 0, .int 0])), (q1, .inl (c1, 262656, .inl (fun _ => 0))), (q2, .inl (c2, 262144, .inl (fun _ => 0))), (q3, .inl (c3, 1048, .inl (fun _ => 0))), (q4, .inl (c4, 5, .inr (.inl (fun _ => 0)))), (q5, .inl (c5, 8192, .inl (fun _ => 0))), (q6, .inl (c6, 32768, .inl (fun _ => 0))), (q7, .inl (c7, 16384, .inl (fun _ => 0))), (q8, .inl (c8, 64, .inl (fun _ => 0)))]) (fun w h => List.mem_cons_of_mem _ (inlX12 w h)) tyX12_ok nmX12 0 rfl rfl 15 (by decide) (List.mem_cons_of_mem _ zw9_13) rfl rfl rfl rfl (Nat.le_of_ble_eq_true rfl) rfl dX12_init_72 (fun H locs hI => ?_)
  refine lv_aload_n hx hb dX12_init_75 rfl (lv_at hl 0 rfl) ?_
  refine lv_ldc (v := 61440) hx hb hC.2.2.2.1 (hC.2.2.2.2.1 _ (List.mem_cons_of_mem _ zw9_14)) dX12_init_76 ?_
  refine z_newi hC hI (List.mem_cons_of_mem _ zw3_15) 61440 (by decide +kernel) (by decide +kernel) (by decide +kernel) (Nat.le_of_ble_eq_true rfl) (Nat.le_of_ble_eq_true rfl) dX12_init_78 (fun q9 c9 H hI => ?_)
  have hI : zI st D [(c1, .byte), (c2, .byte), (c3, .int), (c4, .long), (c5, .byte), (c6, .byte), (c7, .byte), (c8, .byte), (c9, .int)] [(h0, .inr (14, [.int 0, .ref q1, .int 0, .int 0, .ref q2, .int 0, .int 0, .int 0, .int (-1), .int 0, .ref q3, .ref q4, .ref q5, .ref q6, .ref q7, .ref q8, .null, .null, .null, .int 0, .null, .null, .null, .null, .null, .null, .null, .null, .null, .null, .long 0, .int 0, .int 0, .int 0, .null, .null, .null, .null, .null, .int 0, .int 0, .int 0, .int 0, .int 0])), (q1, .inl (c1, 262656, .inl (fun _ => 0))), (q2, .inl (c2, 262144, .inl (fun _ => 0))), (q3, .inl (c3, 1048, .inl (fun _ => 0))), (q4, .inl (c4, 5, .inr (.inl (fun _ => 0)))), (q5, .inl (c5, 8192, .inl (fun _ => 0))), (q6, .inl (c6, 32768, .inl (fun _ => 0))), (q7, .inl (c7, 16384, .inl (fun _ => 0))), (q8, .inl (c8, 64, .inl (fun _ => 0))), (q9, .inl (c9, 61440, .inl (fun _ => 0)))] A s H _ := hI
  refine z_putF hC hnm hI (w1 := [(h0, .inr (14, [.int 0, .ref q1, .int 0, .int 0, .ref q2, .int 0, .int 0, .int 0, .int (-1), .int 0, .ref q3, .ref q4, .ref q5, .ref q6, .ref q7, .ref q8, .ref q9, .null, .null, .int 0, .null, .null, .null, .null, .null, .null, .null, .null, .null, .null, .long 0, .int 0, .int 0, .int 0, .null, .null, .null, .null, .null, .int 0, .int 0, .int 0, .int 0, .int 0])), (q1, .inl (c1, 262656, .inl (fun _ => 0))), (q2, .inl (c2, 262144, .inl (fun _ => 0))), (q3, .inl (c3, 1048, .inl (fun _ => 0))), (q4, .inl (c4, 5, .inr (.inl (fun _ => 0)))), (q5, .inl (c5, 8192, .inl (fun _ => 0))), (q6, .inl (c6, 32768, .inl (fun _ => 0))), (q7, .inl (c7, 16384, .inl (fun _ => 0))), (q8, .inl (c8, 64, .inl (fun _ => 0))), (q9, .inl (c9, 61440, .inl (fun _ => 0)))]) (fun w h => List.mem_cons_of_mem _ (inlX12 w h)) tyX12_ok nmX12 0 rfl rfl 16 (by decide) (List.mem_cons_of_mem _ zw9_15) rfl rfl rfl rfl (Nat.le_of_ble_eq_true rfl) rfl dX12_init_80 (fun H locs hI => ?_)
  refine lv_aload_n hx hb dX12_init_83 rfl (lv_at hl 0 rfl) ?_
  refine lv_sipush (v := 4096) hx hb dX12_init_84 (by decide) ?_
  refine z_newl hC hI (List.mem_cons_of_mem _ zw1_6) 4096 (by decide +kernel) (by decide +kernel) (by decide +kernel) (Nat.le_of_ble_eq_true rfl) (Nat.le_of_ble_eq_true rfl) dX12_init_87 (fun q10 c10 H hI => ?_)
  have hI : zI st D [(c1, .byte), (c2, .byte), (c3, .int), (c4, .long), (c5, .byte), (c6, .byte), (c7, .byte), (c8, .byte), (c9, .int), (c10, .long)] [(h0, .inr (14, [.int 0, .ref q1, .int 0, .int 0, .ref q2, .int 0, .int 0, .int 0, .int (-1), .int 0, .ref q3, .ref q4, .ref q5, .ref q6, .ref q7, .ref q8, .ref q9, .null, .null, .int 0, .null, .null, .null, .null, .null, .null, .null, .null, .null, .null, .long 0, .int 0, .int 0, .int 0, .null, .null, .null, .null, .null, .int 0, .int 0, .int 0, .int 0, .int 0])), (q1, .inl (c1, 262656, .inl (fun _ => 0))), (q2, .inl (c2, 262144, .inl (fun _ => 0))), (q3, .inl (c3, 1048, .inl (fun _ => 0))), (q4, .inl (c4, 5, .inr (.inl (fun _ => 0)))), (q5, .inl (c5, 8192, .inl (fun _ => 0))), (q6, .inl (c6, 32768, .inl (fun _ => 0))), (q7, .inl (c7, 16384, .inl (fun _ => 0))), (q8, .inl (c8, 64, .inl (fun _ => 0))), (q9, .inl (c9, 61440, .inl (fun _ => 0))), (q10, .inl (c10, 4096, .inr (.inl (fun _ => 0))))] A s H _ := hI
  refine z_putF hC hnm hI (w1 := [(h0, .inr (14, [.int 0, .ref q1, .int 0, .int 0, .ref q2, .int 0, .int 0, .int 0, .int (-1), .int 0, .ref q3, .ref q4, .ref q5, .ref q6, .ref q7, .ref q8, .ref q9, .ref q10, .null, .int 0, .null, .null, .null, .null, .null, .null, .null, .null, .null, .null, .long 0, .int 0, .int 0, .int 0, .null, .null, .null, .null, .null, .int 0, .int 0, .int 0, .int 0, .int 0])), (q1, .inl (c1, 262656, .inl (fun _ => 0))), (q2, .inl (c2, 262144, .inl (fun _ => 0))), (q3, .inl (c3, 1048, .inl (fun _ => 0))), (q4, .inl (c4, 5, .inr (.inl (fun _ => 0)))), (q5, .inl (c5, 8192, .inl (fun _ => 0))), (q6, .inl (c6, 32768, .inl (fun _ => 0))), (q7, .inl (c7, 16384, .inl (fun _ => 0))), (q8, .inl (c8, 64, .inl (fun _ => 0))), (q9, .inl (c9, 61440, .inl (fun _ => 0))), (q10, .inl (c10, 4096, .inr (.inl (fun _ => 0))))]) (fun w h => List.mem_cons_of_mem _ (inlX12 w h)) tyX12_ok nmX12 0 rfl rfl 17 (by decide) (List.mem_cons_of_mem _ zw9_16) rfl rfl rfl rfl (Nat.le_of_ble_eq_true rfl) rfl dX12_init_89 (fun H locs hI => ?_)
  refine lv_aload_n hx hb dX12_init_92 rfl (lv_at hl 0 rfl) ?_
  refine lv_sipush (v := 4096) hx hb dX12_init_93 (by decide) ?_
  refine z_newl hC hI (List.mem_cons_of_mem _ zw1_6) 4096 (by decide +kernel) (by decide +kernel) (by decide +kernel) (Nat.le_of_ble_eq_true rfl) (Nat.le_of_ble_eq_true rfl) dX12_init_96 (fun q11 c11 H hI => ?_)
  have hI : zI st D [(c1, .byte), (c2, .byte), (c3, .int), (c4, .long), (c5, .byte), (c6, .byte), (c7, .byte), (c8, .byte), (c9, .int), (c10, .long), (c11, .long)] [(h0, .inr (14, [.int 0, .ref q1, .int 0, .int 0, .ref q2, .int 0, .int 0, .int 0, .int (-1), .int 0, .ref q3, .ref q4, .ref q5, .ref q6, .ref q7, .ref q8, .ref q9, .ref q10, .null, .int 0, .null, .null, .null, .null, .null, .null, .null, .null, .null, .null, .long 0, .int 0, .int 0, .int 0, .null, .null, .null, .null, .null, .int 0, .int 0, .int 0, .int 0, .int 0])), (q1, .inl (c1, 262656, .inl (fun _ => 0))), (q2, .inl (c2, 262144, .inl (fun _ => 0))), (q3, .inl (c3, 1048, .inl (fun _ => 0))), (q4, .inl (c4, 5, .inr (.inl (fun _ => 0)))), (q5, .inl (c5, 8192, .inl (fun _ => 0))), (q6, .inl (c6, 32768, .inl (fun _ => 0))), (q7, .inl (c7, 16384, .inl (fun _ => 0))), (q8, .inl (c8, 64, .inl (fun _ => 0))), (q9, .inl (c9, 61440, .inl (fun _ => 0))), (q10, .inl (c10, 4096, .inr (.inl (fun _ => 0)))), (q11, .inl (c11, 4096, .inr (.inl (fun _ => 0))))] A s H _ := hI
  refine z_putF hC hnm hI (w1 := [(h0, .inr (14, [.int 0, .ref q1, .int 0, .int 0, .ref q2, .int 0, .int 0, .int 0, .int (-1), .int 0, .ref q3, .ref q4, .ref q5, .ref q6, .ref q7, .ref q8, .ref q9, .ref q10, .ref q11, .int 0, .null, .null, .null, .null, .null, .null, .null, .null, .null, .null, .long 0, .int 0, .int 0, .int 0, .null, .null, .null, .null, .null, .int 0, .int 0, .int 0, .int 0, .int 0])), (q1, .inl (c1, 262656, .inl (fun _ => 0))), (q2, .inl (c2, 262144, .inl (fun _ => 0))), (q3, .inl (c3, 1048, .inl (fun _ => 0))), (q4, .inl (c4, 5, .inr (.inl (fun _ => 0)))), (q5, .inl (c5, 8192, .inl (fun _ => 0))), (q6, .inl (c6, 32768, .inl (fun _ => 0))), (q7, .inl (c7, 16384, .inl (fun _ => 0))), (q8, .inl (c8, 64, .inl (fun _ => 0))), (q9, .inl (c9, 61440, .inl (fun _ => 0))), (q10, .inl (c10, 4096, .inr (.inl (fun _ => 0)))), (q11, .inl (c11, 4096, .inr (.inl (fun _ => 0))))]) (fun w h => List.mem_cons_of_mem _ (inlX12 w h)) tyX12_ok nmX12 0 rfl rfl 18 (by decide) (List.mem_cons_of_mem _ zw9_17) rfl rfl rfl rfl (Nat.le_of_ble_eq_true rfl) rfl dX12_init_98 (fun H locs hI => ?_)
  refine lv_aload_n hx hb dX12_init_101 rfl (lv_at hl 0 rfl) ?_
  refine lv_sipush (v := 1048) hx hb dX12_init_102 (by decide) ?_
  refine z_newi hC hI (List.mem_cons_of_mem _ zw3_15) 1048 (by decide +kernel) (by decide +kernel) (by decide +kernel) (Nat.le_of_ble_eq_true rfl) (Nat.le_of_ble_eq_true rfl) dX12_init_105 (fun q12 c12 H hI => ?_)
  have hI : zI st D [(c1, .byte), (c2, .byte), (c3, .int), (c4, .long), (c5, .byte), (c6, .byte), (c7, .byte), (c8, .byte), (c9, .int), (c10, .long), (c11, .long), (c12, .int)] [(h0, .inr (14, [.int 0, .ref q1, .int 0, .int 0, .ref q2, .int 0, .int 0, .int 0, .int (-1), .int 0, .ref q3, .ref q4, .ref q5, .ref q6, .ref q7, .ref q8, .ref q9, .ref q10, .ref q11, .int 0, .null, .null, .null, .null, .null, .null, .null, .null, .null, .null, .long 0, .int 0, .int 0, .int 0, .null, .null, .null, .null, .null, .int 0, .int 0, .int 0, .int 0, .int 0])), (q1, .inl (c1, 262656, .inl (fun _ => 0))), (q2, .inl (c2, 262144, .inl (fun _ => 0))), (q3, .inl (c3, 1048, .inl (fun _ => 0))), (q4, .inl (c4, 5, .inr (.inl (fun _ => 0)))), (q5, .inl (c5, 8192, .inl (fun _ => 0))), (q6, .inl (c6, 32768, .inl (fun _ => 0))), (q7, .inl (c7, 16384, .inl (fun _ => 0))), (q8, .inl (c8, 64, .inl (fun _ => 0))), (q9, .inl (c9, 61440, .inl (fun _ => 0))), (q10, .inl (c10, 4096, .inr (.inl (fun _ => 0)))), (q11, .inl (c11, 4096, .inr (.inl (fun _ => 0)))), (q12, .inl (c12, 1048, .inl (fun _ => 0)))] A s H _ := hI
  refine z_putF hC hnm hI (w1 := [(h0, .inr (14, [.int 0, .ref q1, .int 0, .int 0, .ref q2, .int 0, .int 0, .int 0, .int (-1), .int 0, .ref q3, .ref q4, .ref q5, .ref q6, .ref q7, .ref q8, .ref q9, .ref q10, .ref q11, .int 0, .ref q12, .null, .null, .null, .null, .null, .null, .null, .null, .null, .long 0, .int 0, .int 0, .int 0, .null, .null, .null, .null, .null, .int 0, .int 0, .int 0, .int 0, .int 0])), (q1, .inl (c1, 262656, .inl (fun _ => 0))), (q2, .inl (c2, 262144, .inl (fun _ => 0))), (q3, .inl (c3, 1048, .inl (fun _ => 0))), (q4, .inl (c4, 5, .inr (.inl (fun _ => 0)))), (q5, .inl (c5, 8192, .inl (fun _ => 0))), (q6, .inl (c6, 32768, .inl (fun _ => 0))), (q7, .inl (c7, 16384, .inl (fun _ => 0))), (q8, .inl (c8, 64, .inl (fun _ => 0))), (q9, .inl (c9, 61440, .inl (fun _ => 0))), (q10, .inl (c10, 4096, .inr (.inl (fun _ => 0)))), (q11, .inl (c11, 4096, .inr (.inl (fun _ => 0)))), (q12, .inl (c12, 1048, .inl (fun _ => 0)))]) (fun w h => List.mem_cons_of_mem _ (inlX12 w h)) tyX12_ok nmX12 0 rfl rfl 20 (by decide) (List.mem_cons_of_mem _ zw9_18) rfl rfl rfl rfl (Nat.le_of_ble_eq_true rfl) rfl dX12_init_107 (fun H locs hI => ?_)
  refine lv_aload_n hx hb dX12_init_110 rfl (lv_at hl 0 rfl) ?_
  refine lv_iconst (v := 5) hx hb dX12_init_111 (by decide) ?_
  refine z_newl hC hI (List.mem_cons_of_mem _ zw1_6) 5 (by decide +kernel) (by decide +kernel) (by decide +kernel) (Nat.le_of_ble_eq_true rfl) (Nat.le_of_ble_eq_true rfl) dX12_init_112 (fun q13 c13 H hI => ?_)
  have hI : zI st D [(c1, .byte), (c2, .byte), (c3, .int), (c4, .long), (c5, .byte), (c6, .byte), (c7, .byte), (c8, .byte), (c9, .int), (c10, .long), (c11, .long), (c12, .int), (c13, .long)] [(h0, .inr (14, [.int 0, .ref q1, .int 0, .int 0, .ref q2, .int 0, .int 0, .int 0, .int (-1), .int 0, .ref q3, .ref q4, .ref q5, .ref q6, .ref q7, .ref q8, .ref q9, .ref q10, .ref q11, .int 0, .ref q12, .null, .null, .null, .null, .null, .null, .null, .null, .null, .long 0, .int 0, .int 0, .int 0, .null, .null, .null, .null, .null, .int 0, .int 0, .int 0, .int 0, .int 0])), (q1, .inl (c1, 262656, .inl (fun _ => 0))), (q2, .inl (c2, 262144, .inl (fun _ => 0))), (q3, .inl (c3, 1048, .inl (fun _ => 0))), (q4, .inl (c4, 5, .inr (.inl (fun _ => 0)))), (q5, .inl (c5, 8192, .inl (fun _ => 0))), (q6, .inl (c6, 32768, .inl (fun _ => 0))), (q7, .inl (c7, 16384, .inl (fun _ => 0))), (q8, .inl (c8, 64, .inl (fun _ => 0))), (q9, .inl (c9, 61440, .inl (fun _ => 0))), (q10, .inl (c10, 4096, .inr (.inl (fun _ => 0)))), (q11, .inl (c11, 4096, .inr (.inl (fun _ => 0)))), (q12, .inl (c12, 1048, .inl (fun _ => 0))), (q13, .inl (c13, 5, .inr (.inl (fun _ => 0))))] A s H _ := hI
  refine z_putF hC hnm hI (w1 := [(h0, .inr (14, [.int 0, .ref q1, .int 0, .int 0, .ref q2, .int 0, .int 0, .int 0, .int (-1), .int 0, .ref q3, .ref q4, .ref q5, .ref q6, .ref q7, .ref q8, .ref q9, .ref q10, .ref q11, .int 0, .ref q12, .ref q13, .null, .null, .null, .null, .null, .null, .null, .null, .long 0, .int 0, .int 0, .int 0, .null, .null, .null, .null, .null, .int 0, .int 0, .int 0, .int 0, .int 0])), (q1, .inl (c1, 262656, .inl (fun _ => 0))), (q2, .inl (c2, 262144, .inl (fun _ => 0))), (q3, .inl (c3, 1048, .inl (fun _ => 0))), (q4, .inl (c4, 5, .inr (.inl (fun _ => 0)))), (q5, .inl (c5, 8192, .inl (fun _ => 0))), (q6, .inl (c6, 32768, .inl (fun _ => 0))), (q7, .inl (c7, 16384, .inl (fun _ => 0))), (q8, .inl (c8, 64, .inl (fun _ => 0))), (q9, .inl (c9, 61440, .inl (fun _ => 0))), (q10, .inl (c10, 4096, .inr (.inl (fun _ => 0)))), (q11, .inl (c11, 4096, .inr (.inl (fun _ => 0)))), (q12, .inl (c12, 1048, .inl (fun _ => 0))), (q13, .inl (c13, 5, .inr (.inl (fun _ => 0))))]) (fun w h => List.mem_cons_of_mem _ (inlX12 w h)) tyX12_ok nmX12 0 rfl rfl 21 (by decide) (List.mem_cons_of_mem _ zw9_19) rfl rfl rfl rfl (Nat.le_of_ble_eq_true rfl) rfl dX12_init_114 (fun H locs hI => ?_)
  refine lv_aload_n hx hb dX12_init_117 rfl (lv_at hl 0 rfl) ?_
  refine lv_sipush (v := 8192) hx hb dX12_init_118 (by decide) ?_
  refine z_newb hC hI (List.mem_cons_of_mem _ zw9_2) 8192 (by decide +kernel) (by decide +kernel) (by decide +kernel) (Nat.le_of_ble_eq_true rfl) (Nat.le_of_ble_eq_true rfl) dX12_init_121 (fun q14 c14 H hI => ?_)
  have hI : zI st D [(c1, .byte), (c2, .byte), (c3, .int), (c4, .long), (c5, .byte), (c6, .byte), (c7, .byte), (c8, .byte), (c9, .int), (c10, .long), (c11, .long), (c12, .int), (c13, .long), (c14, .byte)] [(h0, .inr (14, [.int 0, .ref q1, .int 0, .int 0, .ref q2, .int 0, .int 0, .int 0, .int (-1), .int 0, .ref q3, .ref q4, .ref q5, .ref q6, .ref q7, .ref q8, .ref q9, .ref q10, .ref q11, .int 0, .ref q12, .ref q13, .null, .null, .null, .null, .null, .null, .null, .null, .long 0, .int 0, .int 0, .int 0, .null, .null, .null, .null, .null, .int 0, .int 0, .int 0, .int 0, .int 0])), (q1, .inl (c1, 262656, .inl (fun _ => 0))), (q2, .inl (c2, 262144, .inl (fun _ => 0))), (q3, .inl (c3, 1048, .inl (fun _ => 0))), (q4, .inl (c4, 5, .inr (.inl (fun _ => 0)))), (q5, .inl (c5, 8192, .inl (fun _ => 0))), (q6, .inl (c6, 32768, .inl (fun _ => 0))), (q7, .inl (c7, 16384, .inl (fun _ => 0))), (q8, .inl (c8, 64, .inl (fun _ => 0))), (q9, .inl (c9, 61440, .inl (fun _ => 0))), (q10, .inl (c10, 4096, .inr (.inl (fun _ => 0)))), (q11, .inl (c11, 4096, .inr (.inl (fun _ => 0)))), (q12, .inl (c12, 1048, .inl (fun _ => 0))), (q13, .inl (c13, 5, .inr (.inl (fun _ => 0)))), (q14, .inl (c14, 8192, .inl (fun _ => 0)))] A s H _ := hI
  refine z_putF hC hnm hI (w1 := [(h0, .inr (14, [.int 0, .ref q1, .int 0, .int 0, .ref q2, .int 0, .int 0, .int 0, .int (-1), .int 0, .ref q3, .ref q4, .ref q5, .ref q6, .ref q7, .ref q8, .ref q9, .ref q10, .ref q11, .int 0, .ref q12, .ref q13, .ref q14, .null, .null, .null, .null, .null, .null, .null, .long 0, .int 0, .int 0, .int 0, .null, .null, .null, .null, .null, .int 0, .int 0, .int 0, .int 0, .int 0])), (q1, .inl (c1, 262656, .inl (fun _ => 0))), (q2, .inl (c2, 262144, .inl (fun _ => 0))), (q3, .inl (c3, 1048, .inl (fun _ => 0))), (q4, .inl (c4, 5, .inr (.inl (fun _ => 0)))), (q5, .inl (c5, 8192, .inl (fun _ => 0))), (q6, .inl (c6, 32768, .inl (fun _ => 0))), (q7, .inl (c7, 16384, .inl (fun _ => 0))), (q8, .inl (c8, 64, .inl (fun _ => 0))), (q9, .inl (c9, 61440, .inl (fun _ => 0))), (q10, .inl (c10, 4096, .inr (.inl (fun _ => 0)))), (q11, .inl (c11, 4096, .inr (.inl (fun _ => 0)))), (q12, .inl (c12, 1048, .inl (fun _ => 0))), (q13, .inl (c13, 5, .inr (.inl (fun _ => 0)))), (q14, .inl (c14, 8192, .inl (fun _ => 0)))]) (fun w h => List.mem_cons_of_mem _ (inlX12 w h)) tyX12_ok nmX12 0 rfl rfl 22 (by decide) (List.mem_cons_of_mem _ zw9_20) rfl rfl rfl rfl (Nat.le_of_ble_eq_true rfl) rfl dX12_init_123 (fun H locs hI => ?_)
  refine lv_aload_n hx hb dX12_init_126 rfl (lv_at hl 0 rfl) ?_
  refine lv_ldc (v := 32768) hx hb hC.2.2.2.1 (hC.2.2.2.2.1 _ (List.mem_cons_of_mem _ zw9_10)) dX12_init_127 ?_
  refine z_newb hC hI (List.mem_cons_of_mem _ zw9_2) 32768 (by decide +kernel) (by decide +kernel) (by decide +kernel) (Nat.le_of_ble_eq_true rfl) (Nat.le_of_ble_eq_true rfl) dX12_init_129 (fun q15 c15 H hI => ?_)
  have hI : zI st D [(c1, .byte), (c2, .byte), (c3, .int), (c4, .long), (c5, .byte), (c6, .byte), (c7, .byte), (c8, .byte), (c9, .int), (c10, .long), (c11, .long), (c12, .int), (c13, .long), (c14, .byte), (c15, .byte)] [(h0, .inr (14, [.int 0, .ref q1, .int 0, .int 0, .ref q2, .int 0, .int 0, .int 0, .int (-1), .int 0, .ref q3, .ref q4, .ref q5, .ref q6, .ref q7, .ref q8, .ref q9, .ref q10, .ref q11, .int 0, .ref q12, .ref q13, .ref q14, .null, .null, .null, .null, .null, .null, .null, .long 0, .int 0, .int 0, .int 0, .null, .null, .null, .null, .null, .int 0, .int 0, .int 0, .int 0, .int 0])), (q1, .inl (c1, 262656, .inl (fun _ => 0))), (q2, .inl (c2, 262144, .inl (fun _ => 0))), (q3, .inl (c3, 1048, .inl (fun _ => 0))), (q4, .inl (c4, 5, .inr (.inl (fun _ => 0)))), (q5, .inl (c5, 8192, .inl (fun _ => 0))), (q6, .inl (c6, 32768, .inl (fun _ => 0))), (q7, .inl (c7, 16384, .inl (fun _ => 0))), (q8, .inl (c8, 64, .inl (fun _ => 0))), (q9, .inl (c9, 61440, .inl (fun _ => 0))), (q10, .inl (c10, 4096, .inr (.inl (fun _ => 0)))), (q11, .inl (c11, 4096, .inr (.inl (fun _ => 0)))), (q12, .inl (c12, 1048, .inl (fun _ => 0))), (q13, .inl (c13, 5, .inr (.inl (fun _ => 0)))), (q14, .inl (c14, 8192, .inl (fun _ => 0))), (q15, .inl (c15, 32768, .inl (fun _ => 0)))] A s H _ := hI
  refine z_putF hC hnm hI (w1 := [(h0, .inr (14, [.int 0, .ref q1, .int 0, .int 0, .ref q2, .int 0, .int 0, .int 0, .int (-1), .int 0, .ref q3, .ref q4, .ref q5, .ref q6, .ref q7, .ref q8, .ref q9, .ref q10, .ref q11, .int 0, .ref q12, .ref q13, .ref q14, .ref q15, .null, .null, .null, .null, .null, .null, .long 0, .int 0, .int 0, .int 0, .null, .null, .null, .null, .null, .int 0, .int 0, .int 0, .int 0, .int 0])), (q1, .inl (c1, 262656, .inl (fun _ => 0))), (q2, .inl (c2, 262144, .inl (fun _ => 0))), (q3, .inl (c3, 1048, .inl (fun _ => 0))), (q4, .inl (c4, 5, .inr (.inl (fun _ => 0)))), (q5, .inl (c5, 8192, .inl (fun _ => 0))), (q6, .inl (c6, 32768, .inl (fun _ => 0))), (q7, .inl (c7, 16384, .inl (fun _ => 0))), (q8, .inl (c8, 64, .inl (fun _ => 0))), (q9, .inl (c9, 61440, .inl (fun _ => 0))), (q10, .inl (c10, 4096, .inr (.inl (fun _ => 0)))), (q11, .inl (c11, 4096, .inr (.inl (fun _ => 0)))), (q12, .inl (c12, 1048, .inl (fun _ => 0))), (q13, .inl (c13, 5, .inr (.inl (fun _ => 0)))), (q14, .inl (c14, 8192, .inl (fun _ => 0))), (q15, .inl (c15, 32768, .inl (fun _ => 0)))]) (fun w h => List.mem_cons_of_mem _ (inlX12 w h)) tyX12_ok nmX12 0 rfl rfl 23 (by decide) (List.mem_cons_of_mem _ zw9_21) rfl rfl rfl rfl (Nat.le_of_ble_eq_true rfl) rfl dX12_init_131 (fun H locs hI => ?_)
  refine lv_aload_n hx hb dX12_init_134 rfl (lv_at hl 0 rfl) ?_
  refine lv_sipush (v := 16384) hx hb dX12_init_135 (by decide) ?_
  refine z_newb hC hI (List.mem_cons_of_mem _ zw9_2) 16384 (by decide +kernel) (by decide +kernel) (by decide +kernel) (Nat.le_of_ble_eq_true rfl) (Nat.le_of_ble_eq_true rfl) dX12_init_138 (fun q16 c16 H hI => ?_)
  have hI : zI st D [(c1, .byte), (c2, .byte), (c3, .int), (c4, .long), (c5, .byte), (c6, .byte), (c7, .byte), (c8, .byte), (c9, .int), (c10, .long), (c11, .long), (c12, .int), (c13, .long), (c14, .byte), (c15, .byte), (c16, .byte)] [(h0, .inr (14, [.int 0, .ref q1, .int 0, .int 0, .ref q2, .int 0, .int 0, .int 0, .int (-1), .int 0, .ref q3, .ref q4, .ref q5, .ref q6, .ref q7, .ref q8, .ref q9, .ref q10, .ref q11, .int 0, .ref q12, .ref q13, .ref q14, .ref q15, .null, .null, .null, .null, .null, .null, .long 0, .int 0, .int 0, .int 0, .null, .null, .null, .null, .null, .int 0, .int 0, .int 0, .int 0, .int 0])), (q1, .inl (c1, 262656, .inl (fun _ => 0))), (q2, .inl (c2, 262144, .inl (fun _ => 0))), (q3, .inl (c3, 1048, .inl (fun _ => 0))), (q4, .inl (c4, 5, .inr (.inl (fun _ => 0)))), (q5, .inl (c5, 8192, .inl (fun _ => 0))), (q6, .inl (c6, 32768, .inl (fun _ => 0))), (q7, .inl (c7, 16384, .inl (fun _ => 0))), (q8, .inl (c8, 64, .inl (fun _ => 0))), (q9, .inl (c9, 61440, .inl (fun _ => 0))), (q10, .inl (c10, 4096, .inr (.inl (fun _ => 0)))), (q11, .inl (c11, 4096, .inr (.inl (fun _ => 0)))), (q12, .inl (c12, 1048, .inl (fun _ => 0))), (q13, .inl (c13, 5, .inr (.inl (fun _ => 0)))), (q14, .inl (c14, 8192, .inl (fun _ => 0))), (q15, .inl (c15, 32768, .inl (fun _ => 0))), (q16, .inl (c16, 16384, .inl (fun _ => 0)))] A s H _ := hI
  refine z_putF hC hnm hI (w1 := [(h0, .inr (14, [.int 0, .ref q1, .int 0, .int 0, .ref q2, .int 0, .int 0, .int 0, .int (-1), .int 0, .ref q3, .ref q4, .ref q5, .ref q6, .ref q7, .ref q8, .ref q9, .ref q10, .ref q11, .int 0, .ref q12, .ref q13, .ref q14, .ref q15, .ref q16, .null, .null, .null, .null, .null, .long 0, .int 0, .int 0, .int 0, .null, .null, .null, .null, .null, .int 0, .int 0, .int 0, .int 0, .int 0])), (q1, .inl (c1, 262656, .inl (fun _ => 0))), (q2, .inl (c2, 262144, .inl (fun _ => 0))), (q3, .inl (c3, 1048, .inl (fun _ => 0))), (q4, .inl (c4, 5, .inr (.inl (fun _ => 0)))), (q5, .inl (c5, 8192, .inl (fun _ => 0))), (q6, .inl (c6, 32768, .inl (fun _ => 0))), (q7, .inl (c7, 16384, .inl (fun _ => 0))), (q8, .inl (c8, 64, .inl (fun _ => 0))), (q9, .inl (c9, 61440, .inl (fun _ => 0))), (q10, .inl (c10, 4096, .inr (.inl (fun _ => 0)))), (q11, .inl (c11, 4096, .inr (.inl (fun _ => 0)))), (q12, .inl (c12, 1048, .inl (fun _ => 0))), (q13, .inl (c13, 5, .inr (.inl (fun _ => 0)))), (q14, .inl (c14, 8192, .inl (fun _ => 0))), (q15, .inl (c15, 32768, .inl (fun _ => 0))), (q16, .inl (c16, 16384, .inl (fun _ => 0)))]) (fun w h => List.mem_cons_of_mem _ (inlX12 w h)) tyX12_ok nmX12 0 rfl rfl 24 (by decide) (List.mem_cons_of_mem _ zw9_22) rfl rfl rfl rfl (Nat.le_of_ble_eq_true rfl) rfl dX12_init_140 (fun H locs hI => ?_)
  refine lv_aload_n hx hb dX12_init_143 rfl (lv_at hl 0 rfl) ?_
  refine lv_bipush (v := 64) hx hb dX12_init_144 (by decide) ?_
  refine z_newb hC hI (List.mem_cons_of_mem _ zw9_2) 64 (by decide +kernel) (by decide +kernel) (by decide +kernel) (Nat.le_of_ble_eq_true rfl) (Nat.le_of_ble_eq_true rfl) dX12_init_146 (fun q17 c17 H hI => ?_)
  have hI : zI st D [(c1, .byte), (c2, .byte), (c3, .int), (c4, .long), (c5, .byte), (c6, .byte), (c7, .byte), (c8, .byte), (c9, .int), (c10, .long), (c11, .long), (c12, .int), (c13, .long), (c14, .byte), (c15, .byte), (c16, .byte), (c17, .byte)] [(h0, .inr (14, [.int 0, .ref q1, .int 0, .int 0, .ref q2, .int 0, .int 0, .int 0, .int (-1), .int 0, .ref q3, .ref q4, .ref q5, .ref q6, .ref q7, .ref q8, .ref q9, .ref q10, .ref q11, .int 0, .ref q12, .ref q13, .ref q14, .ref q15, .ref q16, .null, .null, .null, .null, .null, .long 0, .int 0, .int 0, .int 0, .null, .null, .null, .null, .null, .int 0, .int 0, .int 0, .int 0, .int 0])), (q1, .inl (c1, 262656, .inl (fun _ => 0))), (q2, .inl (c2, 262144, .inl (fun _ => 0))), (q3, .inl (c3, 1048, .inl (fun _ => 0))), (q4, .inl (c4, 5, .inr (.inl (fun _ => 0)))), (q5, .inl (c5, 8192, .inl (fun _ => 0))), (q6, .inl (c6, 32768, .inl (fun _ => 0))), (q7, .inl (c7, 16384, .inl (fun _ => 0))), (q8, .inl (c8, 64, .inl (fun _ => 0))), (q9, .inl (c9, 61440, .inl (fun _ => 0))), (q10, .inl (c10, 4096, .inr (.inl (fun _ => 0)))), (q11, .inl (c11, 4096, .inr (.inl (fun _ => 0)))), (q12, .inl (c12, 1048, .inl (fun _ => 0))), (q13, .inl (c13, 5, .inr (.inl (fun _ => 0)))), (q14, .inl (c14, 8192, .inl (fun _ => 0))), (q15, .inl (c15, 32768, .inl (fun _ => 0))), (q16, .inl (c16, 16384, .inl (fun _ => 0))), (q17, .inl (c17, 64, .inl (fun _ => 0)))] A s H _ := hI
  refine z_putF hC hnm hI (w1 := [(h0, .inr (14, [.int 0, .ref q1, .int 0, .int 0, .ref q2, .int 0, .int 0, .int 0, .int (-1), .int 0, .ref q3, .ref q4, .ref q5, .ref q6, .ref q7, .ref q8, .ref q9, .ref q10, .ref q11, .int 0, .ref q12, .ref q13, .ref q14, .ref q15, .ref q16, .ref q17, .null, .null, .null, .null, .long 0, .int 0, .int 0, .int 0, .null, .null, .null, .null, .null, .int 0, .int 0, .int 0, .int 0, .int 0])), (q1, .inl (c1, 262656, .inl (fun _ => 0))), (q2, .inl (c2, 262144, .inl (fun _ => 0))), (q3, .inl (c3, 1048, .inl (fun _ => 0))), (q4, .inl (c4, 5, .inr (.inl (fun _ => 0)))), (q5, .inl (c5, 8192, .inl (fun _ => 0))), (q6, .inl (c6, 32768, .inl (fun _ => 0))), (q7, .inl (c7, 16384, .inl (fun _ => 0))), (q8, .inl (c8, 64, .inl (fun _ => 0))), (q9, .inl (c9, 61440, .inl (fun _ => 0))), (q10, .inl (c10, 4096, .inr (.inl (fun _ => 0)))), (q11, .inl (c11, 4096, .inr (.inl (fun _ => 0)))), (q12, .inl (c12, 1048, .inl (fun _ => 0))), (q13, .inl (c13, 5, .inr (.inl (fun _ => 0)))), (q14, .inl (c14, 8192, .inl (fun _ => 0))), (q15, .inl (c15, 32768, .inl (fun _ => 0))), (q16, .inl (c16, 16384, .inl (fun _ => 0))), (q17, .inl (c17, 64, .inl (fun _ => 0)))]) (fun w h => List.mem_cons_of_mem _ (inlX12 w h)) tyX12_ok nmX12 0 rfl rfl 25 (by decide) (List.mem_cons_of_mem _ zw9_23) rfl rfl rfl rfl (Nat.le_of_ble_eq_true rfl) rfl dX12_init_148 (fun H locs hI => ?_)
  refine lv_aload_n hx hb dX12_init_151 rfl (lv_at hl 0 rfl) ?_
  refine lv_ldc (v := 61440) hx hb hC.2.2.2.1 (hC.2.2.2.2.1 _ (List.mem_cons_of_mem _ zw9_14)) dX12_init_152 ?_
  refine z_newi hC hI (List.mem_cons_of_mem _ zw3_15) 61440 (by decide +kernel) (by decide +kernel) (by decide +kernel) (Nat.le_of_ble_eq_true rfl) (Nat.le_of_ble_eq_true rfl) dX12_init_154 (fun q18 c18 H hI => ?_)
  have hI : zI st D [(c1, .byte), (c2, .byte), (c3, .int), (c4, .long), (c5, .byte), (c6, .byte), (c7, .byte), (c8, .byte), (c9, .int), (c10, .long), (c11, .long), (c12, .int), (c13, .long), (c14, .byte), (c15, .byte), (c16, .byte), (c17, .byte), (c18, .int)] [(h0, .inr (14, [.int 0, .ref q1, .int 0, .int 0, .ref q2, .int 0, .int 0, .int 0, .int (-1), .int 0, .ref q3, .ref q4, .ref q5, .ref q6, .ref q7, .ref q8, .ref q9, .ref q10, .ref q11, .int 0, .ref q12, .ref q13, .ref q14, .ref q15, .ref q16, .ref q17, .null, .null, .null, .null, .long 0, .int 0, .int 0, .int 0, .null, .null, .null, .null, .null, .int 0, .int 0, .int 0, .int 0, .int 0])), (q1, .inl (c1, 262656, .inl (fun _ => 0))), (q2, .inl (c2, 262144, .inl (fun _ => 0))), (q3, .inl (c3, 1048, .inl (fun _ => 0))), (q4, .inl (c4, 5, .inr (.inl (fun _ => 0)))), (q5, .inl (c5, 8192, .inl (fun _ => 0))), (q6, .inl (c6, 32768, .inl (fun _ => 0))), (q7, .inl (c7, 16384, .inl (fun _ => 0))), (q8, .inl (c8, 64, .inl (fun _ => 0))), (q9, .inl (c9, 61440, .inl (fun _ => 0))), (q10, .inl (c10, 4096, .inr (.inl (fun _ => 0)))), (q11, .inl (c11, 4096, .inr (.inl (fun _ => 0)))), (q12, .inl (c12, 1048, .inl (fun _ => 0))), (q13, .inl (c13, 5, .inr (.inl (fun _ => 0)))), (q14, .inl (c14, 8192, .inl (fun _ => 0))), (q15, .inl (c15, 32768, .inl (fun _ => 0))), (q16, .inl (c16, 16384, .inl (fun _ => 0))), (q17, .inl (c17, 64, .inl (fun _ => 0))), (q18, .inl (c18, 61440, .inl (fun _ => 0)))] A s H _ := hI
  refine z_putF hC hnm hI (w1 := [(h0, .inr (14, [.int 0, .ref q1, .int 0, .int 0, .ref q2, .int 0, .int 0, .int 0, .int (-1), .int 0, .ref q3, .ref q4, .ref q5, .ref q6, .ref q7, .ref q8, .ref q9, .ref q10, .ref q11, .int 0, .ref q12, .ref q13, .ref q14, .ref q15, .ref q16, .ref q17, .ref q18, .null, .null, .null, .long 0, .int 0, .int 0, .int 0, .null, .null, .null, .null, .null, .int 0, .int 0, .int 0, .int 0, .int 0])), (q1, .inl (c1, 262656, .inl (fun _ => 0))), (q2, .inl (c2, 262144, .inl (fun _ => 0))), (q3, .inl (c3, 1048, .inl (fun _ => 0))), (q4, .inl (c4, 5, .inr (.inl (fun _ => 0)))), (q5, .inl (c5, 8192, .inl (fun _ => 0))), (q6, .inl (c6, 32768, .inl (fun _ => 0))), (q7, .inl (c7, 16384, .inl (fun _ => 0))), (q8, .inl (c8, 64, .inl (fun _ => 0))), (q9, .inl (c9, 61440, .inl (fun _ => 0))), (q10, .inl (c10, 4096, .inr (.inl (fun _ => 0)))), (q11, .inl (c11, 4096, .inr (.inl (fun _ => 0)))), (q12, .inl (c12, 1048, .inl (fun _ => 0))), (q13, .inl (c13, 5, .inr (.inl (fun _ => 0)))), (q14, .inl (c14, 8192, .inl (fun _ => 0))), (q15, .inl (c15, 32768, .inl (fun _ => 0))), (q16, .inl (c16, 16384, .inl (fun _ => 0))), (q17, .inl (c17, 64, .inl (fun _ => 0))), (q18, .inl (c18, 61440, .inl (fun _ => 0)))]) (fun w h => List.mem_cons_of_mem _ (inlX12 w h)) tyX12_ok nmX12 0 rfl rfl 26 (by decide) (List.mem_cons_of_mem _ zw10_0) rfl rfl rfl rfl (Nat.le_of_ble_eq_true rfl) rfl dX12_init_156 (fun H locs hI => ?_)
  refine lv_aload_n hx hb dX12_init_159 rfl (lv_at hl 0 rfl) ?_
  refine lv_sipush (v := 4096) hx hb dX12_init_160 (by decide) ?_
  refine z_newl hC hI (List.mem_cons_of_mem _ zw1_6) 4096 (by decide +kernel) (by decide +kernel) (by decide +kernel) (Nat.le_of_ble_eq_true rfl) (Nat.le_of_ble_eq_true rfl) dX12_init_163 (fun q19 c19 H hI => ?_)
  have hI : zI st D [(c1, .byte), (c2, .byte), (c3, .int), (c4, .long), (c5, .byte), (c6, .byte), (c7, .byte), (c8, .byte), (c9, .int), (c10, .long), (c11, .long), (c12, .int), (c13, .long), (c14, .byte), (c15, .byte), (c16, .byte), (c17, .byte), (c18, .int), (c19, .long)] [(h0, .inr (14, [.int 0, .ref q1, .int 0, .int 0, .ref q2, .int 0, .int 0, .int 0, .int (-1), .int 0, .ref q3, .ref q4, .ref q5, .ref q6, .ref q7, .ref q8, .ref q9, .ref q10, .ref q11, .int 0, .ref q12, .ref q13, .ref q14, .ref q15, .ref q16, .ref q17, .ref q18, .null, .null, .null, .long 0, .int 0, .int 0, .int 0, .null, .null, .null, .null, .null, .int 0, .int 0, .int 0, .int 0, .int 0])), (q1, .inl (c1, 262656, .inl (fun _ => 0))), (q2, .inl (c2, 262144, .inl (fun _ => 0))), (q3, .inl (c3, 1048, .inl (fun _ => 0))), (q4, .inl (c4, 5, .inr (.inl (fun _ => 0)))), (q5, .inl (c5, 8192, .inl (fun _ => 0))), (q6, .inl (c6, 32768, .inl (fun _ => 0))), (q7, .inl (c7, 16384, .inl (fun _ => 0))), (q8, .inl (c8, 64, .inl (fun _ => 0))), (q9, .inl (c9, 61440, .inl (fun _ => 0))), (q10, .inl (c10, 4096, .inr (.inl (fun _ => 0)))), (q11, .inl (c11, 4096, .inr (.inl (fun _ => 0)))), (q12, .inl (c12, 1048, .inl (fun _ => 0))), (q13, .inl (c13, 5, .inr (.inl (fun _ => 0)))), (q14, .inl (c14, 8192, .inl (fun _ => 0))), (q15, .inl (c15, 32768, .inl (fun _ => 0))), (q16, .inl (c16, 16384, .inl (fun _ => 0))), (q17, .inl (c17, 64, .inl (fun _ => 0))), (q18, .inl (c18, 61440, .inl (fun _ => 0))), (q19, .inl (c19, 4096, .inr (.inl (fun _ => 0))))] A s H _ := hI
  refine z_putF hC hnm hI (w1 := [(h0, .inr (14, [.int 0, .ref q1, .int 0, .int 0, .ref q2, .int 0, .int 0, .int 0, .int (-1), .int 0, .ref q3, .ref q4, .ref q5, .ref q6, .ref q7, .ref q8, .ref q9, .ref q10, .ref q11, .int 0, .ref q12, .ref q13, .ref q14, .ref q15, .ref q16, .ref q17, .ref q18, .ref q19, .null, .null, .long 0, .int 0, .int 0, .int 0, .null, .null, .null, .null, .null, .int 0, .int 0, .int 0, .int 0, .int 0])), (q1, .inl (c1, 262656, .inl (fun _ => 0))), (q2, .inl (c2, 262144, .inl (fun _ => 0))), (q3, .inl (c3, 1048, .inl (fun _ => 0))), (q4, .inl (c4, 5, .inr (.inl (fun _ => 0)))), (q5, .inl (c5, 8192, .inl (fun _ => 0))), (q6, .inl (c6, 32768, .inl (fun _ => 0))), (q7, .inl (c7, 16384, .inl (fun _ => 0))), (q8, .inl (c8, 64, .inl (fun _ => 0))), (q9, .inl (c9, 61440, .inl (fun _ => 0))), (q10, .inl (c10, 4096, .inr (.inl (fun _ => 0)))), (q11, .inl (c11, 4096, .inr (.inl (fun _ => 0)))), (q12, .inl (c12, 1048, .inl (fun _ => 0))), (q13, .inl (c13, 5, .inr (.inl (fun _ => 0)))), (q14, .inl (c14, 8192, .inl (fun _ => 0))), (q15, .inl (c15, 32768, .inl (fun _ => 0))), (q16, .inl (c16, 16384, .inl (fun _ => 0))), (q17, .inl (c17, 64, .inl (fun _ => 0))), (q18, .inl (c18, 61440, .inl (fun _ => 0))), (q19, .inl (c19, 4096, .inr (.inl (fun _ => 0))))]) (fun w h => List.mem_cons_of_mem _ (inlX12 w h)) tyX12_ok nmX12 0 rfl rfl 27 (by decide) (List.mem_cons_of_mem _ zw10_1) rfl rfl rfl rfl (Nat.le_of_ble_eq_true rfl) rfl dX12_init_165 (fun H locs hI => ?_)
  refine lv_aload_n hx hb dX12_init_168 rfl (lv_at hl 0 rfl) ?_
  refine lv_sipush (v := 4096) hx hb dX12_init_169 (by decide) ?_
  refine z_newl hC hI (List.mem_cons_of_mem _ zw1_6) 4096 (by decide +kernel) (by decide +kernel) (by decide +kernel) (Nat.le_of_ble_eq_true rfl) (Nat.le_of_ble_eq_true rfl) dX12_init_172 (fun q20 c20 H hI => ?_)
  have hI : zI st D [(c1, .byte), (c2, .byte), (c3, .int), (c4, .long), (c5, .byte), (c6, .byte), (c7, .byte), (c8, .byte), (c9, .int), (c10, .long), (c11, .long), (c12, .int), (c13, .long), (c14, .byte), (c15, .byte), (c16, .byte), (c17, .byte), (c18, .int), (c19, .long), (c20, .long)] [(h0, .inr (14, [.int 0, .ref q1, .int 0, .int 0, .ref q2, .int 0, .int 0, .int 0, .int (-1), .int 0, .ref q3, .ref q4, .ref q5, .ref q6, .ref q7, .ref q8, .ref q9, .ref q10, .ref q11, .int 0, .ref q12, .ref q13, .ref q14, .ref q15, .ref q16, .ref q17, .ref q18, .ref q19, .null, .null, .long 0, .int 0, .int 0, .int 0, .null, .null, .null, .null, .null, .int 0, .int 0, .int 0, .int 0, .int 0])), (q1, .inl (c1, 262656, .inl (fun _ => 0))), (q2, .inl (c2, 262144, .inl (fun _ => 0))), (q3, .inl (c3, 1048, .inl (fun _ => 0))), (q4, .inl (c4, 5, .inr (.inl (fun _ => 0)))), (q5, .inl (c5, 8192, .inl (fun _ => 0))), (q6, .inl (c6, 32768, .inl (fun _ => 0))), (q7, .inl (c7, 16384, .inl (fun _ => 0))), (q8, .inl (c8, 64, .inl (fun _ => 0))), (q9, .inl (c9, 61440, .inl (fun _ => 0))), (q10, .inl (c10, 4096, .inr (.inl (fun _ => 0)))), (q11, .inl (c11, 4096, .inr (.inl (fun _ => 0)))), (q12, .inl (c12, 1048, .inl (fun _ => 0))), (q13, .inl (c13, 5, .inr (.inl (fun _ => 0)))), (q14, .inl (c14, 8192, .inl (fun _ => 0))), (q15, .inl (c15, 32768, .inl (fun _ => 0))), (q16, .inl (c16, 16384, .inl (fun _ => 0))), (q17, .inl (c17, 64, .inl (fun _ => 0))), (q18, .inl (c18, 61440, .inl (fun _ => 0))), (q19, .inl (c19, 4096, .inr (.inl (fun _ => 0)))), (q20, .inl (c20, 4096, .inr (.inl (fun _ => 0))))] A s H _ := hI
  refine z_putF hC hnm hI (w1 := [(h0, .inr (14, [.int 0, .ref q1, .int 0, .int 0, .ref q2, .int 0, .int 0, .int 0, .int (-1), .int 0, .ref q3, .ref q4, .ref q5, .ref q6, .ref q7, .ref q8, .ref q9, .ref q10, .ref q11, .int 0, .ref q12, .ref q13, .ref q14, .ref q15, .ref q16, .ref q17, .ref q18, .ref q19, .ref q20, .null, .long 0, .int 0, .int 0, .int 0, .null, .null, .null, .null, .null, .int 0, .int 0, .int 0, .int 0, .int 0])), (q1, .inl (c1, 262656, .inl (fun _ => 0))), (q2, .inl (c2, 262144, .inl (fun _ => 0))), (q3, .inl (c3, 1048, .inl (fun _ => 0))), (q4, .inl (c4, 5, .inr (.inl (fun _ => 0)))), (q5, .inl (c5, 8192, .inl (fun _ => 0))), (q6, .inl (c6, 32768, .inl (fun _ => 0))), (q7, .inl (c7, 16384, .inl (fun _ => 0))), (q8, .inl (c8, 64, .inl (fun _ => 0))), (q9, .inl (c9, 61440, .inl (fun _ => 0))), (q10, .inl (c10, 4096, .inr (.inl (fun _ => 0)))), (q11, .inl (c11, 4096, .inr (.inl (fun _ => 0)))), (q12, .inl (c12, 1048, .inl (fun _ => 0))), (q13, .inl (c13, 5, .inr (.inl (fun _ => 0)))), (q14, .inl (c14, 8192, .inl (fun _ => 0))), (q15, .inl (c15, 32768, .inl (fun _ => 0))), (q16, .inl (c16, 16384, .inl (fun _ => 0))), (q17, .inl (c17, 64, .inl (fun _ => 0))), (q18, .inl (c18, 61440, .inl (fun _ => 0))), (q19, .inl (c19, 4096, .inr (.inl (fun _ => 0)))), (q20, .inl (c20, 4096, .inr (.inl (fun _ => 0))))]) (fun w h => List.mem_cons_of_mem _ (inlX12 w h)) tyX12_ok nmX12 0 rfl rfl 28 (by decide) (List.mem_cons_of_mem _ zw10_2) rfl rfl rfl rfl (Nat.le_of_ble_eq_true rfl) rfl dX12_init_174 (fun H locs hI => ?_)
  refine lv_aload_n hx hb dX12_init_177 rfl (lv_at hl 0 rfl) ?_
  refine lv_bipush (v := 32) hx hb dX12_init_178 (by decide) ?_
  refine z_newi hC hI (List.mem_cons_of_mem _ zw3_15) 32 (by decide +kernel) (by decide +kernel) (by decide +kernel) (Nat.le_of_ble_eq_true rfl) (Nat.le_of_ble_eq_true rfl) dX12_init_180 (fun q21 c21 H hI => ?_)
  have hI : zI st D [(c1, .byte), (c2, .byte), (c3, .int), (c4, .long), (c5, .byte), (c6, .byte), (c7, .byte), (c8, .byte), (c9, .int), (c10, .long), (c11, .long), (c12, .int), (c13, .long), (c14, .byte), (c15, .byte), (c16, .byte), (c17, .byte), (c18, .int), (c19, .long), (c20, .long), (c21, .int)] [(h0, .inr (14, [.int 0, .ref q1, .int 0, .int 0, .ref q2, .int 0, .int 0, .int 0, .int (-1), .int 0, .ref q3, .ref q4, .ref q5, .ref q6, .ref q7, .ref q8, .ref q9, .ref q10, .ref q11, .int 0, .ref q12, .ref q13, .ref q14, .ref q15, .ref q16, .ref q17, .ref q18, .ref q19, .ref q20, .null, .long 0, .int 0, .int 0, .int 0, .null, .null, .null, .null, .null, .int 0, .int 0, .int 0, .int 0, .int 0])), (q1, .inl (c1, 262656, .inl (fun _ => 0))), (q2, .inl (c2, 262144, .inl (fun _ => 0))), (q3, .inl (c3, 1048, .inl (fun _ => 0))), (q4, .inl (c4, 5, .inr (.inl (fun _ => 0)))), (q5, .inl (c5, 8192, .inl (fun _ => 0))), (q6, .inl (c6, 32768, .inl (fun _ => 0))), (q7, .inl (c7, 16384, .inl (fun _ => 0))), (q8, .inl (c8, 64, .inl (fun _ => 0))), (q9, .inl (c9, 61440, .inl (fun _ => 0))), (q10, .inl (c10, 4096, .inr (.inl (fun _ => 0)))), (q11, .inl (c11, 4096, .inr (.inl (fun _ => 0)))), (q12, .inl (c12, 1048, .inl (fun _ => 0))), (q13, .inl (c13, 5, .inr (.inl (fun _ => 0)))), (q14, .inl (c14, 8192, .inl (fun _ => 0))), (q15, .inl (c15, 32768, .inl (fun _ => 0))), (q16, .inl (c16, 16384, .inl (fun _ => 0))), (q17, .inl (c17, 64, .inl (fun _ => 0))), (q18, .inl (c18, 61440, .inl (fun _ => 0))), (q19, .inl (c19, 4096, .inr (.inl (fun _ => 0)))), (q20, .inl (c20, 4096, .inr (.inl (fun _ => 0)))), (q21, .inl (c21, 32, .inl (fun _ => 0)))] A s H _ := hI
  refine z_putF hC hnm hI (w1 := [(h0, .inr (14, [.int 0, .ref q1, .int 0, .int 0, .ref q2, .int 0, .int 0, .int 0, .int (-1), .int 0, .ref q3, .ref q4, .ref q5, .ref q6, .ref q7, .ref q8, .ref q9, .ref q10, .ref q11, .int 0, .ref q12, .ref q13, .ref q14, .ref q15, .ref q16, .ref q17, .ref q18, .ref q19, .ref q20, .ref q21, .long 0, .int 0, .int 0, .int 0, .null, .null, .null, .null, .null, .int 0, .int 0, .int 0, .int 0, .int 0])), (q1, .inl (c1, 262656, .inl (fun _ => 0))), (q2, .inl (c2, 262144, .inl (fun _ => 0))), (q3, .inl (c3, 1048, .inl (fun _ => 0))), (q4, .inl (c4, 5, .inr (.inl (fun _ => 0)))), (q5, .inl (c5, 8192, .inl (fun _ => 0))), (q6, .inl (c6, 32768, .inl (fun _ => 0))), (q7, .inl (c7, 16384, .inl (fun _ => 0))), (q8, .inl (c8, 64, .inl (fun _ => 0))), (q9, .inl (c9, 61440, .inl (fun _ => 0))), (q10, .inl (c10, 4096, .inr (.inl (fun _ => 0)))), (q11, .inl (c11, 4096, .inr (.inl (fun _ => 0)))), (q12, .inl (c12, 1048, .inl (fun _ => 0))), (q13, .inl (c13, 5, .inr (.inl (fun _ => 0)))), (q14, .inl (c14, 8192, .inl (fun _ => 0))), (q15, .inl (c15, 32768, .inl (fun _ => 0))), (q16, .inl (c16, 16384, .inl (fun _ => 0))), (q17, .inl (c17, 64, .inl (fun _ => 0))), (q18, .inl (c18, 61440, .inl (fun _ => 0))), (q19, .inl (c19, 4096, .inr (.inl (fun _ => 0)))), (q20, .inl (c20, 4096, .inr (.inl (fun _ => 0)))), (q21, .inl (c21, 32, .inl (fun _ => 0)))]) (fun w h => List.mem_cons_of_mem _ (inlX12 w h)) tyX12_ok nmX12 0 rfl rfl 29 (by decide) (List.mem_cons_of_mem _ zw10_3) rfl rfl rfl rfl (Nat.le_of_ble_eq_true rfl) rfl dX12_init_182 (fun H locs hI => ?_)
  refine lv_aload_n hx hb dX12_init_185 rfl (lv_at hl 0 rfl) ?_
  refine lv_sipush (v := 256) hx hb dX12_init_186 (by decide) ?_
  refine z_newi hC hI (List.mem_cons_of_mem _ zw3_15) 256 (by decide +kernel) (by decide +kernel) (by decide +kernel) (Nat.le_of_ble_eq_true rfl) (Nat.le_of_ble_eq_true rfl) dX12_init_189 (fun q22 c22 H hI => ?_)
  have hI : zI st D [(c1, .byte), (c2, .byte), (c3, .int), (c4, .long), (c5, .byte), (c6, .byte), (c7, .byte), (c8, .byte), (c9, .int), (c10, .long), (c11, .long), (c12, .int), (c13, .long), (c14, .byte), (c15, .byte), (c16, .byte), (c17, .byte), (c18, .int), (c19, .long), (c20, .long), (c21, .int), (c22, .int)] [(h0, .inr (14, [.int 0, .ref q1, .int 0, .int 0, .ref q2, .int 0, .int 0, .int 0, .int (-1), .int 0, .ref q3, .ref q4, .ref q5, .ref q6, .ref q7, .ref q8, .ref q9, .ref q10, .ref q11, .int 0, .ref q12, .ref q13, .ref q14, .ref q15, .ref q16, .ref q17, .ref q18, .ref q19, .ref q20, .ref q21, .long 0, .int 0, .int 0, .int 0, .null, .null, .null, .null, .null, .int 0, .int 0, .int 0, .int 0, .int 0])), (q1, .inl (c1, 262656, .inl (fun _ => 0))), (q2, .inl (c2, 262144, .inl (fun _ => 0))), (q3, .inl (c3, 1048, .inl (fun _ => 0))), (q4, .inl (c4, 5, .inr (.inl (fun _ => 0)))), (q5, .inl (c5, 8192, .inl (fun _ => 0))), (q6, .inl (c6, 32768, .inl (fun _ => 0))), (q7, .inl (c7, 16384, .inl (fun _ => 0))), (q8, .inl (c8, 64, .inl (fun _ => 0))), (q9, .inl (c9, 61440, .inl (fun _ => 0))), (q10, .inl (c10, 4096, .inr (.inl (fun _ => 0)))), (q11, .inl (c11, 4096, .inr (.inl (fun _ => 0)))), (q12, .inl (c12, 1048, .inl (fun _ => 0))), (q13, .inl (c13, 5, .inr (.inl (fun _ => 0)))), (q14, .inl (c14, 8192, .inl (fun _ => 0))), (q15, .inl (c15, 32768, .inl (fun _ => 0))), (q16, .inl (c16, 16384, .inl (fun _ => 0))), (q17, .inl (c17, 64, .inl (fun _ => 0))), (q18, .inl (c18, 61440, .inl (fun _ => 0))), (q19, .inl (c19, 4096, .inr (.inl (fun _ => 0)))), (q20, .inl (c20, 4096, .inr (.inl (fun _ => 0)))), (q21, .inl (c21, 32, .inl (fun _ => 0))), (q22, .inl (c22, 256, .inl (fun _ => 0)))] A s H _ := hI
  refine z_putF hC hnm hI (w1 := [(h0, .inr (14, [.int 0, .ref q1, .int 0, .int 0, .ref q2, .int 0, .int 0, .int 0, .int (-1), .int 0, .ref q3, .ref q4, .ref q5, .ref q6, .ref q7, .ref q8, .ref q9, .ref q10, .ref q11, .int 0, .ref q12, .ref q13, .ref q14, .ref q15, .ref q16, .ref q17, .ref q18, .ref q19, .ref q20, .ref q21, .long 0, .int 0, .int 0, .int 0, .ref q22, .null, .null, .null, .null, .int 0, .int 0, .int 0, .int 0, .int 0])), (q1, .inl (c1, 262656, .inl (fun _ => 0))), (q2, .inl (c2, 262144, .inl (fun _ => 0))), (q3, .inl (c3, 1048, .inl (fun _ => 0))), (q4, .inl (c4, 5, .inr (.inl (fun _ => 0)))), (q5, .inl (c5, 8192, .inl (fun _ => 0))), (q6, .inl (c6, 32768, .inl (fun _ => 0))), (q7, .inl (c7, 16384, .inl (fun _ => 0))), (q8, .inl (c8, 64, .inl (fun _ => 0))), (q9, .inl (c9, 61440, .inl (fun _ => 0))), (q10, .inl (c10, 4096, .inr (.inl (fun _ => 0)))), (q11, .inl (c11, 4096, .inr (.inl (fun _ => 0)))), (q12, .inl (c12, 1048, .inl (fun _ => 0))), (q13, .inl (c13, 5, .inr (.inl (fun _ => 0)))), (q14, .inl (c14, 8192, .inl (fun _ => 0))), (q15, .inl (c15, 32768, .inl (fun _ => 0))), (q16, .inl (c16, 16384, .inl (fun _ => 0))), (q17, .inl (c17, 64, .inl (fun _ => 0))), (q18, .inl (c18, 61440, .inl (fun _ => 0))), (q19, .inl (c19, 4096, .inr (.inl (fun _ => 0)))), (q20, .inl (c20, 4096, .inr (.inl (fun _ => 0)))), (q21, .inl (c21, 32, .inl (fun _ => 0))), (q22, .inl (c22, 256, .inl (fun _ => 0)))]) (fun w h => List.mem_cons_of_mem _ (inlX12 w h)) tyX12_ok nmX12 0 rfl rfl 34 (by decide) (List.mem_cons_of_mem _ zw10_4) rfl rfl rfl rfl (Nat.le_of_ble_eq_true rfl) rfl dX12_init_191 (fun H locs hI => ?_)
  refine lv_aload_n hx hb dX12_init_194 rfl (lv_at hl 0 rfl) ?_
  refine lv_sipush (v := 256) hx hb dX12_init_195 (by decide) ?_
  refine z_newz hC hI (List.mem_cons_of_mem _ zw10_5) 256 (by decide +kernel) (by decide +kernel) (by decide +kernel) (Nat.le_of_ble_eq_true rfl) (Nat.le_of_ble_eq_true rfl) dX12_init_198 (fun q23 c23 H hI => ?_)
  have hI : zI st D [(c1, .byte), (c2, .byte), (c3, .int), (c4, .long), (c5, .byte), (c6, .byte), (c7, .byte), (c8, .byte), (c9, .int), (c10, .long), (c11, .long), (c12, .int), (c13, .long), (c14, .byte), (c15, .byte), (c16, .byte), (c17, .byte), (c18, .int), (c19, .long), (c20, .long), (c21, .int), (c22, .int), (c23, .boolean)] [(h0, .inr (14, [.int 0, .ref q1, .int 0, .int 0, .ref q2, .int 0, .int 0, .int 0, .int (-1), .int 0, .ref q3, .ref q4, .ref q5, .ref q6, .ref q7, .ref q8, .ref q9, .ref q10, .ref q11, .int 0, .ref q12, .ref q13, .ref q14, .ref q15, .ref q16, .ref q17, .ref q18, .ref q19, .ref q20, .ref q21, .long 0, .int 0, .int 0, .int 0, .ref q22, .null, .null, .null, .null, .int 0, .int 0, .int 0, .int 0, .int 0])), (q1, .inl (c1, 262656, .inl (fun _ => 0))), (q2, .inl (c2, 262144, .inl (fun _ => 0))), (q3, .inl (c3, 1048, .inl (fun _ => 0))), (q4, .inl (c4, 5, .inr (.inl (fun _ => 0)))), (q5, .inl (c5, 8192, .inl (fun _ => 0))), (q6, .inl (c6, 32768, .inl (fun _ => 0))), (q7, .inl (c7, 16384, .inl (fun _ => 0))), (q8, .inl (c8, 64, .inl (fun _ => 0))), (q9, .inl (c9, 61440, .inl (fun _ => 0))), (q10, .inl (c10, 4096, .inr (.inl (fun _ => 0)))), (q11, .inl (c11, 4096, .inr (.inl (fun _ => 0)))), (q12, .inl (c12, 1048, .inl (fun _ => 0))), (q13, .inl (c13, 5, .inr (.inl (fun _ => 0)))), (q14, .inl (c14, 8192, .inl (fun _ => 0))), (q15, .inl (c15, 32768, .inl (fun _ => 0))), (q16, .inl (c16, 16384, .inl (fun _ => 0))), (q17, .inl (c17, 64, .inl (fun _ => 0))), (q18, .inl (c18, 61440, .inl (fun _ => 0))), (q19, .inl (c19, 4096, .inr (.inl (fun _ => 0)))), (q20, .inl (c20, 4096, .inr (.inl (fun _ => 0)))), (q21, .inl (c21, 32, .inl (fun _ => 0))), (q22, .inl (c22, 256, .inl (fun _ => 0))), (q23, .inl (c23, 256, .inl (fun _ => 0)))] A s H _ := hI
  refine z_putF hC hnm hI (w1 := [(h0, .inr (14, [.int 0, .ref q1, .int 0, .int 0, .ref q2, .int 0, .int 0, .int 0, .int (-1), .int 0, .ref q3, .ref q4, .ref q5, .ref q6, .ref q7, .ref q8, .ref q9, .ref q10, .ref q11, .int 0, .ref q12, .ref q13, .ref q14, .ref q15, .ref q16, .ref q17, .ref q18, .ref q19, .ref q20, .ref q21, .long 0, .int 0, .int 0, .int 0, .ref q22, .ref q23, .null, .null, .null, .int 0, .int 0, .int 0, .int 0, .int 0])), (q1, .inl (c1, 262656, .inl (fun _ => 0))), (q2, .inl (c2, 262144, .inl (fun _ => 0))), (q3, .inl (c3, 1048, .inl (fun _ => 0))), (q4, .inl (c4, 5, .inr (.inl (fun _ => 0)))), (q5, .inl (c5, 8192, .inl (fun _ => 0))), (q6, .inl (c6, 32768, .inl (fun _ => 0))), (q7, .inl (c7, 16384, .inl (fun _ => 0))), (q8, .inl (c8, 64, .inl (fun _ => 0))), (q9, .inl (c9, 61440, .inl (fun _ => 0))), (q10, .inl (c10, 4096, .inr (.inl (fun _ => 0)))), (q11, .inl (c11, 4096, .inr (.inl (fun _ => 0)))), (q12, .inl (c12, 1048, .inl (fun _ => 0))), (q13, .inl (c13, 5, .inr (.inl (fun _ => 0)))), (q14, .inl (c14, 8192, .inl (fun _ => 0))), (q15, .inl (c15, 32768, .inl (fun _ => 0))), (q16, .inl (c16, 16384, .inl (fun _ => 0))), (q17, .inl (c17, 64, .inl (fun _ => 0))), (q18, .inl (c18, 61440, .inl (fun _ => 0))), (q19, .inl (c19, 4096, .inr (.inl (fun _ => 0)))), (q20, .inl (c20, 4096, .inr (.inl (fun _ => 0)))), (q21, .inl (c21, 32, .inl (fun _ => 0))), (q22, .inl (c22, 256, .inl (fun _ => 0))), (q23, .inl (c23, 256, .inl (fun _ => 0)))]) (fun w h => List.mem_cons_of_mem _ (inlX12 w h)) tyX12_ok nmX12 0 rfl rfl 35 (by decide) (List.mem_cons_of_mem _ zw10_6) rfl rfl rfl rfl (Nat.le_of_ble_eq_true rfl) rfl dX12_init_200 (fun H locs hI => ?_)
  refine lv_aload_n hx hb dX12_init_203 rfl (lv_at hl 0 rfl) ?_
  refine lv_sipush (v := 256) hx hb dX12_init_204 (by decide) ?_
  refine z_newi hC hI (List.mem_cons_of_mem _ zw3_15) 256 (by decide +kernel) (by decide +kernel) (by decide +kernel) (Nat.le_of_ble_eq_true rfl) (Nat.le_of_ble_eq_true rfl) dX12_init_207 (fun q24 c24 H hI => ?_)
  have hI : zI st D [(c1, .byte), (c2, .byte), (c3, .int), (c4, .long), (c5, .byte), (c6, .byte), (c7, .byte), (c8, .byte), (c9, .int), (c10, .long), (c11, .long), (c12, .int), (c13, .long), (c14, .byte), (c15, .byte), (c16, .byte), (c17, .byte), (c18, .int), (c19, .long), (c20, .long), (c21, .int), (c22, .int), (c23, .boolean), (c24, .int)] [(h0, .inr (14, [.int 0, .ref q1, .int 0, .int 0, .ref q2, .int 0, .int 0, .int 0, .int (-1), .int 0, .ref q3, .ref q4, .ref q5, .ref q6, .ref q7, .ref q8, .ref q9, .ref q10, .ref q11, .int 0, .ref q12, .ref q13, .ref q14, .ref q15, .ref q16, .ref q17, .ref q18, .ref q19, .ref q20, .ref q21, .long 0, .int 0, .int 0, .int 0, .ref q22, .ref q23, .null, .null, .null, .int 0, .int 0, .int 0, .int 0, .int 0])), (q1, .inl (c1, 262656, .inl (fun _ => 0))), (q2, .inl (c2, 262144, .inl (fun _ => 0))), (q3, .inl (c3, 1048, .inl (fun _ => 0))), (q4, .inl (c4, 5, .inr (.inl (fun _ => 0)))), (q5, .inl (c5, 8192, .inl (fun _ => 0))), (q6, .inl (c6, 32768, .inl (fun _ => 0))), (q7, .inl (c7, 16384, .inl (fun _ => 0))), (q8, .inl (c8, 64, .inl (fun _ => 0))), (q9, .inl (c9, 61440, .inl (fun _ => 0))), (q10, .inl (c10, 4096, .inr (.inl (fun _ => 0)))), (q11, .inl (c11, 4096, .inr (.inl (fun _ => 0)))), (q12, .inl (c12, 1048, .inl (fun _ => 0))), (q13, .inl (c13, 5, .inr (.inl (fun _ => 0)))), (q14, .inl (c14, 8192, .inl (fun _ => 0))), (q15, .inl (c15, 32768, .inl (fun _ => 0))), (q16, .inl (c16, 16384, .inl (fun _ => 0))), (q17, .inl (c17, 64, .inl (fun _ => 0))), (q18, .inl (c18, 61440, .inl (fun _ => 0))), (q19, .inl (c19, 4096, .inr (.inl (fun _ => 0)))), (q20, .inl (c20, 4096, .inr (.inl (fun _ => 0)))), (q21, .inl (c21, 32, .inl (fun _ => 0))), (q22, .inl (c22, 256, .inl (fun _ => 0))), (q23, .inl (c23, 256, .inl (fun _ => 0))), (q24, .inl (c24, 256, .inl (fun _ => 0)))] A s H _ := hI
  refine z_putF hC hnm hI (w1 := [(h0, .inr (14, [.int 0, .ref q1, .int 0, .int 0, .ref q2, .int 0, .int 0, .int 0, .int (-1), .int 0, .ref q3, .ref q4, .ref q5, .ref q6, .ref q7, .ref q8, .ref q9, .ref q10, .ref q11, .int 0, .ref q12, .ref q13, .ref q14, .ref q15, .ref q16, .ref q17, .ref q18, .ref q19, .ref q20, .ref q21, .long 0, .int 0, .int 0, .int 0, .ref q22, .ref q23, .ref q24, .null, .null, .int 0, .int 0, .int 0, .int 0, .int 0])), (q1, .inl (c1, 262656, .inl (fun _ => 0))), (q2, .inl (c2, 262144, .inl (fun _ => 0))), (q3, .inl (c3, 1048, .inl (fun _ => 0))), (q4, .inl (c4, 5, .inr (.inl (fun _ => 0)))), (q5, .inl (c5, 8192, .inl (fun _ => 0))), (q6, .inl (c6, 32768, .inl (fun _ => 0))), (q7, .inl (c7, 16384, .inl (fun _ => 0))), (q8, .inl (c8, 64, .inl (fun _ => 0))), (q9, .inl (c9, 61440, .inl (fun _ => 0))), (q10, .inl (c10, 4096, .inr (.inl (fun _ => 0)))), (q11, .inl (c11, 4096, .inr (.inl (fun _ => 0)))), (q12, .inl (c12, 1048, .inl (fun _ => 0))), (q13, .inl (c13, 5, .inr (.inl (fun _ => 0)))), (q14, .inl (c14, 8192, .inl (fun _ => 0))), (q15, .inl (c15, 32768, .inl (fun _ => 0))), (q16, .inl (c16, 16384, .inl (fun _ => 0))), (q17, .inl (c17, 64, .inl (fun _ => 0))), (q18, .inl (c18, 61440, .inl (fun _ => 0))), (q19, .inl (c19, 4096, .inr (.inl (fun _ => 0)))), (q20, .inl (c20, 4096, .inr (.inl (fun _ => 0)))), (q21, .inl (c21, 32, .inl (fun _ => 0))), (q22, .inl (c22, 256, .inl (fun _ => 0))), (q23, .inl (c23, 256, .inl (fun _ => 0))), (q24, .inl (c24, 256, .inl (fun _ => 0)))]) (fun w h => List.mem_cons_of_mem _ (inlX12 w h)) tyX12_ok nmX12 0 rfl rfl 36 (by decide) (List.mem_cons_of_mem _ zw10_7) rfl rfl rfl rfl (Nat.le_of_ble_eq_true rfl) rfl dX12_init_209 (fun H locs hI => ?_)
  refine lv_aload_n hx hb dX12_init_212 rfl (lv_at hl 0 rfl) ?_
  refine lv_sipush (v := 256) hx hb dX12_init_213 (by decide) ?_
  refine z_newz hC hI (List.mem_cons_of_mem _ zw10_5) 256 (by decide +kernel) (by decide +kernel) (by decide +kernel) (Nat.le_of_ble_eq_true rfl) (Nat.le_of_ble_eq_true rfl) dX12_init_216 (fun q25 c25 H hI => ?_)
  have hI : zI st D [(c1, .byte), (c2, .byte), (c3, .int), (c4, .long), (c5, .byte), (c6, .byte), (c7, .byte), (c8, .byte), (c9, .int), (c10, .long), (c11, .long), (c12, .int), (c13, .long), (c14, .byte), (c15, .byte), (c16, .byte), (c17, .byte), (c18, .int), (c19, .long), (c20, .long), (c21, .int), (c22, .int), (c23, .boolean), (c24, .int), (c25, .boolean)] [(h0, .inr (14, [.int 0, .ref q1, .int 0, .int 0, .ref q2, .int 0, .int 0, .int 0, .int (-1), .int 0, .ref q3, .ref q4, .ref q5, .ref q6, .ref q7, .ref q8, .ref q9, .ref q10, .ref q11, .int 0, .ref q12, .ref q13, .ref q14, .ref q15, .ref q16, .ref q17, .ref q18, .ref q19, .ref q20, .ref q21, .long 0, .int 0, .int 0, .int 0, .ref q22, .ref q23, .ref q24, .null, .null, .int 0, .int 0, .int 0, .int 0, .int 0])), (q1, .inl (c1, 262656, .inl (fun _ => 0))), (q2, .inl (c2, 262144, .inl (fun _ => 0))), (q3, .inl (c3, 1048, .inl (fun _ => 0))), (q4, .inl (c4, 5, .inr (.inl (fun _ => 0)))), (q5, .inl (c5, 8192, .inl (fun _ => 0))), (q6, .inl (c6, 32768, .inl (fun _ => 0))), (q7, .inl (c7, 16384, .inl (fun _ => 0))), (q8, .inl (c8, 64, .inl (fun _ => 0))), (q9, .inl (c9, 61440, .inl (fun _ => 0))), (q10, .inl (c10, 4096, .inr (.inl (fun _ => 0)))), (q11, .inl (c11, 4096, .inr (.inl (fun _ => 0)))), (q12, .inl (c12, 1048, .inl (fun _ => 0))), (q13, .inl (c13, 5, .inr (.inl (fun _ => 0)))), (q14, .inl (c14, 8192, .inl (fun _ => 0))), (q15, .inl (c15, 32768, .inl (fun _ => 0))), (q16, .inl (c16, 16384, .inl (fun _ => 0))), (q17, .inl (c17, 64, .inl (fun _ => 0))), (q18, .inl (c18, 61440, .inl (fun _ => 0))), (q19, .inl (c19, 4096, .inr (.inl (fun _ => 0)))), (q20, .inl (c20, 4096, .inr (.inl (fun _ => 0)))), (q21, .inl (c21, 32, .inl (fun _ => 0))), (q22, .inl (c22, 256, .inl (fun _ => 0))), (q23, .inl (c23, 256, .inl (fun _ => 0))), (q24, .inl (c24, 256, .inl (fun _ => 0))), (q25, .inl (c25, 256, .inl (fun _ => 0)))] A s H _ := hI
  refine z_putF hC hnm hI (w1 := [(h0, .inr (14, [.int 0, .ref q1, .int 0, .int 0, .ref q2, .int 0, .int 0, .int 0, .int (-1), .int 0, .ref q3, .ref q4, .ref q5, .ref q6, .ref q7, .ref q8, .ref q9, .ref q10, .ref q11, .int 0, .ref q12, .ref q13, .ref q14, .ref q15, .ref q16, .ref q17, .ref q18, .ref q19, .ref q20, .ref q21, .long 0, .int 0, .int 0, .int 0, .ref q22, .ref q23, .ref q24, .ref q25, .null, .int 0, .int 0, .int 0, .int 0, .int 0])), (q1, .inl (c1, 262656, .inl (fun _ => 0))), (q2, .inl (c2, 262144, .inl (fun _ => 0))), (q3, .inl (c3, 1048, .inl (fun _ => 0))), (q4, .inl (c4, 5, .inr (.inl (fun _ => 0)))), (q5, .inl (c5, 8192, .inl (fun _ => 0))), (q6, .inl (c6, 32768, .inl (fun _ => 0))), (q7, .inl (c7, 16384, .inl (fun _ => 0))), (q8, .inl (c8, 64, .inl (fun _ => 0))), (q9, .inl (c9, 61440, .inl (fun _ => 0))), (q10, .inl (c10, 4096, .inr (.inl (fun _ => 0)))), (q11, .inl (c11, 4096, .inr (.inl (fun _ => 0)))), (q12, .inl (c12, 1048, .inl (fun _ => 0))), (q13, .inl (c13, 5, .inr (.inl (fun _ => 0)))), (q14, .inl (c14, 8192, .inl (fun _ => 0))), (q15, .inl (c15, 32768, .inl (fun _ => 0))), (q16, .inl (c16, 16384, .inl (fun _ => 0))), (q17, .inl (c17, 64, .inl (fun _ => 0))), (q18, .inl (c18, 61440, .inl (fun _ => 0))), (q19, .inl (c19, 4096, .inr (.inl (fun _ => 0)))), (q20, .inl (c20, 4096, .inr (.inl (fun _ => 0)))), (q21, .inl (c21, 32, .inl (fun _ => 0))), (q22, .inl (c22, 256, .inl (fun _ => 0))), (q23, .inl (c23, 256, .inl (fun _ => 0))), (q24, .inl (c24, 256, .inl (fun _ => 0))), (q25, .inl (c25, 256, .inl (fun _ => 0)))]) (fun w h => List.mem_cons_of_mem _ (inlX12 w h)) tyX12_ok nmX12 0 rfl rfl 37 (by decide) (List.mem_cons_of_mem _ zw10_8) rfl rfl rfl rfl (Nat.le_of_ble_eq_true rfl) rfl dX12_init_218 (fun H locs hI => ?_)
  refine lv_aload_n hx hb dX12_init_221 rfl (lv_at hl 0 rfl) ?_
  refine lv_bipush (v := 40) hx hb dX12_init_222 (by decide) ?_
  refine z_newi hC hI (List.mem_cons_of_mem _ zw3_15) 40 (by decide +kernel) (by decide +kernel) (by decide +kernel) (Nat.le_of_ble_eq_true rfl) (Nat.le_of_ble_eq_true rfl) dX12_init_224 (fun q26 c26 H hI => ?_)
  have hI : zI st D [(c1, .byte), (c2, .byte), (c3, .int), (c4, .long), (c5, .byte), (c6, .byte), (c7, .byte), (c8, .byte), (c9, .int), (c10, .long), (c11, .long), (c12, .int), (c13, .long), (c14, .byte), (c15, .byte), (c16, .byte), (c17, .byte), (c18, .int), (c19, .long), (c20, .long), (c21, .int), (c22, .int), (c23, .boolean), (c24, .int), (c25, .boolean), (c26, .int)] [(h0, .inr (14, [.int 0, .ref q1, .int 0, .int 0, .ref q2, .int 0, .int 0, .int 0, .int (-1), .int 0, .ref q3, .ref q4, .ref q5, .ref q6, .ref q7, .ref q8, .ref q9, .ref q10, .ref q11, .int 0, .ref q12, .ref q13, .ref q14, .ref q15, .ref q16, .ref q17, .ref q18, .ref q19, .ref q20, .ref q21, .long 0, .int 0, .int 0, .int 0, .ref q22, .ref q23, .ref q24, .ref q25, .null, .int 0, .int 0, .int 0, .int 0, .int 0])), (q1, .inl (c1, 262656, .inl (fun _ => 0))), (q2, .inl (c2, 262144, .inl (fun _ => 0))), (q3, .inl (c3, 1048, .inl (fun _ => 0))), (q4, .inl (c4, 5, .inr (.inl (fun _ => 0)))), (q5, .inl (c5, 8192, .inl (fun _ => 0))), (q6, .inl (c6, 32768, .inl (fun _ => 0))), (q7, .inl (c7, 16384, .inl (fun _ => 0))), (q8, .inl (c8, 64, .inl (fun _ => 0))), (q9, .inl (c9, 61440, .inl (fun _ => 0))), (q10, .inl (c10, 4096, .inr (.inl (fun _ => 0)))), (q11, .inl (c11, 4096, .inr (.inl (fun _ => 0)))), (q12, .inl (c12, 1048, .inl (fun _ => 0))), (q13, .inl (c13, 5, .inr (.inl (fun _ => 0)))), (q14, .inl (c14, 8192, .inl (fun _ => 0))), (q15, .inl (c15, 32768, .inl (fun _ => 0))), (q16, .inl (c16, 16384, .inl (fun _ => 0))), (q17, .inl (c17, 64, .inl (fun _ => 0))), (q18, .inl (c18, 61440, .inl (fun _ => 0))), (q19, .inl (c19, 4096, .inr (.inl (fun _ => 0)))), (q20, .inl (c20, 4096, .inr (.inl (fun _ => 0)))), (q21, .inl (c21, 32, .inl (fun _ => 0))), (q22, .inl (c22, 256, .inl (fun _ => 0))), (q23, .inl (c23, 256, .inl (fun _ => 0))), (q24, .inl (c24, 256, .inl (fun _ => 0))), (q25, .inl (c25, 256, .inl (fun _ => 0))), (q26, .inl (c26, 40, .inl (fun _ => 0)))] A s H _ := hI
  refine z_putF hC hnm hI (w1 := [(h0, .inr (14, [.int 0, .ref q1, .int 0, .int 0, .ref q2, .int 0, .int 0, .int 0, .int (-1), .int 0, .ref q3, .ref q4, .ref q5, .ref q6, .ref q7, .ref q8, .ref q9, .ref q10, .ref q11, .int 0, .ref q12, .ref q13, .ref q14, .ref q15, .ref q16, .ref q17, .ref q18, .ref q19, .ref q20, .ref q21, .long 0, .int 0, .int 0, .int 0, .ref q22, .ref q23, .ref q24, .ref q25, .ref q26, .int 0, .int 0, .int 0, .int 0, .int 0])), (q1, .inl (c1, 262656, .inl (fun _ => 0))), (q2, .inl (c2, 262144, .inl (fun _ => 0))), (q3, .inl (c3, 1048, .inl (fun _ => 0))), (q4, .inl (c4, 5, .inr (.inl (fun _ => 0)))), (q5, .inl (c5, 8192, .inl (fun _ => 0))), (q6, .inl (c6, 32768, .inl (fun _ => 0))), (q7, .inl (c7, 16384, .inl (fun _ => 0))), (q8, .inl (c8, 64, .inl (fun _ => 0))), (q9, .inl (c9, 61440, .inl (fun _ => 0))), (q10, .inl (c10, 4096, .inr (.inl (fun _ => 0)))), (q11, .inl (c11, 4096, .inr (.inl (fun _ => 0)))), (q12, .inl (c12, 1048, .inl (fun _ => 0))), (q13, .inl (c13, 5, .inr (.inl (fun _ => 0)))), (q14, .inl (c14, 8192, .inl (fun _ => 0))), (q15, .inl (c15, 32768, .inl (fun _ => 0))), (q16, .inl (c16, 16384, .inl (fun _ => 0))), (q17, .inl (c17, 64, .inl (fun _ => 0))), (q18, .inl (c18, 61440, .inl (fun _ => 0))), (q19, .inl (c19, 4096, .inr (.inl (fun _ => 0)))), (q20, .inl (c20, 4096, .inr (.inl (fun _ => 0)))), (q21, .inl (c21, 32, .inl (fun _ => 0))), (q22, .inl (c22, 256, .inl (fun _ => 0))), (q23, .inl (c23, 256, .inl (fun _ => 0))), (q24, .inl (c24, 256, .inl (fun _ => 0))), (q25, .inl (c25, 256, .inl (fun _ => 0))), (q26, .inl (c26, 40, .inl (fun _ => 0)))]) (fun w h => List.mem_cons_of_mem _ (inlX12 w h)) tyX12_ok nmX12 0 rfl rfl 38 (by decide) (List.mem_cons_of_mem _ zw10_9) rfl rfl rfl rfl (Nat.le_of_ble_eq_true rfl) rfl dX12_init_226 (fun H locs hI => ?_)
  obtain ⟨ad, had⟩ : ∃ f : Nat → Nat, f = (fun j => bif Nat.beq j 0 then h0 else bif Nat.beq j 1 then q1 else bif Nat.beq j 2 then q2 else bif Nat.beq j 3 then q3 else bif Nat.beq j 4 then q4 else bif Nat.beq j 5 then q5 else bif Nat.beq j 6 then q6 else bif Nat.beq j 7 then q7 else bif Nat.beq j 8 then q8 else bif Nat.beq j 9 then q9 else bif Nat.beq j 10 then q10 else bif Nat.beq j 11 then q11 else bif Nat.beq j 12 then q12 else bif Nat.beq j 13 then q13 else bif Nat.beq j 14 then q14 else bif Nat.beq j 15 then q15 else bif Nat.beq j 16 then q16 else bif Nat.beq j 17 then q17 else bif Nat.beq j 18 then q18 else bif Nat.beq j 19 then q19 else bif Nat.beq j 20 then q20 else bif Nat.beq j 21 then q21 else bif Nat.beq j 22 then q22 else bif Nat.beq j 23 then q23 else bif Nat.beq j 24 then q24 else bif Nat.beq j 25 then q25 else bif Nat.beq j 26 then q26 else 0) := ⟨_, rfl⟩
  obtain ⟨cy, hcy⟩ : ∃ f : Nat → ClassId, f = (fun j => bif Nat.beq j 1 then c1 else bif Nat.beq j 2 then c2 else bif Nat.beq j 3 then c3 else bif Nat.beq j 4 then c4 else bif Nat.beq j 5 then c5 else bif Nat.beq j 6 then c6 else bif Nat.beq j 7 then c7 else bif Nat.beq j 8 then c8 else bif Nat.beq j 9 then c9 else bif Nat.beq j 10 then c10 else bif Nat.beq j 11 then c11 else bif Nat.beq j 12 then c12 else bif Nat.beq j 13 then c13 else bif Nat.beq j 14 then c14 else bif Nat.beq j 15 then c15 else bif Nat.beq j 16 then c16 else bif Nat.beq j 17 then c17 else bif Nat.beq j 18 then c18 else bif Nat.beq j 19 then c19 else bif Nat.beq j 20 then c20 else bif Nat.beq j 21 then c21 else bif Nat.beq j 22 then c22 else bif Nat.beq j 23 then c23 else bif Nat.beq j 24 then c24 else bif Nat.beq j 25 then c25 else bif Nat.beq j 26 then c26 else 0) := ⟨_, rfl⟩
  have e0 : h0 = ad 0 := by rw [had]; rfl
  have hI9 : zI st D (tM cy) (wM ad cy (zsi zS0 0 8 (-1))) A s H locs := by
    rw [had, hcy]
    exact z_resub hI [0, 1, 2, 3, 4, 5, 6, 7, 8, 9, 10, 11, 12, 13, 14, 15, 16, 17, 18, 19, 20, 21, 22, 23, 24, 25] [0, 1, 2, 3, 4, 5, 6, 7, 8, 9, 10, 11, 12, 13, 14, 15, 16, 17, 18, 19, 20, 21, 22, 23, 24, 25, 26] rfl (by decide) rfl
  clear had hcy hI
  have hl : lv_has ls 2 (lv_args 0 [.ref (ad 0), .int x1]) := by rw [← e0]; exact hl
  have hI := hI9
  refine lv_aload_n hx hb dX12_init_229 rfl (lv_at hl 0 rfl) ?_
  refine z_ternM (x := x1) (p5 := 237) (tB := 244) (pJ := 245) hx hb (fun h => lv_iload_n hx hb dX12_init_230 rfl (lv_at hl 1 rfl) (lv_iconst (v := 1) hx hb dX12_init_231 (by decide) h)) dX12_init_232 (by decide) (fun h => lv_iload_n hx hb dX12_init_235 rfl (lv_at hl 1 rfl) (lv_iconst (v := 2) hx hb dX12_init_236 (by decide) h)) dX12_init_237 (by decide) (fun h => lv_iload_n hx hb dX12_init_240 rfl (lv_at hl 1 rfl) (lv_goto (tgt := 245) hx hb dX12_init_241 (by decide) h)) (fun h => lv_iconst (v := 0) hx hb dX12_init_244 (by decide) h) ?_
  refine lv_topi (fun v0 ev0 => ?_)
  refine z_putF hC hnm hI (w1 := wM ad cy (zsi (zsi zS0 0 8 (-1)) 0 3 v0)) (fun w h => List.mem_cons_of_mem _ (inlX12 w h)) tyX12_ok nmX12 0 (wM_e0 ad cy (zsi zS0 0 8 (-1))) rfl 3 (by decide) (List.mem_cons_of_mem _ zw10_10) rfl rfl rfl rfl (Nat.le_of_ble_eq_true rfl) rfl dX12_init_245 (fun H locs hI => ?_)
  refine lv_aload_n hx hb dX12_init_248 rfl (lv_at hl 0 rfl) ?_
  refine z_get hC hI (fun w h => List.mem_cons_of_mem _ (inlX12 w h)) 0 (wM_e0 ad cy (zsi (zsi zS0 0 8 (-1)) 0 3 v0)) rfl 10 (by decide) (List.mem_cons_of_mem _ zw9_7) rfl dX12_init_249 ?_
  refine lv_bipush (v := 44) hx hb dX12_init_252 (by decide) ?_
  refine lv_iconst (v := 0) hx hb dX12_init_254 (by decide) ?_
  refine z_iast (w1 := wM ad cy (zsi (zsi (zsi zS0 0 8 (-1)) 0 3 v0) 3 44 0)) hC hI 3 2 (wM_e3 ad cy (zsi (zsi zS0 0 8 (-1)) 0 3 v0)) (tM_t3 cy) (by decide) rfl dX12_init_255 (fun H locs hI => ?_)
  refine lv_aload_n hx hb dX12_init_256 rfl (lv_at hl 0 rfl) ?_
  refine z_get hC hI (fun w h => List.mem_cons_of_mem _ (inlX12 w h)) 0 (wM_e0 ad cy (zsi (zsi (zsi zS0 0 8 (-1)) 0 3 v0) 3 44 0)) rfl 10 (by decide) (List.mem_cons_of_mem _ zw9_7) rfl dX12_init_257 ?_
  refine lv_bipush (v := 45) hx hb dX12_init_260 (by decide) ?_
  refine lv_iconst (v := 1) hx hb dX12_init_262 (by decide) ?_
  refine z_iast (w1 := wM ad cy (zsi (zsi (zsi (zsi zS0 0 8 (-1)) 0 3 v0) 3 44 0) 3 45 1)) hC hI 3 2 (wM_e3 ad cy (zsi (zsi (zsi zS0 0 8 (-1)) 0 3 v0) 3 44 0)) (tM_t3 cy) (by decide) rfl dX12_init_263 (fun H locs hI => ?_)
  refine lv_aload_n hx hb dX12_init_264 rfl (lv_at hl 0 rfl) ?_
  refine z_get hC hI (fun w h => List.mem_cons_of_mem _ (inlX12 w h)) 0 (wM_e0 ad cy (zsi (zsi (zsi (zsi zS0 0 8 (-1)) 0 3 v0) 3 44 0) 3 45 1)) rfl 10 (by decide) (List.mem_cons_of_mem _ zw9_7) rfl dX12_init_265 ?_
  refine lv_bipush (v := 46) hx hb dX12_init_268 (by decide) ?_
  refine lv_iconst (v := 1) hx hb dX12_init_270 (by decide) ?_
  refine z_iast (w1 := wM ad cy (zsi (zsi (zsi (zsi (zsi zS0 0 8 (-1)) 0 3 v0) 3 44 0) 3 45 1) 3 46 1)) hC hI 3 2 (wM_e3 ad cy (zsi (zsi (zsi (zsi zS0 0 8 (-1)) 0 3 v0) 3 44 0) 3 45 1)) (tM_t3 cy) (by decide) rfl dX12_init_271 (fun H locs hI => ?_)
  refine lv_aload_n hx hb dX12_init_272 rfl (lv_at hl 0 rfl) ?_
  subst ev0
  refine z_callVu (As := []) (rest := []) hC hI (cX12_anew_met st l D ad cy _ σ1 hf) (zgV zw10_11 zw10_12 zw10_13 zw1_5 zw10_14) rfl ⟨rfl, rfl⟩ 0 hdX12_anew ⟨Nat.le_of_ble_eq_true rfl, Nat.le_of_ble_eq_true rfl⟩ rfl rfl (wM_e0 ad cy _) rfl hl rfl (Nat.le_of_ble_eq_true rfl) dX12_init_273 ⟨Nat.le_of_ble_eq_true rfl, Nat.le_of_ble_eq_true rfl⟩ (fun H locs hI => ?_)
  exact z_nreturn0 (wn := fun ad cy => wM ad cy σ1) (tn := tM) (ex := fun f => h0 = f 0) hC ad cy hI e0 (Nat.le_refl _) (Nat.le_refl _) dX12_init_276
theorem hdX12_init : yX12_init.cls ≠ "java/lang/invoke/MethodHandle" ∧ yX12_init.cls ≠ "java/lang/invoke/VarHandle" ∧ (parseMethodDescriptor yX12_init.desc).map (fun d => d.parameters.length) = some 1 := by decide +kernel
end ZJN3
section ZJN4
/-! The law's helpers: a world ahead of the class's; what they catch -/
section ZH
variable {p : Program} {l : Launch} {e : Env} {R : Room} {s : State} {m : MethodId} {args : Array Value} {below : List Frame} {meth : Method} {c : Code} {H H1 : Heap} {locs locs1 : List Loc} {cells slots : Nat} {Q : State → Prop}
variable {st : Nat → Nat} {D : va_G} {tys tys0 : List (ClassId × FieldType)} {A : Nat → Prop} {cc : ByteArray} {nL : Nat} {Ts : List Cond} {own : String} {pc : Nat} {ls : Array Slot} {rest st0 : List Value} {ret : Option FieldType} {u v v1 w0 : va_W}
theorem z_swapP (hP : va_P D vwCl (u ++ v) H) : va_P D vwCl (v ++ u) H := fun k q hk => by
  by_cases h : k < v.length
  · rw [List.getElem?_append_left h] at hk
    exact hP (u.length + k) q (by rw [List.getElem?_append_right (by omega)]; simpa using hk)
  · rw [List.getElem?_append_right (by omega)] at hk
    exact hP (k - v.length) q (by rw [List.getElem?_append_left (List.getElem?_eq_some_iff.mp hk).1]; exact hk)
theorem z_swapD (hD : va_D A (u ++ v)) : va_D A (v ++ u) := by
  have at' : ∀ (k : Nat) (q : Nat × va_E), (v ++ u)[k]? = some q → (u ++ v)[if k < v.length then u.length + k else k - v.length]? = some q := by
    intro k q hk
    by_cases h : k < v.length
    · rw [if_pos h]
      rw [List.getElem?_append_left h] at hk
      rw [List.getElem?_append_right (by omega)]
      simpa using hk
    · rw [if_neg h]
      rw [List.getElem?_append_right (by omega)] at hk
      rw [List.getElem?_append_left (List.getElem?_eq_some_iff.mp hk).1]
      exact hk
  refine ⟨fun i j p q hi hj h => ?_, fun k q hk => hD.2 _ q (at' k q hk)⟩
  have e := hD.1 _ _ p q (at' i p hi) (at' j q hj) h
  have li := (List.getElem?_eq_some_iff.mp hi).1
  have lj := (List.getElem?_eq_some_iff.mp hj).1
  rw [List.length_append] at li lj
  split at e <;> split at e <;> omega
theorem z_subR (hP : va_P D vwCl (u ++ v) H) : va_P D vwCl v H := fun k q hk => hP (u.length + k) q (by rw [List.getElem?_append_right (by omega)]; simpa using hk)
theorem z_subRD (hD : va_D A (u ++ v)) : va_D A v := by
  have at' : ∀ (k : Nat) (q : Nat × va_E), v[k]? = some q → (u ++ v)[u.length + k]? = some q := fun k q hk => by rw [List.getElem?_append_right (by omega)]; simpa using hk
  refine ⟨fun i j p q hi hj h => ?_, fun k q hk => hD.2 _ q (at' k q hk)⟩
  have e := hD.1 _ _ p q (at' i p hi) (at' j q hj) h
  omega
theorem zI.swap (hI : zI st D tys (u ++ v) A s H locs) : zI st D tys (v ++ u) A s H locs := ⟨hI.1, z_swapP hI.2.1, z_swapD hI.2.2.1, hI.2.2.2⟩
theorem z_range_mapR (u v : va_W) : (List.range u.length).map (fun i => (u ++ v)[i]?) = u.map some := by
  apply List.ext_getElem?
  intro i
  by_cases h : i < u.length
  · simp only [List.getElem?_map, List.getElem?_range h, Option.map_some, List.getElem?_append_left h]
    rw [List.getElem?_eq_getElem h]
    rfl
  · simp [List.getElem?_map, List.getElem?_eq_none (Nat.le_of_not_lt h), List.getElem?_eq_none (show (List.range u.length).length ≤ i by simpa using Nat.le_of_not_lt h)]
theorem z_range_mapS (u v : va_W) : ((List.range v.length).map (fun i => u.length + i)).map (fun i => (u ++ v)[i]?) = v.map some := by
  apply List.ext_getElem?
  intro i
  by_cases h : i < v.length
  · simp only [List.map_map, List.getElem?_map, List.getElem?_range h, Option.map_some, Function.comp]
    rw [List.getElem?_append_right (by omega), show u.length + i - u.length = i by omega, List.getElem?_eq_getElem h]
    rfl
  · simp [List.getElem?_map, List.getElem?_eq_none (Nat.le_of_not_lt h), List.getElem?_eq_none (show (List.range v.length).length ≤ i by simpa using Nat.le_of_not_lt h)]
theorem z_seg (hP : va_P D vwCl (u ++ v) H) (hD : va_D A (u ++ v)) (hk : ∀ q : Nat, q < H.size → ¬ va_A v H.size q → H1[q]? = H[q]?) (hF : ∀ q, va_A v H.size q → A q) (hP1 : va_P D vwCl v1 H1) (hD1 : va_D (va_A v H.size) v1) : va_P D vwCl (u ++ v1) H1 ∧ va_D A (u ++ v1) :=
  va_join hP hD ((List.range v.length).map (fun i => u.length + i)) (List.range u.length) (z_range_mapS u v) (z_range_mapR u v) (va_nd_nodup _ List.nodup_range) (fun i hi h => by
    obtain ⟨j, -, rfl⟩ := List.mem_map.mp h
    have := List.mem_range.mp hi
    omega) hk hF hP1 hD1
theorem z_freeR (hI : zI st D tys (u ++ v) A s H locs) : ∀ q, va_A v H.size q → A q := by
  intro q h
  rcases h with ⟨k2, e2, h⟩ | h
  · exact (z_subRD hI.2.2.1).2 k2 (q, e2) h
  · exact hI.2.2.2.2.1 _ (Nat.le_trans hI.2.2.2.1.1 h)
theorem zP.atR {av : List Value} (hI : zI st D tys0 (u ++ v) A s H locs) (hK : va_K D vwCl tys s) : ∀ U : State, U.heap = H → s.WarmedH U.vm → va_Pc av (zP st D tys v H.size) av.toArray U := fun U hU hW =>
  ⟨rfl, by rw [hU], by rw [hU]; exact z_subR hI.2.1, va_K.moved hW.alike hK, (z_subRD hI.2.2.1).weaken (fun _ _ _ _ => trivial), by rw [hU]; exact zT.warm hW ((hI.2.2.2.2.2.kept hI.2.2.2.1.2.1).narrow (z_freeR hI))⟩
theorem z_backR {w : zSt → va_W} {σ σ1 : zSt} {t : State} (hI : zI st D tys0 (u ++ w σ) A s H locs) (ht : t.heap = H1) (hB : zB D tys w (va_A (w σ) H.size) σ1 t) (hk : ∀ q : Nat, q < H.size → ¬ va_A (w σ) H.size q → H1[q]? = H[q]?) (hS : va_S A s.heap H1 locs1) : zI st D tys0 (u ++ w σ1) A s H1 locs1 := by
  obtain ⟨hP1, hK1, hD1⟩ := hB
  rw [ht] at hP1
  obtain ⟨hP, hD⟩ := z_seg hI.2.1 hI.2.2.1 hk (z_freeR hI) hP1 hD1
  exact ⟨hI.1, hP, hD, hS, hI.2.2.2.2⟩
variable {y : MethodName} {ws ws' : List Cond} {rm : Room} {bytes : ByteArray} {maxL index : Nat} {rt : Option FieldType} {As : List Value} {lv : List (Nat × Value)} {C : String} {b : Nat}
/-- a method of the class that returns an int or throws, called beside other cells -/
theorem z_hcalli (hC : zC p m c cc nL s args Ts own meth ret) {w : zSt → va_W} {σ : zSt} (hI : zI st D tys0 (u ++ w σ) A s H locs) (hK : va_K D vwCl tys s) {res : zRi} (hM : ∀ sz, zXi st l y ws rm (.ref b :: As) D tys w sz σ res) (hT : GoodIn Ts (wsV own index C y ws)) (hw : ws = Cond.code y bytes maxL rt :: ws') (hrm : rm.cells = 1 ∧ rm.slots = 6) (n : Nat)
    (hd : y.cls = C ∧ y.cls ≠ "java/lang/invoke/MethodHandle" ∧ y.cls ≠ "java/lang/invoke/VarHandle" ∧ (parseMethodDescriptor y.desc).map (fun d => d.parameters.length) = some n) (hR : rm.frames + 1 ≤ R.frames ∧ 8 + (maxL + 11) + rm.locals ≤ R.locals)
    {q0 ci : Nat} {q : vw_C} {fs : List Value} (hc : vwCl[ci]? = some q) (hq : q.1 = C) (he : (w σ)[q0]? = some (b, .inr (ci, fs))) (hn : As.length = n) (hl : lv_has ls nL lv) (hst : st0 = As.reverse ++ .ref b :: rest) (hW : (rest.map fun v => v.category).sum ≤ 8) (hdg : decode cc pc = .ok (.invokevirtual index, 3)) (hcl : cells + 1 ≤ R.cells ∧ slots + 6 ≤ R.slots)
    (kx : ∀ (k : Nat) (σ1 : zSt), res = Sum.inr (σ1, k) → ∀ (ce : Cell) (q9 : Addr) (H1 : Heap) (locs1 : List Loc), zI st D tys0 (u ++ w σ1) A s H1 locs1 → H1[q9]? = some ce → ce.vm = .none → s.vm.findClass (zEx k) = some ce.cls → vx_W p l e R s m args below meth c H1 locs1 (cells + 1) (slots + 6) Q (F0 m pc ls rest) q9)
    (kk : ∀ (r : Int32) (σ1 : zSt), res = Sum.inl (σ1, r) → ∀ (H1 : Heap) (locs1 : List Loc), zI st D tys0 (u ++ w σ1) A s H1 locs1 → W p l e R s m args below meth c H1 locs1 (cells + 1) (slots + 6) Q (F0 m (pc + 3) ls (.int r :: rest))) : W p l e R s m args below meth c H locs cells slots Q (F0 m pc ls st0) := by
  subst hq
  refine vx_calli (vx_runV (As := As) (rest := rest) ⟨hC.1, hC.2.1, hC.2.2.1, hC.2.2.2.1, hC.2.2.2.2.1⟩ (hM H.size) (cwV n hC.2.2.2.2.1 hT hw hrm.1 hrm.2 hd hR) ⟨zP.blind, va_recv hK (z_subR hI.2.1) hc he, zP.atR hI hK⟩ rfl hn hl.1 hst (lv_room hW) hdg hcl) hI.2.2.2.1 (fun q _ h => z_freeR hI q h) (z_freeR hI) (fun q _ h => z_freeR hI q h) (fun E ce q9 u9 t H1 locs1 ht hvm _ hB _ hk1 hS h1 h2 h3 => ?_) (fun r u9 t H1 locs1 ht hvm hw' hB _ hk1 hS => ?_)
  · obtain ⟨⟨k, hk, rfl⟩, hB⟩ := hB
    exact kx k u9 hk.symm ce q9 H1 locs1 (z_backR hI ht hB hk1 hS) h1 h2 h3
  · exact kk r u9 hw'.symm H1 locs1 (z_backR hI ht hB hk1 hS)
theorem z_hcalll (hC : zC p m c cc nL s args Ts own meth ret) {w : zSt → va_W} {σ : zSt} (hI : zI st D tys0 (u ++ w σ) A s H locs) (hK : va_K D vwCl tys s) {res : zRl} (hM : ∀ sz, zXl st l y ws rm (.ref b :: As) D tys w sz σ res) (hT : GoodIn Ts (wsV own index C y ws)) (hw : ws = Cond.code y bytes maxL rt :: ws') (hrm : rm.cells = 1 ∧ rm.slots = 6) (n : Nat)
    (hd : y.cls = C ∧ y.cls ≠ "java/lang/invoke/MethodHandle" ∧ y.cls ≠ "java/lang/invoke/VarHandle" ∧ (parseMethodDescriptor y.desc).map (fun d => d.parameters.length) = some n) (hR : rm.frames + 1 ≤ R.frames ∧ 8 + (maxL + 11) + rm.locals ≤ R.locals)
    {q0 ci : Nat} {q : vw_C} {fs : List Value} (hc : vwCl[ci]? = some q) (hq : q.1 = C) (he : (w σ)[q0]? = some (b, .inr (ci, fs))) (hn : As.length = n) (hl : lv_has ls nL lv) (hst : st0 = As.reverse ++ .ref b :: rest) (hW : (rest.map fun v => v.category).sum ≤ 8) (hdg : decode cc pc = .ok (.invokevirtual index, 3)) (hcl : cells + 1 ≤ R.cells ∧ slots + 6 ≤ R.slots)
    (kx : ∀ (k : Nat) (σ1 : zSt), res = Sum.inr (σ1, k) → ∀ (ce : Cell) (q9 : Addr) (H1 : Heap) (locs1 : List Loc), zI st D tys0 (u ++ w σ1) A s H1 locs1 → H1[q9]? = some ce → ce.vm = .none → s.vm.findClass (zEx k) = some ce.cls → vx_W p l e R s m args below meth c H1 locs1 (cells + 1) (slots + 6) Q (F0 m pc ls rest) q9)
    (kk : ∀ (r : Int64) (σ1 : zSt), res = Sum.inl (σ1, r) → ∀ (H1 : Heap) (locs1 : List Loc), zI st D tys0 (u ++ w σ1) A s H1 locs1 → W p l e R s m args below meth c H1 locs1 (cells + 1) (slots + 6) Q (F0 m (pc + 3) ls (.long r :: rest))) : W p l e R s m args below meth c H locs cells slots Q (F0 m pc ls st0) := by
  subst hq
  refine vx_calll (vx_runV (As := As) (rest := rest) ⟨hC.1, hC.2.1, hC.2.2.1, hC.2.2.2.1, hC.2.2.2.2.1⟩ (hM H.size) (cwV n hC.2.2.2.2.1 hT hw hrm.1 hrm.2 hd hR) ⟨zP.blind, va_recv hK (z_subR hI.2.1) hc he, zP.atR hI hK⟩ rfl hn hl.1 hst (lv_room hW) hdg hcl) hI.2.2.2.1 (fun q _ h => z_freeR hI q h) (z_freeR hI) (fun q _ h => z_freeR hI q h) (fun E ce q9 u9 t H1 locs1 ht hvm _ hB _ hk1 hS h1 h2 h3 => ?_) (fun r u9 t H1 locs1 ht hvm hw' hB _ hk1 hS => ?_)
  · obtain ⟨⟨k, hk, rfl⟩, hB⟩ := hB
    exact kx k u9 hk.symm ce q9 H1 locs1 (z_backR hI ht hB hk1 hS) h1 h2 h3
  · exact kk r u9 hw'.symm H1 locs1 (z_backR hI ht hB hk1 hS)
theorem z_hcallu (hC : zC p m c cc nL s args Ts own meth ret) {w : zSt → va_W} {σ : zSt} (hI : zI st D tys0 (u ++ w σ) A s H locs) (hK : va_K D vwCl tys s) {res : zRu} (hM : ∀ sz, zXu st l y ws rm (.ref b :: As) D tys w sz σ res) (hT : GoodIn Ts (wsV own index C y ws)) (hw : ws = Cond.code y bytes maxL rt :: ws') (hrm : rm.cells = 1 ∧ rm.slots = 6) (n : Nat)
    (hd : y.cls = C ∧ y.cls ≠ "java/lang/invoke/MethodHandle" ∧ y.cls ≠ "java/lang/invoke/VarHandle" ∧ (parseMethodDescriptor y.desc).map (fun d => d.parameters.length) = some n) (hR : rm.frames + 1 ≤ R.frames ∧ 8 + (maxL + 11) + rm.locals ≤ R.locals)
    {q0 ci : Nat} {q : vw_C} {fs : List Value} (hc : vwCl[ci]? = some q) (hq : q.1 = C) (he : (w σ)[q0]? = some (b, .inr (ci, fs))) (hn : As.length = n) (hl : lv_has ls nL lv) (hst : st0 = As.reverse ++ .ref b :: rest) (hW : (rest.map fun v => v.category).sum ≤ 8) (hdg : decode cc pc = .ok (.invokevirtual index, 3)) (hcl : cells + 1 ≤ R.cells ∧ slots + 6 ≤ R.slots)
    (kx : ∀ (k : Nat) (σ1 : zSt), res = Sum.inr (σ1, k) → ∀ (ce : Cell) (q9 : Addr) (H1 : Heap) (locs1 : List Loc), zI st D tys0 (u ++ w σ1) A s H1 locs1 → H1[q9]? = some ce → ce.vm = .none → s.vm.findClass (zEx k) = some ce.cls → vx_W p l e R s m args below meth c H1 locs1 (cells + 1) (slots + 6) Q (F0 m pc ls rest) q9)
    (kk : ∀ σ1 : zSt, res = Sum.inl σ1 → ∀ (H1 : Heap) (locs1 : List Loc), zI st D tys0 (u ++ w σ1) A s H1 locs1 → W p l e R s m args below meth c H1 locs1 (cells + 1) (slots + 6) Q (F0 m (pc + 3) ls rest)) : W p l e R s m args below meth c H locs cells slots Q (F0 m pc ls st0) := by
  subst hq
  refine vx_callv (vx_runV (As := As) (rest := rest) ⟨hC.1, hC.2.1, hC.2.2.1, hC.2.2.2.1, hC.2.2.2.2.1⟩ (hM H.size) (cwV n hC.2.2.2.2.1 hT hw hrm.1 hrm.2 hd hR) ⟨zP.blind, va_recv hK (z_subR hI.2.1) hc he, zP.atR hI hK⟩ rfl hn hl.1 hst (lv_room hW) hdg hcl) hI.2.2.2.1 (fun q _ h => z_freeR hI q h) (z_freeR hI) (fun q _ h => z_freeR hI q h) (fun E ce q9 u9 t H1 locs1 ht hvm _ hB _ hk1 hS h1 h2 h3 => ?_) (fun u9 t H1 locs1 ht hvm hw' hB _ hk1 hS => ?_)
  · obtain ⟨⟨k, hk, rfl⟩, hB⟩ := hB
    exact kx k u9 hk.symm ce q9 H1 locs1 (z_backR hI ht hB hk1 hS) h1 h2 h3
  · exact kk u9 hw'.symm H1 locs1 (z_backR hI ht hB hk1 hS)
/-- the first row of the table takes it -/
theorem z_catch1 (hC : zC p m c cc nL s args Ts own meth ret) (hI : zI st D tys w0 A s H locs) {hh : List (Nat × Nat × Nat × Nat)} (hE : c.exceptionTable.toList = tableOf hh) (k : Nat) {x : ExceptionTableEntry} {suf : List ExceptionTableEntry} (hs : tableOf hh = x :: suf) (hx : covers x pc = true) (h0 : x.catchType ≠ 0) (hlink : Cond.classLink own x.catchType (zEx k) ∈ Ts)
    {ce : Cell} {q : Addr} (hcell : H[q]? = some ce) (hv : ce.vm = .none) (hcl : s.vm.findClass (zEx k) = some ce.cls) {hp : Nat} (hpc : x.handlerPc = hp) (kk : W p l e R s m args below meth c H locs cells slots Q (F0 m hp ls [.ref q])) : vx_W p l e R s m args below meth c H locs cells slots Q (F0 m pc ls rest) q := by
  subst hpc
  exact vx_catch hC.2.2.2.1 [] x suf (hE.trans hs) (fun z h => nomatch h) hx h0 (hC.2.2.2.2.1 _ hlink) (va_Nw.use rfl (hI.2.2.2.2.2.2.2.2.2.2.2.2.1 k)) hcell hv hcl kk
/-- the second one, IllegalStateException behind IllegalArgumentException -/
theorem z_catch2 (hC : zC p m c cc nL s args Ts own meth ret) (hI : zI st D tys w0 A s H locs) {hh : List (Nat × Nat × Nat × Nat)} (hE : c.exceptionTable.toList = tableOf hh) {x1 x : ExceptionTableEntry} {suf : List ExceptionTableEntry} (hs : tableOf hh = x1 :: x :: suf) (h1 : x1.catchType ≠ 0) (hlink1 : Cond.classLink own x1.catchType (zEx 1) ∈ Ts) (hx : covers x pc = true) (h0 : x.catchType ≠ 0) (hlink : Cond.classLink own x.catchType (zEx 2) ∈ Ts)
    {ce : Cell} {q : Addr} (hcell : H[q]? = some ce) (hv : ce.vm = .none) (hcl : s.vm.findClass (zEx 2) = some ce.cls) {hp : Nat} (hpc : x.handlerPc = hp) (kk : W p l e R s m args below meth c H locs cells slots Q (F0 m hp ls [.ref q])) : vx_W p l e R s m args below meth c H locs cells slots Q (F0 m pc ls rest) q := by
  subst hpc
  exact vx_catch hC.2.2.2.1 [x1] x suf (hE.trans hs) (fun z h => by
      cases List.mem_singleton.mp h
      exact Or.inr ⟨h1, _, hC.2.2.2.2.1 _ hlink1, hI.2.2.2.2.2.2.2.2.2.2.2.2.2.1⟩) hx h0 (hC.2.2.2.2.1 _ hlink) (va_Nw.use rfl (hI.2.2.2.2.2.2.2.2.2.2.2.2.1 2)) hcell hv hcl kk
/-- a helper's contract: the cells of u (the law's out) and the class's world -/
noncomputable def zH {S : Type} (st : Nat → Nat) (l : Launch) (y : MethodName) (ws : List Cond) (rm : Room) (av : List Value) (D : va_G) (tys : List (ClassId × FieldType)) (w : S → va_W) (sz : Nat) (x : S) (res : S × Int32) : Prop :=
  vx_Met l y ws rm (va_Pc av (zP st D tys (w x) sz)) (va_Qi (fun (r : Int32) (u : S) => (u, r) = res) (fun u t => va_P D vwCl (w u) t.heap ∧ va_K D vwCl tys t ∧ va_D (va_A (w x) sz) (w u)) (va_A (w x) sz)) (vx_X (fun _ : Unit => False) (fun _ _ _ => True) (va_A (w x) sz)) 1 6 (va_A (w x) sz)
noncomputable def zHQ {S : Type} (below : List Frame) (args : Array Value) (s : State) (D : va_G) (tys : List (ClassId × FieldType)) (w : S → va_W) (A : Nat → Prop) (res : S × Int32) : State → Prop :=
  vx_MQ below (va_Qi (fun (r : Int32) (u : S) => (u, r) = res) (fun u t => va_P D vwCl (w u) t.heap ∧ va_K D vwCl tys t ∧ va_D A (w u)) A) (vx_X (fun _ : Unit => False) (fun _ _ _ => True) A) args s 1 6 A
theorem zH.of {S : Type} {av : List Value} {w : S → va_W} {sz : Nat} {x : S} {res : S × Int32} {hh : List (Nat × Nat × Nat × Nat)} (hy : plainName y.cls = true) (hw : ws = Cond.codeWith y cc maxL ret hh :: ws') (hle : (lg_sl av).length ≤ maxL)
    (k : ∀ (p : Program) (e : Env) (s : State) (m : MethodId) (args : Array Value) (below : List Frame) (meth : Method) (c : Code), zC p m c cc maxL s args ws y.cls meth ret → c.exceptionTable.toList = tableOf hh → ∀ A : Nat → Prop, zI st D tys (w x) A s s.heap [] → ∀ ls : Array Slot, lv_has ls maxL (lv_args 0 av) → W p l e (headSpec ws rm).room s m args below meth c s.heap [] 0 0 (zHQ below args s D tys w A res) (F0 m 0 ls [])) : zH st l y ws rm av D tys w sz x res := by
  refine vx_ofWH (cc := cc) (maxL := maxL) (ret := ret) (hh := hh) hy hw ?_
  intro p e s m args below meth c s₁ B hml hv
  obtain ⟨rfl, hv⟩ := hv
  have hl := lv_entry av (n := maxL) hle
  rw [lg_entry_eq]
  have hT := vx_table (x := y) B (atoms_spec (ws := ws) B.pre _ (by rw [hw]; exact List.mem_cons_self))
  exact k p e s m av.toArray below meth c ⟨B.exec, B.bytes, hml, findClass_of_methodNamed B.named, atoms_spec (ws := ws) B.pre, B.returns, B.notSynchronized⟩ hT _ (zI.start (w := fun _ => w x) (σ := zS0) hv) _ hl
theorem z_hret (hC : zC p m c cc nL s args Ts own meth (some .int)) {S : Type} {w : S → va_W} {x : S} (hI : zI st D tys (w x) A s H locs) {v : Int32} {res : S × Int32} (hf : (x, v) = res) (hc : cells ≤ 1) (hs : slots ≤ 6) (hdg : decode cc pc = .ok (.ireturn, 1)) : W p l e R s m args below meth c H locs cells slots (zHQ below args s D tys w A res) (F0 m pc ls [.int v]) := by
  obtain ⟨hx, hb, hml, hown, hts, hr, hlk⟩ := hC
  obtain ⟨hK, hP, hD, hS, hA, hT⟩ := hI
  refine W.widen (k := 1) (n := 6) hc hs (vx_ret ?_)
  exact W.iret (v := v) hx hb hr (fun t ht hW => ⟨⟨v, x, rfl, hf, by rw [ht]; exact hP, va_K.moved hW.alike hK, hD⟩, hS.F ht⟩) hS.2.2 hdg hlk
/-- the law's out -/
noncomputable def zHo (ao : Nat) (co : ClassId) (o : Nat → Int64) : va_W := [(ao, .inl (co, 1, .inr (.inl o)))]
noncomputable abbrev zHs : Type := (Nat → Int64) × zSt
noncomputable def zbr {α β : Type} (q : Option α) (f : α → Option β) : Option β := match q with | none => none | some r => f r
theorem zbr_use {α β : Type} {q : Option α} {f : α → Option β} {r : β} (h : zbr q f = some r) : ∃ v, q = some v ∧ f v = some r := by
  cases q with
  | none => cases h
  | some v => exact ⟨v, rfl, h⟩
/-- what a helper makes of a throw: two rows, one row -/
noncomputable def zh2 {S : Type} (x : S) (k : Nat) : Option (S × Int32) := if k = 1 then some (x, 1) else if k = 2 then some (x, 2) else none
noncomputable def zh1 {S : Type} (n : Nat) (x : S) (k : Nat) : Option (S × Int32) := if k = n then some (x, 1) else none
noncomputable def zhi (o : Nat → Int64) (t : zHs → Nat → Option (zHs × Int32)) (r : zRi) : Option (zHs × Int32) := match r with | .inl q => some ((vp_updL o 0 q.2.toInt64, q.1), 0) | .inr q => t (o, q.1) q.2
noncomputable def zhl (o : Nat → Int64) (t : zHs → Nat → Option (zHs × Int32)) (r : zRl) : Option (zHs × Int32) := match r with | .inl q => some ((vp_updL o 0 q.2, q.1), 0) | .inr q => t (o, q.1) q.2
noncomputable def zhu (t : zSt → Nat → Option (zSt × Int32)) (r : zRu) : Option (zSt × Int32) := match r with | .inl q => some (q, 0) | .inr q => t q.1 q.2
theorem zh2_1 {S : Type} {x : S} {k : Nat} {r : S × Int32} (h : zh2 x k = some r) (c : k = 1) : (x, 1) = r := by subst c; exact Option.some.inj h
theorem zh2_2 {S : Type} {x : S} {k : Nat} {r : S × Int32} (h : zh2 x k = some r) (c : ¬ k = 1) : k = 2 ∧ (x, 2) = r := by
  unfold zh2 at h
  rw [if_neg c] at h
  by_cases c2 : k = 2
  · rw [if_pos c2] at h; exact ⟨c2, Option.some.inj h⟩
  · rw [if_neg c2] at h; cases h
theorem zh1_1 {S : Type} {n : Nat} {x : S} {k : Nat} {r : S × Int32} (h : zh1 n x k = some r) : k = n ∧ (x, 1) = r := by
  unfold zh1 at h
  by_cases c : k = n
  · rw [if_pos c] at h; exact ⟨c, Option.some.inj h⟩
  · rw [if_neg c] at h; cases h
end ZH
end ZJN4
section ZJN5
theorem zw10_20 : Cond.classLink RL 13 "java/lang/IllegalArgumentException" ∈ wsL_law := zr10 _ (List.mem_of_getElem? (i := 20) rfl)
theorem zw10_21 : Cond.methodLink RL 7 yX11_feed ∈ wsL_law := zr10 _ (List.mem_of_getElem? (i := 21) rfl)
theorem zw10_22 : Cond.instanceMethod yX11_feed ∈ wsL_law := zr10 _ (List.mem_of_getElem? (i := 22) rfl)
theorem zw10_23 : Cond.selects RX11 yX11_feed yX11_feed ∈ wsL_law := zr10 _ (List.mem_of_getElem? (i := 23) rfl)
theorem zw11_0 : Cond.code yX11_feed cX11_feed 11 (some .int) ∈ wsL_law := zr11 _ (List.mem_of_getElem? (i := 0) rfl)
theorem zw12_5 : Cond.methodLink RL 17 yX11_grow ∈ wsL_law := zr12 _ (List.mem_of_getElem? (i := 5) rfl)
theorem zw12_6 : Cond.instanceMethod yX11_grow ∈ wsL_law := zr12 _ (List.mem_of_getElem? (i := 6) rfl)
theorem zw12_7 : Cond.selects RX11 yX11_grow yX11_grow ∈ wsL_law := zr12 _ (List.mem_of_getElem? (i := 7) rfl)
theorem zw12_8 : Cond.code yX11_grow cX11_grow 3 (some .int) ∈ wsL_law := zr12 _ (List.mem_of_getElem? (i := 8) rfl)
theorem zw13_3 : Cond.methodLink RL 21 yX11_patch ∈ wsL_law := zr13 _ (List.mem_of_getElem? (i := 3) rfl)
theorem zw13_4 : Cond.instanceMethod yX11_patch ∈ wsL_law := zr13 _ (List.mem_of_getElem? (i := 4) rfl)
theorem zw13_5 : Cond.selects RX11 yX11_patch yX11_patch ∈ wsL_law := zr13 _ (List.mem_of_getElem? (i := 5) rfl)
theorem zw13_6 : Cond.code yX11_patch cX11_patch 4 none ∈ wsL_law := zr13 _ (List.mem_of_getElem? (i := 6) rfl)
theorem zw17_0 : Cond.methodLink RL 25 yX11_card ∈ wsL_law := zr17 _ (List.mem_of_getElem? (i := 0) rfl)
theorem zw17_1 : Cond.instanceMethod yX11_card ∈ wsL_law := zr17 _ (List.mem_of_getElem? (i := 1) rfl)
theorem zw17_2 : Cond.selects RX11 yX11_card yX11_card ∈ wsL_law := zr17 _ (List.mem_of_getElem? (i := 2) rfl)
theorem zw17_3 : Cond.code yX11_card cX11_card 2 (some .int) ∈ wsL_law := zr17 _ (List.mem_of_getElem? (i := 3) rfl)
theorem zw18_5 : Cond.methodLink RL 28 yX11_step ∈ wsL_law := zr18 _ (List.mem_of_getElem? (i := 5) rfl)
theorem zw18_6 : Cond.instanceMethod yX11_step ∈ wsL_law := zr18 _ (List.mem_of_getElem? (i := 6) rfl)
theorem zw18_7 : Cond.selects RX11 yX11_step yX11_step ∈ wsL_law := zr18 _ (List.mem_of_getElem? (i := 7) rfl)
theorem zw18_8 : Cond.code yX11_step cX11_step 2 (some .int) ∈ wsL_law := zr18 _ (List.mem_of_getElem? (i := 8) rfl)
theorem zw65_21 : Cond.methodLink RL 31 yX11_picture ∈ wsL_law := zr65 _ (List.mem_of_getElem? (i := 21) rfl)
theorem zw65_22 : Cond.instanceMethod yX11_picture ∈ wsL_law := zr65 _ (List.mem_of_getElem? (i := 22) rfl)
theorem zw65_23 : Cond.selects RX11 yX11_picture yX11_picture ∈ wsL_law := zr65 _ (List.mem_of_getElem? (i := 23) rfl)
theorem zw66_0 : Cond.code yX11_picture cX11_picture 2 (some .int) ∈ wsL_law := zr66 _ (List.mem_of_getElem? (i := 0) rfl)
theorem zw67_6 : Cond.methodLink RL 34 yX11_press ∈ wsL_law := zr67 _ (List.mem_of_getElem? (i := 6) rfl)
theorem zw67_7 : Cond.instanceMethod yX11_press ∈ wsL_law := zr67 _ (List.mem_of_getElem? (i := 7) rfl)
theorem zw67_8 : Cond.selects RX11 yX11_press yX11_press ∈ wsL_law := zr67 _ (List.mem_of_getElem? (i := 8) rfl)
theorem zw67_9 : Cond.code yX11_press cX11_press 3 none ∈ wsL_law := zr67 _ (List.mem_of_getElem? (i := 9) rfl)
theorem zw68_10 : Cond.methodLink RL 38 yX11_line ∈ wsL_law := zr68 _ (List.mem_of_getElem? (i := 10) rfl)
theorem zw68_11 : Cond.instanceMethod yX11_line ∈ wsL_law := zr68 _ (List.mem_of_getElem? (i := 11) rfl)
theorem zw68_12 : Cond.selects RX11 yX11_line yX11_line ∈ wsL_law := zr68 _ (List.mem_of_getElem? (i := 12) rfl)
theorem zw68_13 : Cond.code yX11_line cX11_line 3 none ∈ wsL_law := zr68 _ (List.mem_of_getElem? (i := 13) rfl)
theorem zw69_1 : Cond.methodLink RL 42 yX11_plan ∈ wsL_law := zr69 _ (List.mem_of_getElem? (i := 1) rfl)
theorem zw69_2 : Cond.instanceMethod yX11_plan ∈ wsL_law := zr69 _ (List.mem_of_getElem? (i := 2) rfl)
theorem zw69_3 : Cond.selects RX11 yX11_plan yX11_plan ∈ wsL_law := zr69 _ (List.mem_of_getElem? (i := 3) rfl)
theorem zw69_4 : Cond.code yX11_plan cX11_plan 4 (some .int) ∈ wsL_law := zr69 _ (List.mem_of_getElem? (i := 4) rfl)
theorem zw78_7 : Cond.classLink RL 50 "java/util/NoSuchElementException" ∈ wsL_law := zr78 _ (List.mem_of_getElem? (i := 7) rfl)
theorem zw78_8 : Cond.methodLink RL 46 yX11_text ∈ wsL_law := zr78 _ (List.mem_of_getElem? (i := 8) rfl)
theorem zw78_9 : Cond.instanceMethod yX11_text ∈ wsL_law := zr78 _ (List.mem_of_getElem? (i := 9) rfl)
theorem zw78_10 : Cond.selects RX11 yX11_text yX11_text ∈ wsL_law := zr78 _ (List.mem_of_getElem? (i := 10) rfl)
theorem zw78_11 : Cond.code yX11_text cX11_text 2 (some .long) ∈ wsL_law := zr78 _ (List.mem_of_getElem? (i := 11) rfl)
theorem zw79_2 : Cond.methodLink RL 52 yX11_stop ∈ wsL_law := zr79 _ (List.mem_of_getElem? (i := 2) rfl)
theorem zw79_3 : Cond.instanceMethod yX11_stop ∈ wsL_law := zr79 _ (List.mem_of_getElem? (i := 3) rfl)
theorem zw79_4 : Cond.selects RX11 yX11_stop yX11_stop ∈ wsL_law := zr79 _ (List.mem_of_getElem? (i := 4) rfl)
theorem zw79_5 : Cond.code yX11_stop cX11_stop 3 (some .int) ∈ wsL_law := zr79 _ (List.mem_of_getElem? (i := 5) rfl)
theorem zw82_15 : Cond.classLink RL 15 "java/lang/IllegalStateException" ∈ wsL_law := zr82 _ (List.mem_of_getElem? (i := 15) rfl)
theorem zw82_16 : Cond.methodLink RL 56 yX11_restore ∈ wsL_law := zr82 _ (List.mem_of_getElem? (i := 16) rfl)
theorem zw82_17 : Cond.instanceMethod yX11_restore ∈ wsL_law := zr82 _ (List.mem_of_getElem? (i := 17) rfl)
theorem zw82_18 : Cond.selects RX11 yX11_restore yX11_restore ∈ wsL_law := zr82 _ (List.mem_of_getElem? (i := 18) rfl)
theorem zw82_19 : Cond.code yX11_restore cX11_restore 1 none ∈ wsL_law := zr82 _ (List.mem_of_getElem? (i := 19) rfl)
theorem zw84_19 : Cond.methodLink RL 59 yX11_register ∈ wsL_law := zr84 _ (List.mem_of_getElem? (i := 19) rfl)
theorem zw84_20 : Cond.instanceMethod yX11_register ∈ wsL_law := zr84 _ (List.mem_of_getElem? (i := 20) rfl)
theorem zw84_21 : Cond.selects RX11 yX11_register yX11_register ∈ wsL_law := zr84 _ (List.mem_of_getElem? (i := 21) rfl)
theorem zw84_22 : Cond.code yX11_register cX11_register 2 (some .int) ∈ wsL_law := zr84 _ (List.mem_of_getElem? (i := 22) rfl)
theorem zw85_7 : Cond.methodLink RL 62 yX11_set ∈ wsL_law := zr85 _ (List.mem_of_getElem? (i := 7) rfl)
theorem zw85_8 : Cond.instanceMethod yX11_set ∈ wsL_law := zr85 _ (List.mem_of_getElem? (i := 8) rfl)
theorem zw85_9 : Cond.selects RX11 yX11_set yX11_set ∈ wsL_law := zr85 _ (List.mem_of_getElem? (i := 9) rfl)
theorem zw85_10 : Cond.code yX11_set cX11_set 3 none ∈ wsL_law := zr85 _ (List.mem_of_getElem? (i := 10) rfl)
theorem zw87_12 : Cond.methodLink RL 65 yX11_battery ∈ wsL_law := zr87 _ (List.mem_of_getElem? (i := 12) rfl)
theorem zw87_13 : Cond.instanceMethod yX11_battery ∈ wsL_law := zr87 _ (List.mem_of_getElem? (i := 13) rfl)
theorem zw87_14 : Cond.selects RX11 yX11_battery yX11_battery ∈ wsL_law := zr87 _ (List.mem_of_getElem? (i := 14) rfl)
theorem zw87_15 : Cond.code yX11_battery cX11_battery 2 (some .int) ∈ wsL_law := zr87 _ (List.mem_of_getElem? (i := 15) rfl)
theorem zw89_5 : Cond.methodLink RL 68 yX11_chip ∈ wsL_law := zr89 _ (List.mem_of_getElem? (i := 5) rfl)
theorem zw89_6 : Cond.instanceMethod yX11_chip ∈ wsL_law := zr89 _ (List.mem_of_getElem? (i := 6) rfl)
theorem zw89_7 : Cond.selects RX11 yX11_chip yX11_chip ∈ wsL_law := zr89 _ (List.mem_of_getElem? (i := 7) rfl)
theorem zw89_8 : Cond.code yX11_chip cX11_chip 2 (some .int) ∈ wsL_law := zr89 _ (List.mem_of_getElem? (i := 8) rfl)
theorem zw90_5 : Cond.methodLink RL 71 yX11_dot ∈ wsL_law := zr90 _ (List.mem_of_getElem? (i := 5) rfl)
theorem zw90_6 : Cond.instanceMethod yX11_dot ∈ wsL_law := zr90 _ (List.mem_of_getElem? (i := 6) rfl)
theorem zw90_7 : Cond.selects RX11 yX11_dot yX11_dot ∈ wsL_law := zr90 _ (List.mem_of_getElem? (i := 7) rfl)
theorem zw90_8 : Cond.code yX11_dot cX11_dot 3 (some .int) ∈ wsL_law := zr90 _ (List.mem_of_getElem? (i := 8) rfl)
theorem zw91_8 : Cond.methodLink RL 75 yX11_row ∈ wsL_law := zr91 _ (List.mem_of_getElem? (i := 8) rfl)
theorem zw91_9 : Cond.instanceMethod yX11_row ∈ wsL_law := zr91 _ (List.mem_of_getElem? (i := 9) rfl)
theorem zw91_10 : Cond.selects RX11 yX11_row yX11_row ∈ wsL_law := zr91 _ (List.mem_of_getElem? (i := 10) rfl)
theorem zw91_11 : Cond.code yX11_row cX11_row 2 (some .int) ∈ wsL_law := zr91 _ (List.mem_of_getElem? (i := 11) rfl)
theorem zw92_2 : Cond.methodLink RL 78 yX11_hear ∈ wsL_law := zr92 _ (List.mem_of_getElem? (i := 2) rfl)
theorem zw92_3 : Cond.instanceMethod yX11_hear ∈ wsL_law := zr92 _ (List.mem_of_getElem? (i := 3) rfl)
theorem zw92_4 : Cond.selects RX11 yX11_hear yX11_hear ∈ wsL_law := zr92 _ (List.mem_of_getElem? (i := 4) rfl)
theorem zw92_5 : Cond.code yX11_hear cX11_hear 1 (some .long) ∈ wsL_law := zr92 _ (List.mem_of_getElem? (i := 5) rfl)
theorem zw92_22 : Cond.methodLink RL 82 yX11_mix ∈ wsL_law := zr92 _ (List.mem_of_getElem? (i := 22) rfl)
theorem zw92_23 : Cond.instanceMethod yX11_mix ∈ wsL_law := zr92 _ (List.mem_of_getElem? (i := 23) rfl)
theorem zw93_0 : Cond.selects RX11 yX11_mix yX11_mix ∈ wsL_law := zr93 _ (List.mem_of_getElem? (i := 0) rfl)
theorem zw93_1 : Cond.code yX11_mix cX11_mix 1 (some .long) ∈ wsL_law := zr93 _ (List.mem_of_getElem? (i := 1) rfl)
theorem zw93_10 : Cond.methodLink RL 85 yX11_wave ∈ wsL_law := zr93 _ (List.mem_of_getElem? (i := 10) rfl)
theorem zw93_11 : Cond.instanceMethod yX11_wave ∈ wsL_law := zr93 _ (List.mem_of_getElem? (i := 11) rfl)
theorem zw93_12 : Cond.selects RX11 yX11_wave yX11_wave ∈ wsL_law := zr93 _ (List.mem_of_getElem? (i := 12) rfl)
theorem zw93_13 : Cond.code yX11_wave cX11_wave 2 (some .int) ∈ wsL_law := zr93 _ (List.mem_of_getElem? (i := 13) rfl)
theorem zw94_4 : Cond.methodLink RL 88 yX11_sound ∈ wsL_law := zr94 _ (List.mem_of_getElem? (i := 4) rfl)
theorem zw94_5 : Cond.instanceMethod yX11_sound ∈ wsL_law := zr94 _ (List.mem_of_getElem? (i := 5) rfl)
theorem zw94_6 : Cond.selects RX11 yX11_sound yX11_sound ∈ wsL_law := zr94 _ (List.mem_of_getElem? (i := 6) rfl)
theorem zw94_7 : Cond.code yX11_sound cX11_sound 2 (some .int) ∈ wsL_law := zr94 _ (List.mem_of_getElem? (i := 7) rfl)
theorem zw95_9 : Cond.methodLink RL 91 yX11_look ∈ wsL_law := zr95 _ (List.mem_of_getElem? (i := 9) rfl)
theorem zw95_10 : Cond.instanceMethod yX11_look ∈ wsL_law := zr95 _ (List.mem_of_getElem? (i := 10) rfl)
theorem zw95_11 : Cond.selects RX11 yX11_look yX11_look ∈ wsL_law := zr95 _ (List.mem_of_getElem? (i := 11) rfl)
theorem zw95_12 : Cond.code yX11_look cX11_look 2 (some .long) ∈ wsL_law := zr95 _ (List.mem_of_getElem? (i := 12) rfl)
noncomputable def rmL_feed : Room := { frames := 7, cells := 1, slots := 6, locals := 130 }
noncomputable def wzL_feed : List Cond := .codeWith yL_feed cL_feed 10 (some .int) [(0, 15, 18, 13), (0, 15, 22, 15)] :: wsL_law
noncomputable def kn_cL_feed : Nat := 0xac03ac05093aac04093a0b00a750850700b606160416201b2a030819
theorem zk_cL_feed : zkd cL_feed.data.toList kn_cL_feed = true := by decide +kernel
theorem zn_cL_feed : cL_feed.data.toList.length = 28 := by decide +kernel
theorem dL_feed_0 : decode cL_feed 0 = .ok (.aload 8, 2) := zo_25 (b1 := 8) (zkb2 zk_cL_feed zn_cL_feed rfl)
theorem dL_feed_2 : decode cL_feed 2 = .ok (.iconst 0, 1) := zo_3 (zkb zk_cL_feed zn_cL_feed rfl)
theorem dL_feed_3 : decode cL_feed 3 = .ok (.aload_n 0, 1) := zo_42 (zkb zk_cL_feed zn_cL_feed rfl)
theorem dL_feed_4 : decode cL_feed 4 = .ok (.iload_n 1, 1) := zo_27 (zkb zk_cL_feed zn_cL_feed rfl)
theorem dL_feed_5 : decode cL_feed 5 = .ok (.lload_n 2, 1) := zo_32 (zkb zk_cL_feed zn_cL_feed rfl)
theorem dL_feed_6 : decode cL_feed 6 = .ok (.lload 4, 2) := zo_22 (b1 := 4) (zkb2 zk_cL_feed zn_cL_feed rfl)
theorem dL_feed_8 : decode cL_feed 8 = .ok (.lload 6, 2) := zo_22 (b1 := 6) (zkb2 zk_cL_feed zn_cL_feed rfl)
theorem dL_feed_10 : decode cL_feed 10 = .ok (.invokevirtual 7, 3) := zo_182 (b1 := 0) (b2 := 7) (zkb3 zk_cL_feed zn_cL_feed rfl) rfl
theorem dL_feed_13 : decode cL_feed 13 = .ok (.i2l, 1) := zo_133 (zkb zk_cL_feed zn_cL_feed rfl)
theorem dL_feed_14 : decode cL_feed 14 = .ok (.lastore, 1) := zo_80 (zkb zk_cL_feed zn_cL_feed rfl)
theorem dL_feed_15 : decode cL_feed 15 = .ok (.goto 11, 3) := zo_167 (b1 := 0) (b2 := 11) (zkb3 zk_cL_feed zn_cL_feed rfl) rfl
theorem dL_feed_18 : decode cL_feed 18 = .ok (.astore 9, 2) := zo_58 (b1 := 9) (zkb2 zk_cL_feed zn_cL_feed rfl)
theorem dL_feed_20 : decode cL_feed 20 = .ok (.iconst 1, 1) := zo_4 (zkb zk_cL_feed zn_cL_feed rfl)
theorem dL_feed_21 : decode cL_feed 21 = .ok (.ireturn, 1) := zo_172 (zkb zk_cL_feed zn_cL_feed rfl)
theorem dL_feed_22 : decode cL_feed 22 = .ok (.astore 9, 2) := zo_58 (b1 := 9) (zkb2 zk_cL_feed zn_cL_feed rfl)
theorem dL_feed_24 : decode cL_feed 24 = .ok (.iconst 2, 1) := zo_5 (zkb zk_cL_feed zn_cL_feed rfl)
theorem dL_feed_25 : decode cL_feed 25 = .ok (.ireturn, 1) := zo_172 (zkb zk_cL_feed zn_cL_feed rfl)
theorem dL_feed_26 : decode cL_feed 26 = .ok (.iconst 0, 1) := zo_3 (zkb zk_cL_feed zn_cL_feed rfl)
theorem dL_feed_27 : decode cL_feed 27 = .ok (.ireturn, 1) := zo_172 (zkb zk_cL_feed zn_cL_feed rfl)
noncomputable def fL_feed (o : Nat → Int64) (σ : zSt) (x1 : Int32) (x2 : Int64) (x4 : Int64) (x6 : Int64) : Option (zHs × Int32) := zbr (fX11_feed σ x1 x2 x4 x6) (zhi o zh2)
set_option maxRecDepth 20000 in
theorem cL_feed_met (st : Nat → Nat) (l : Launch) (hst : l.stackTraces = false) (D : va_G) (ad : Nat → Nat) (cy : Nat → ClassId) (ao : Nat) (co : ClassId) (o : Nat → Int64) (σ : zSt) (x1 : Int32) (x2 : Int64) (x4 : Int64) (x6 : Int64) (res : zHs × Int32) (hf : fL_feed o σ x1 x2 x4 x6 = some res) (sz : Nat) : zH st l yL_feed wzL_feed rmL_feed [.ref (ad 0), .int x1, .long x2, .long x4, .long x6, .ref ao] D ((co, .long) :: tC cy) (fun x : zHs => zHo ao co x.1 ++ wC ad cy x.2) sz (o, σ) res := by
  obtain ⟨r, hr, hf⟩ := zbr_use hf
  refine zH.of (cc := cL_feed) (maxL := 10) (by decide) rfl (Nat.le_of_ble_eq_true rfl) (fun p e s m args below meth c hC hE A hI ls hl => ?_)
  have hx := hC.1
  have hb := hC.2.1
  have hK : va_K D vwCl (tC cy) s := hI.1.sub [1, 2, 3, 4, 5, 6, 7, 8, 9, 10, 11, 12, 13, 14, 15, 16, 17, 18, 19, 20, 21, 22, 23, 24, 25, 26, 27, 28, 29, 30, 31, 32, 33, 34, 35, 36, 37] rfl
  refine lv_aload hx hb dL_feed_0 (lv_at hl 5 rfl) ?_
  refine lv_iconst (v := 0) hx hb dL_feed_2 (by decide) ?_
  refine lv_aload_n hx hb dL_feed_3 rfl (lv_at hl 0 rfl) ?_
  refine lv_iload_n hx hb dL_feed_4 rfl (lv_at hl 1 rfl) ?_
  refine lv_lload_n hx hb dL_feed_5 rfl (lv_at hl 2 rfl) ?_
  refine lv_lload hx hb dL_feed_6 (lv_at hl 3 rfl) ?_
  refine lv_lload hx hb dL_feed_8 (lv_at hl 4 rfl) ?_
  refine z_hcalli (u := zHo ao co o) (w := wC ad cy) (As := [.int x1, .long x2, .long x4, .long x6]) (rest := [.int 0, .ref ao]) hC hI hK (cX11_feed_met st l hst D ad cy σ x1 x2 x4 x6 r hr) (zgV zw10_21 zw10_22 zw10_23 zw1_2 zw11_0) rfl ⟨rfl, rfl⟩ 4 hdX11_feed ⟨Nat.le_of_ble_eq_true rfl, Nat.le_of_ble_eq_true rfl⟩ rfl rfl (wC_e0 ad cy σ) rfl hl rfl (Nat.le_of_ble_eq_true rfl) dL_feed_10 ⟨Nat.le_of_ble_eq_true rfl, Nat.le_of_ble_eq_true rfl⟩ (fun k σ1 hq ce q9 H locs hI h1 h2 h3 => ?_) (fun v σ1 hq H locs hI => ?_)
  · subst hq
    by_cases c1 : k = 1
    · have hg := zh2_1 hf c1
      subst c1
      refine z_catch1 (x := ⟨0, 15, 18, 13⟩) (hp := 18) hC hI hE 1 rfl rfl (by decide) (List.mem_cons_of_mem _ zw10_20) h1 h2 h3 rfl ?_
      refine lv_astore hx hb dL_feed_18 hl (by decide) rfl (fun ls hl => ?_)
      refine lv_iconst (v := 1) hx hb dL_feed_20 (by decide) ?_
      exact z_hret (w := fun x : zHs => zHo ao co x.1 ++ wC ad cy x.2) (x := (o, σ1)) hC hI hg (Nat.le_of_ble_eq_true rfl) (Nat.le_of_ble_eq_true rfl) dL_feed_21
    · obtain ⟨c2, hg⟩ := zh2_2 hf c1
      subst c2
      refine z_catch2 (x := ⟨0, 15, 22, 15⟩) (x1 := ⟨0, 15, 18, 13⟩) (hp := 22) hC hI hE rfl (by decide) (List.mem_cons_of_mem _ zw10_20) rfl (by decide) (List.mem_cons_of_mem _ zw82_15) h1 h2 h3 rfl ?_
      refine lv_astore hx hb dL_feed_22 hl (by decide) rfl (fun ls hl => ?_)
      refine lv_iconst (v := 2) hx hb dL_feed_24 (by decide) ?_
      exact z_hret (w := fun x : zHs => zHo ao co x.1 ++ wC ad cy x.2) (x := (o, σ1)) hC hI hg (Nat.le_of_ble_eq_true rfl) (Nat.le_of_ble_eq_true rfl) dL_feed_25
  · subst hq
    refine lv_i2l hx hb dL_feed_13 rfl ?_
    refine z_last (w1 := zHo ao co (vp_updL o 0 v.toInt64) ++ wC ad cy σ1) hC hI 0 0 rfl rfl (by decide) rfl dL_feed_14 (fun H locs hI => ?_)
    refine lv_goto (tgt := 26) hx hb dL_feed_15 (by decide) ?_
    refine lv_iconst (v := 0) hx hb dL_feed_26 (by decide) ?_
    exact z_hret (w := fun x : zHs => zHo ao co x.1 ++ wC ad cy x.2) (x := (vp_updL o 0 v.toInt64, σ1)) hC hI (Option.some.inj hf) (Nat.le_of_ble_eq_true rfl) (Nat.le_of_ble_eq_true rfl) dL_feed_27
theorem hdL_feed : yL_feed.cls ≠ "java/lang/invoke/MethodHandle" ∧ yL_feed.cls ≠ "java/lang/invoke/VarHandle" ∧ (parseMethodDescriptor yL_feed.desc).map (fun d => d.parameters.length) = some 6 := by decide +kernel
noncomputable def rmL_grow : Room := { frames := 7, cells := 1, slots := 6, locals := 122 }
noncomputable def wzL_grow : List Cond := .codeWith yL_grow cL_grow 4 (some .int) [(0, 9, 12, 13), (0, 9, 15, 15)] :: wsL_law
noncomputable def kn_cL_grow : Nat := 0xac03ac054eac044e0900a750851100b61b2a032c
theorem zk_cL_grow : zkd cL_grow.data.toList kn_cL_grow = true := by decide +kernel
theorem zn_cL_grow : cL_grow.data.toList.length = 20 := by decide +kernel
theorem dL_grow_0 : decode cL_grow 0 = .ok (.aload_n 2, 1) := zo_44 (zkb zk_cL_grow zn_cL_grow rfl)
theorem dL_grow_1 : decode cL_grow 1 = .ok (.iconst 0, 1) := zo_3 (zkb zk_cL_grow zn_cL_grow rfl)
theorem dL_grow_2 : decode cL_grow 2 = .ok (.aload_n 0, 1) := zo_42 (zkb zk_cL_grow zn_cL_grow rfl)
theorem dL_grow_3 : decode cL_grow 3 = .ok (.iload_n 1, 1) := zo_27 (zkb zk_cL_grow zn_cL_grow rfl)
theorem dL_grow_4 : decode cL_grow 4 = .ok (.invokevirtual 17, 3) := zo_182 (b1 := 0) (b2 := 17) (zkb3 zk_cL_grow zn_cL_grow rfl) rfl
theorem dL_grow_7 : decode cL_grow 7 = .ok (.i2l, 1) := zo_133 (zkb zk_cL_grow zn_cL_grow rfl)
theorem dL_grow_8 : decode cL_grow 8 = .ok (.lastore, 1) := zo_80 (zkb zk_cL_grow zn_cL_grow rfl)
theorem dL_grow_9 : decode cL_grow 9 = .ok (.goto 9, 3) := zo_167 (b1 := 0) (b2 := 9) (zkb3 zk_cL_grow zn_cL_grow rfl) rfl
theorem dL_grow_12 : decode cL_grow 12 = .ok (.astore_n 3, 1) := zo_78 (zkb zk_cL_grow zn_cL_grow rfl)
theorem dL_grow_13 : decode cL_grow 13 = .ok (.iconst 1, 1) := zo_4 (zkb zk_cL_grow zn_cL_grow rfl)
theorem dL_grow_14 : decode cL_grow 14 = .ok (.ireturn, 1) := zo_172 (zkb zk_cL_grow zn_cL_grow rfl)
theorem dL_grow_15 : decode cL_grow 15 = .ok (.astore_n 3, 1) := zo_78 (zkb zk_cL_grow zn_cL_grow rfl)
theorem dL_grow_16 : decode cL_grow 16 = .ok (.iconst 2, 1) := zo_5 (zkb zk_cL_grow zn_cL_grow rfl)
theorem dL_grow_17 : decode cL_grow 17 = .ok (.ireturn, 1) := zo_172 (zkb zk_cL_grow zn_cL_grow rfl)
theorem dL_grow_18 : decode cL_grow 18 = .ok (.iconst 0, 1) := zo_3 (zkb zk_cL_grow zn_cL_grow rfl)
theorem dL_grow_19 : decode cL_grow 19 = .ok (.ireturn, 1) := zo_172 (zkb zk_cL_grow zn_cL_grow rfl)
noncomputable def fL_grow (o : Nat → Int64) (σ : zSt) (x1 : Int32) : Option (zHs × Int32) := zbr (fX11_grow σ x1) (zhi o zh2)
set_option maxRecDepth 20000 in
theorem cL_grow_met (st : Nat → Nat) (l : Launch) (hst : l.stackTraces = false) (D : va_G) (ad : Nat → Nat) (cy : Nat → ClassId) (ao : Nat) (co : ClassId) (o : Nat → Int64) (σ : zSt) (x1 : Int32) (res : zHs × Int32) (hf : fL_grow o σ x1 = some res) (sz : Nat) : zH st l yL_grow wzL_grow rmL_grow [.ref (ad 0), .int x1, .ref ao] D ((co, .long) :: tC cy) (fun x : zHs => zHo ao co x.1 ++ wC ad cy x.2) sz (o, σ) res := by
  obtain ⟨r, hr, hf⟩ := zbr_use hf
  refine zH.of (cc := cL_grow) (maxL := 4) (by decide) rfl (Nat.le_of_ble_eq_true rfl) (fun p e s m args below meth c hC hE A hI ls hl => ?_)
  have hx := hC.1
  have hb := hC.2.1
  have hK : va_K D vwCl (tC cy) s := hI.1.sub [1, 2, 3, 4, 5, 6, 7, 8, 9, 10, 11, 12, 13, 14, 15, 16, 17, 18, 19, 20, 21, 22, 23, 24, 25, 26, 27, 28, 29, 30, 31, 32, 33, 34, 35, 36, 37] rfl
  refine lv_aload_n hx hb dL_grow_0 rfl (lv_at hl 2 rfl) ?_
  refine lv_iconst (v := 0) hx hb dL_grow_1 (by decide) ?_
  refine lv_aload_n hx hb dL_grow_2 rfl (lv_at hl 0 rfl) ?_
  refine lv_iload_n hx hb dL_grow_3 rfl (lv_at hl 1 rfl) ?_
  refine z_hcalli (u := zHo ao co o) (w := wC ad cy) (As := [.int x1]) (rest := [.int 0, .ref ao]) hC hI hK (cX11_grow_met st l hst D ad cy σ x1 r hr) (zgV zw12_5 zw12_6 zw12_7 zw1_2 zw12_8) rfl ⟨rfl, rfl⟩ 1 hdX11_grow ⟨Nat.le_of_ble_eq_true rfl, Nat.le_of_ble_eq_true rfl⟩ rfl rfl (wC_e0 ad cy σ) rfl hl rfl (Nat.le_of_ble_eq_true rfl) dL_grow_4 ⟨Nat.le_of_ble_eq_true rfl, Nat.le_of_ble_eq_true rfl⟩ (fun k σ1 hq ce q9 H locs hI h1 h2 h3 => ?_) (fun v σ1 hq H locs hI => ?_)
  · subst hq
    by_cases c1 : k = 1
    · have hg := zh2_1 hf c1
      subst c1
      refine z_catch1 (x := ⟨0, 9, 12, 13⟩) (hp := 12) hC hI hE 1 rfl rfl (by decide) (List.mem_cons_of_mem _ zw10_20) h1 h2 h3 rfl ?_
      refine lv_astore_n hx hb dL_grow_12 rfl hl (by decide) rfl (fun ls hl => ?_)
      refine lv_iconst (v := 1) hx hb dL_grow_13 (by decide) ?_
      exact z_hret (w := fun x : zHs => zHo ao co x.1 ++ wC ad cy x.2) (x := (o, σ1)) hC hI hg (Nat.le_of_ble_eq_true rfl) (Nat.le_of_ble_eq_true rfl) dL_grow_14
    · obtain ⟨c2, hg⟩ := zh2_2 hf c1
      subst c2
      refine z_catch2 (x := ⟨0, 9, 15, 15⟩) (x1 := ⟨0, 9, 12, 13⟩) (hp := 15) hC hI hE rfl (by decide) (List.mem_cons_of_mem _ zw10_20) rfl (by decide) (List.mem_cons_of_mem _ zw82_15) h1 h2 h3 rfl ?_
      refine lv_astore_n hx hb dL_grow_15 rfl hl (by decide) rfl (fun ls hl => ?_)
      refine lv_iconst (v := 2) hx hb dL_grow_16 (by decide) ?_
      exact z_hret (w := fun x : zHs => zHo ao co x.1 ++ wC ad cy x.2) (x := (o, σ1)) hC hI hg (Nat.le_of_ble_eq_true rfl) (Nat.le_of_ble_eq_true rfl) dL_grow_17
  · subst hq
    refine lv_i2l hx hb dL_grow_7 rfl ?_
    refine z_last (w1 := zHo ao co (vp_updL o 0 v.toInt64) ++ wC ad cy σ1) hC hI 0 0 rfl rfl (by decide) rfl dL_grow_8 (fun H locs hI => ?_)
    refine lv_goto (tgt := 18) hx hb dL_grow_9 (by decide) ?_
    refine lv_iconst (v := 0) hx hb dL_grow_18 (by decide) ?_
    exact z_hret (w := fun x : zHs => zHo ao co x.1 ++ wC ad cy x.2) (x := (vp_updL o 0 v.toInt64, σ1)) hC hI (Option.some.inj hf) (Nat.le_of_ble_eq_true rfl) (Nat.le_of_ble_eq_true rfl) dL_grow_19
theorem hdL_grow : yL_grow.cls ≠ "java/lang/invoke/MethodHandle" ∧ yL_grow.cls ≠ "java/lang/invoke/VarHandle" ∧ (parseMethodDescriptor yL_grow.desc).map (fun d => d.parameters.length) = some 3 := by decide +kernel
noncomputable def rmL_patch : Room := { frames := 7, cells := 1, slots := 6, locals := 123 }
noncomputable def wzL_patch : List Cond := .codeWith yL_patch cL_patch 5 (some .int) [(0, 6, 9, 13)] :: wsL_law
noncomputable def kn_cL_patch : Nat := 0xac03ac04043a0700a71500b6201b2a
theorem zk_cL_patch : zkd cL_patch.data.toList kn_cL_patch = true := by decide +kernel
theorem zn_cL_patch : cL_patch.data.toList.length = 15 := by decide +kernel
theorem dL_patch_0 : decode cL_patch 0 = .ok (.aload_n 0, 1) := zo_42 (zkb zk_cL_patch zn_cL_patch rfl)
theorem dL_patch_1 : decode cL_patch 1 = .ok (.iload_n 1, 1) := zo_27 (zkb zk_cL_patch zn_cL_patch rfl)
theorem dL_patch_2 : decode cL_patch 2 = .ok (.lload_n 2, 1) := zo_32 (zkb zk_cL_patch zn_cL_patch rfl)
theorem dL_patch_3 : decode cL_patch 3 = .ok (.invokevirtual 21, 3) := zo_182 (b1 := 0) (b2 := 21) (zkb3 zk_cL_patch zn_cL_patch rfl) rfl
theorem dL_patch_6 : decode cL_patch 6 = .ok (.goto 7, 3) := zo_167 (b1 := 0) (b2 := 7) (zkb3 zk_cL_patch zn_cL_patch rfl) rfl
theorem dL_patch_9 : decode cL_patch 9 = .ok (.astore 4, 2) := zo_58 (b1 := 4) (zkb2 zk_cL_patch zn_cL_patch rfl)
theorem dL_patch_11 : decode cL_patch 11 = .ok (.iconst 1, 1) := zo_4 (zkb zk_cL_patch zn_cL_patch rfl)
theorem dL_patch_12 : decode cL_patch 12 = .ok (.ireturn, 1) := zo_172 (zkb zk_cL_patch zn_cL_patch rfl)
theorem dL_patch_13 : decode cL_patch 13 = .ok (.iconst 0, 1) := zo_3 (zkb zk_cL_patch zn_cL_patch rfl)
theorem dL_patch_14 : decode cL_patch 14 = .ok (.ireturn, 1) := zo_172 (zkb zk_cL_patch zn_cL_patch rfl)
noncomputable def fL_patch (σ : zSt) (x1 : Int32) (x2 : Int64) : Option (zSt × Int32) := zbr (fX11_patch σ x1 x2) (zhu (zh1 1))
set_option maxRecDepth 20000 in
theorem cL_patch_met (st : Nat → Nat) (l : Launch) (hst : l.stackTraces = false) (D : va_G) (ad : Nat → Nat) (cy : Nat → ClassId) (σ : zSt) (x1 : Int32) (x2 : Int64) (res : zSt × Int32) (hf : fL_patch σ x1 x2 = some res) (sz : Nat) : zH st l yL_patch wzL_patch rmL_patch [.ref (ad 0), .int x1, .long x2] D (tC cy) (wC ad cy) sz σ res := by
  obtain ⟨r, hr, hf⟩ := zbr_use hf
  refine zH.of (cc := cL_patch) (maxL := 5) (by decide) rfl (Nat.le_of_ble_eq_true rfl) (fun p e s m args below meth c hC hE A hI ls hl => ?_)
  have hx := hC.1
  have hb := hC.2.1
  have hK : va_K D vwCl (tC cy) s := hI.1
  refine lv_aload_n hx hb dL_patch_0 rfl (lv_at hl 0 rfl) ?_
  refine lv_iload_n hx hb dL_patch_1 rfl (lv_at hl 1 rfl) ?_
  refine lv_lload_n hx hb dL_patch_2 rfl (lv_at hl 2 rfl) ?_
  refine z_hcallu (u := ([] : va_W)) (w := wC ad cy) (As := [.int x1, .long x2]) (rest := []) hC hI hK (cX11_patch_met st l hst D ad cy σ x1 x2 r hr) (zgV zw13_3 zw13_4 zw13_5 zw1_2 zw13_6) rfl ⟨rfl, rfl⟩ 2 hdX11_patch ⟨Nat.le_of_ble_eq_true rfl, Nat.le_of_ble_eq_true rfl⟩ rfl rfl (wC_e0 ad cy σ) rfl hl rfl (Nat.le_of_ble_eq_true rfl) dL_patch_3 ⟨Nat.le_of_ble_eq_true rfl, Nat.le_of_ble_eq_true rfl⟩ (fun k σ1 hq ce q9 H locs hI h1 h2 h3 => ?_) (fun σ1 hq H locs hI => ?_)
  · subst hq
    obtain ⟨c1, hg⟩ := zh1_1 hf
    subst c1
    refine z_catch1 (x := ⟨0, 6, 9, 13⟩) (hp := 9) hC hI hE 1 rfl rfl (by decide) (List.mem_cons_of_mem _ zw10_20) h1 h2 h3 rfl ?_
    refine lv_astore hx hb dL_patch_9 hl (by decide) rfl (fun ls hl => ?_)
    refine lv_iconst (v := 1) hx hb dL_patch_11 (by decide) ?_
    exact z_hret (w := wC ad cy) (x := σ1) hC hI hg (Nat.le_of_ble_eq_true rfl) (Nat.le_of_ble_eq_true rfl) dL_patch_12
  · subst hq
    refine lv_goto (tgt := 13) hx hb dL_patch_6 (by decide) ?_
    refine lv_iconst (v := 0) hx hb dL_patch_13 (by decide) ?_
    exact z_hret (w := wC ad cy) (x := σ1) hC hI (Option.some.inj hf) (Nat.le_of_ble_eq_true rfl) (Nat.le_of_ble_eq_true rfl) dL_patch_14
theorem hdL_patch : yL_patch.cls ≠ "java/lang/invoke/MethodHandle" ∧ yL_patch.cls ≠ "java/lang/invoke/VarHandle" ∧ (parseMethodDescriptor yL_patch.desc).map (fun d => d.parameters.length) = some 3 := by decide +kernel
noncomputable def rmL_card : Room := { frames := 7, cells := 1, slots := 6, locals := 121 }
noncomputable def wzL_card : List Cond := .codeWith yL_card cL_card 4 (some .int) [(0, 9, 12, 13)] :: wsL_law
noncomputable def kn_cL_card : Nat := 0xac03ac044e0600a750851900b61b2a032c
theorem zk_cL_card : zkd cL_card.data.toList kn_cL_card = true := by decide +kernel
theorem zn_cL_card : cL_card.data.toList.length = 17 := by decide +kernel
theorem dL_card_0 : decode cL_card 0 = .ok (.aload_n 2, 1) := zo_44 (zkb zk_cL_card zn_cL_card rfl)
theorem dL_card_1 : decode cL_card 1 = .ok (.iconst 0, 1) := zo_3 (zkb zk_cL_card zn_cL_card rfl)
theorem dL_card_2 : decode cL_card 2 = .ok (.aload_n 0, 1) := zo_42 (zkb zk_cL_card zn_cL_card rfl)
theorem dL_card_3 : decode cL_card 3 = .ok (.iload_n 1, 1) := zo_27 (zkb zk_cL_card zn_cL_card rfl)
theorem dL_card_4 : decode cL_card 4 = .ok (.invokevirtual 25, 3) := zo_182 (b1 := 0) (b2 := 25) (zkb3 zk_cL_card zn_cL_card rfl) rfl
theorem dL_card_7 : decode cL_card 7 = .ok (.i2l, 1) := zo_133 (zkb zk_cL_card zn_cL_card rfl)
theorem dL_card_8 : decode cL_card 8 = .ok (.lastore, 1) := zo_80 (zkb zk_cL_card zn_cL_card rfl)
theorem dL_card_9 : decode cL_card 9 = .ok (.goto 6, 3) := zo_167 (b1 := 0) (b2 := 6) (zkb3 zk_cL_card zn_cL_card rfl) rfl
theorem dL_card_12 : decode cL_card 12 = .ok (.astore_n 3, 1) := zo_78 (zkb zk_cL_card zn_cL_card rfl)
theorem dL_card_13 : decode cL_card 13 = .ok (.iconst 1, 1) := zo_4 (zkb zk_cL_card zn_cL_card rfl)
theorem dL_card_14 : decode cL_card 14 = .ok (.ireturn, 1) := zo_172 (zkb zk_cL_card zn_cL_card rfl)
theorem dL_card_15 : decode cL_card 15 = .ok (.iconst 0, 1) := zo_3 (zkb zk_cL_card zn_cL_card rfl)
theorem dL_card_16 : decode cL_card 16 = .ok (.ireturn, 1) := zo_172 (zkb zk_cL_card zn_cL_card rfl)
noncomputable def fL_card (o : Nat → Int64) (σ : zSt) (x1 : Int32) : Option (zHs × Int32) := zbr (fX11_card σ x1) (zhi o (zh1 1))
set_option maxRecDepth 20000 in
theorem cL_card_met (st : Nat → Nat) (l : Launch) (hst : l.stackTraces = false) (D : va_G) (ad : Nat → Nat) (cy : Nat → ClassId) (ao : Nat) (co : ClassId) (o : Nat → Int64) (σ : zSt) (x1 : Int32) (res : zHs × Int32) (hf : fL_card o σ x1 = some res) (sz : Nat) : zH st l yL_card wzL_card rmL_card [.ref (ad 0), .int x1, .ref ao] D ((co, .long) :: tC cy) (fun x : zHs => zHo ao co x.1 ++ wC ad cy x.2) sz (o, σ) res := by
  obtain ⟨r, hr, hf⟩ := zbr_use hf
  refine zH.of (cc := cL_card) (maxL := 4) (by decide) rfl (Nat.le_of_ble_eq_true rfl) (fun p e s m args below meth c hC hE A hI ls hl => ?_)
  have hx := hC.1
  have hb := hC.2.1
  have hK : va_K D vwCl (tC cy) s := hI.1.sub [1, 2, 3, 4, 5, 6, 7, 8, 9, 10, 11, 12, 13, 14, 15, 16, 17, 18, 19, 20, 21, 22, 23, 24, 25, 26, 27, 28, 29, 30, 31, 32, 33, 34, 35, 36, 37] rfl
  refine lv_aload_n hx hb dL_card_0 rfl (lv_at hl 2 rfl) ?_
  refine lv_iconst (v := 0) hx hb dL_card_1 (by decide) ?_
  refine lv_aload_n hx hb dL_card_2 rfl (lv_at hl 0 rfl) ?_
  refine lv_iload_n hx hb dL_card_3 rfl (lv_at hl 1 rfl) ?_
  refine z_hcalli (u := zHo ao co o) (w := wC ad cy) (As := [.int x1]) (rest := [.int 0, .ref ao]) hC hI hK (cX11_card_met st l hst D ad cy σ x1 r hr) (zgV zw17_0 zw17_1 zw17_2 zw1_2 zw17_3) rfl ⟨rfl, rfl⟩ 1 hdX11_card ⟨Nat.le_of_ble_eq_true rfl, Nat.le_of_ble_eq_true rfl⟩ rfl rfl (wC_e0 ad cy σ) rfl hl rfl (Nat.le_of_ble_eq_true rfl) dL_card_4 ⟨Nat.le_of_ble_eq_true rfl, Nat.le_of_ble_eq_true rfl⟩ (fun k σ1 hq ce q9 H locs hI h1 h2 h3 => ?_) (fun v σ1 hq H locs hI => ?_)
  · subst hq
    obtain ⟨c1, hg⟩ := zh1_1 hf
    subst c1
    refine z_catch1 (x := ⟨0, 9, 12, 13⟩) (hp := 12) hC hI hE 1 rfl rfl (by decide) (List.mem_cons_of_mem _ zw10_20) h1 h2 h3 rfl ?_
    refine lv_astore_n hx hb dL_card_12 rfl hl (by decide) rfl (fun ls hl => ?_)
    refine lv_iconst (v := 1) hx hb dL_card_13 (by decide) ?_
    exact z_hret (w := fun x : zHs => zHo ao co x.1 ++ wC ad cy x.2) (x := (o, σ1)) hC hI hg (Nat.le_of_ble_eq_true rfl) (Nat.le_of_ble_eq_true rfl) dL_card_14
  · subst hq
    refine lv_i2l hx hb dL_card_7 rfl ?_
    refine z_last (w1 := zHo ao co (vp_updL o 0 v.toInt64) ++ wC ad cy σ1) hC hI 0 0 rfl rfl (by decide) rfl dL_card_8 (fun H locs hI => ?_)
    refine lv_goto (tgt := 15) hx hb dL_card_9 (by decide) ?_
    refine lv_iconst (v := 0) hx hb dL_card_15 (by decide) ?_
    exact z_hret (w := fun x : zHs => zHo ao co x.1 ++ wC ad cy x.2) (x := (vp_updL o 0 v.toInt64, σ1)) hC hI (Option.some.inj hf) (Nat.le_of_ble_eq_true rfl) (Nat.le_of_ble_eq_true rfl) dL_card_16
theorem hdL_card : yL_card.cls ≠ "java/lang/invoke/MethodHandle" ∧ yL_card.cls ≠ "java/lang/invoke/VarHandle" ∧ (parseMethodDescriptor yL_card.desc).map (fun d => d.parameters.length) = some 3 := by decide +kernel
noncomputable def rmL_step : Room := { frames := 8, cells := 1, slots := 6, locals := 195 }
noncomputable def wzL_step : List Cond := .codeWith yL_step cL_step 4 (some .int) [(0, 9, 12, 13)] :: wsL_law
noncomputable def kn_cL_step : Nat := 0xac03ac044e0600a750851c00b61b2a032c
theorem zk_cL_step : zkd cL_step.data.toList kn_cL_step = true := by decide +kernel
theorem zn_cL_step : cL_step.data.toList.length = 17 := by decide +kernel
theorem dL_step_0 : decode cL_step 0 = .ok (.aload_n 2, 1) := zo_44 (zkb zk_cL_step zn_cL_step rfl)
theorem dL_step_1 : decode cL_step 1 = .ok (.iconst 0, 1) := zo_3 (zkb zk_cL_step zn_cL_step rfl)
theorem dL_step_2 : decode cL_step 2 = .ok (.aload_n 0, 1) := zo_42 (zkb zk_cL_step zn_cL_step rfl)
theorem dL_step_3 : decode cL_step 3 = .ok (.iload_n 1, 1) := zo_27 (zkb zk_cL_step zn_cL_step rfl)
theorem dL_step_4 : decode cL_step 4 = .ok (.invokevirtual 28, 3) := zo_182 (b1 := 0) (b2 := 28) (zkb3 zk_cL_step zn_cL_step rfl) rfl
theorem dL_step_7 : decode cL_step 7 = .ok (.i2l, 1) := zo_133 (zkb zk_cL_step zn_cL_step rfl)
theorem dL_step_8 : decode cL_step 8 = .ok (.lastore, 1) := zo_80 (zkb zk_cL_step zn_cL_step rfl)
theorem dL_step_9 : decode cL_step 9 = .ok (.goto 6, 3) := zo_167 (b1 := 0) (b2 := 6) (zkb3 zk_cL_step zn_cL_step rfl) rfl
theorem dL_step_12 : decode cL_step 12 = .ok (.astore_n 3, 1) := zo_78 (zkb zk_cL_step zn_cL_step rfl)
theorem dL_step_13 : decode cL_step 13 = .ok (.iconst 1, 1) := zo_4 (zkb zk_cL_step zn_cL_step rfl)
theorem dL_step_14 : decode cL_step 14 = .ok (.ireturn, 1) := zo_172 (zkb zk_cL_step zn_cL_step rfl)
theorem dL_step_15 : decode cL_step 15 = .ok (.iconst 0, 1) := zo_3 (zkb zk_cL_step zn_cL_step rfl)
theorem dL_step_16 : decode cL_step 16 = .ok (.ireturn, 1) := zo_172 (zkb zk_cL_step zn_cL_step rfl)
noncomputable def fL_step (o : Nat → Int64) (σ : zSt) (x1 : Int32) : Option (zHs × Int32) := zbr (fX11_step σ x1) (zhi o (zh1 1))
set_option maxRecDepth 20000 in
theorem cL_step_met (st : Nat → Nat) (l : Launch) (hst : l.stackTraces = false) (D : va_G) (ad : Nat → Nat) (cy : Nat → ClassId) (ao : Nat) (co : ClassId) (o : Nat → Int64) (σ : zSt) (x1 : Int32) (res : zHs × Int32) (hf : fL_step o σ x1 = some res) (sz : Nat) : zH st l yL_step wzL_step rmL_step [.ref (ad 0), .int x1, .ref ao] D ((co, .long) :: tC cy) (fun x : zHs => zHo ao co x.1 ++ wC ad cy x.2) sz (o, σ) res := by
  obtain ⟨r, hr, hf⟩ := zbr_use hf
  refine zH.of (cc := cL_step) (maxL := 4) (by decide) rfl (Nat.le_of_ble_eq_true rfl) (fun p e s m args below meth c hC hE A hI ls hl => ?_)
  have hx := hC.1
  have hb := hC.2.1
  have hK : va_K D vwCl (tC cy) s := hI.1.sub [1, 2, 3, 4, 5, 6, 7, 8, 9, 10, 11, 12, 13, 14, 15, 16, 17, 18, 19, 20, 21, 22, 23, 24, 25, 26, 27, 28, 29, 30, 31, 32, 33, 34, 35, 36, 37] rfl
  refine lv_aload_n hx hb dL_step_0 rfl (lv_at hl 2 rfl) ?_
  refine lv_iconst (v := 0) hx hb dL_step_1 (by decide) ?_
  refine lv_aload_n hx hb dL_step_2 rfl (lv_at hl 0 rfl) ?_
  refine lv_iload_n hx hb dL_step_3 rfl (lv_at hl 1 rfl) ?_
  refine z_hcalli (u := zHo ao co o) (w := wC ad cy) (As := [.int x1]) (rest := [.int 0, .ref ao]) hC hI hK (cX11_step_met st l hst D ad cy σ x1 r hr) (zgV zw18_5 zw18_6 zw18_7 zw1_2 zw18_8) rfl ⟨rfl, rfl⟩ 1 hdX11_step ⟨Nat.le_of_ble_eq_true rfl, Nat.le_of_ble_eq_true rfl⟩ rfl rfl (wC_e0 ad cy σ) rfl hl rfl (Nat.le_of_ble_eq_true rfl) dL_step_4 ⟨Nat.le_of_ble_eq_true rfl, Nat.le_of_ble_eq_true rfl⟩ (fun k σ1 hq ce q9 H locs hI h1 h2 h3 => ?_) (fun v σ1 hq H locs hI => ?_)
  · subst hq
    obtain ⟨c1, hg⟩ := zh1_1 hf
    subst c1
    refine z_catch1 (x := ⟨0, 9, 12, 13⟩) (hp := 12) hC hI hE 1 rfl rfl (by decide) (List.mem_cons_of_mem _ zw10_20) h1 h2 h3 rfl ?_
    refine lv_astore_n hx hb dL_step_12 rfl hl (by decide) rfl (fun ls hl => ?_)
    refine lv_iconst (v := 1) hx hb dL_step_13 (by decide) ?_
    exact z_hret (w := fun x : zHs => zHo ao co x.1 ++ wC ad cy x.2) (x := (o, σ1)) hC hI hg (Nat.le_of_ble_eq_true rfl) (Nat.le_of_ble_eq_true rfl) dL_step_14
  · subst hq
    refine lv_i2l hx hb dL_step_7 rfl ?_
    refine z_last (w1 := zHo ao co (vp_updL o 0 v.toInt64) ++ wC ad cy σ1) hC hI 0 0 rfl rfl (by decide) rfl dL_step_8 (fun H locs hI => ?_)
    refine lv_goto (tgt := 15) hx hb dL_step_9 (by decide) ?_
    refine lv_iconst (v := 0) hx hb dL_step_15 (by decide) ?_
    exact z_hret (w := fun x : zHs => zHo ao co x.1 ++ wC ad cy x.2) (x := (vp_updL o 0 v.toInt64, σ1)) hC hI (Option.some.inj hf) (Nat.le_of_ble_eq_true rfl) (Nat.le_of_ble_eq_true rfl) dL_step_16
theorem hdL_step : yL_step.cls ≠ "java/lang/invoke/MethodHandle" ∧ yL_step.cls ≠ "java/lang/invoke/VarHandle" ∧ (parseMethodDescriptor yL_step.desc).map (fun d => d.parameters.length) = some 3 := by decide +kernel
noncomputable def rmL_picture : Room := { frames := 8, cells := 1, slots := 6, locals := 195 }
noncomputable def wzL_picture : List Cond := .codeWith yL_picture cL_picture 4 (some .int) [(0, 9, 12, 13)] :: wsL_law
noncomputable def kn_cL_picture : Nat := 0xac03ac044e0600a750851f00b61b2a032c
theorem zk_cL_picture : zkd cL_picture.data.toList kn_cL_picture = true := by decide +kernel
theorem zn_cL_picture : cL_picture.data.toList.length = 17 := by decide +kernel
theorem dL_picture_0 : decode cL_picture 0 = .ok (.aload_n 2, 1) := zo_44 (zkb zk_cL_picture zn_cL_picture rfl)
theorem dL_picture_1 : decode cL_picture 1 = .ok (.iconst 0, 1) := zo_3 (zkb zk_cL_picture zn_cL_picture rfl)
theorem dL_picture_2 : decode cL_picture 2 = .ok (.aload_n 0, 1) := zo_42 (zkb zk_cL_picture zn_cL_picture rfl)
theorem dL_picture_3 : decode cL_picture 3 = .ok (.iload_n 1, 1) := zo_27 (zkb zk_cL_picture zn_cL_picture rfl)
theorem dL_picture_4 : decode cL_picture 4 = .ok (.invokevirtual 31, 3) := zo_182 (b1 := 0) (b2 := 31) (zkb3 zk_cL_picture zn_cL_picture rfl) rfl
theorem dL_picture_7 : decode cL_picture 7 = .ok (.i2l, 1) := zo_133 (zkb zk_cL_picture zn_cL_picture rfl)
theorem dL_picture_8 : decode cL_picture 8 = .ok (.lastore, 1) := zo_80 (zkb zk_cL_picture zn_cL_picture rfl)
theorem dL_picture_9 : decode cL_picture 9 = .ok (.goto 6, 3) := zo_167 (b1 := 0) (b2 := 6) (zkb3 zk_cL_picture zn_cL_picture rfl) rfl
theorem dL_picture_12 : decode cL_picture 12 = .ok (.astore_n 3, 1) := zo_78 (zkb zk_cL_picture zn_cL_picture rfl)
theorem dL_picture_13 : decode cL_picture 13 = .ok (.iconst 1, 1) := zo_4 (zkb zk_cL_picture zn_cL_picture rfl)
theorem dL_picture_14 : decode cL_picture 14 = .ok (.ireturn, 1) := zo_172 (zkb zk_cL_picture zn_cL_picture rfl)
theorem dL_picture_15 : decode cL_picture 15 = .ok (.iconst 0, 1) := zo_3 (zkb zk_cL_picture zn_cL_picture rfl)
theorem dL_picture_16 : decode cL_picture 16 = .ok (.ireturn, 1) := zo_172 (zkb zk_cL_picture zn_cL_picture rfl)
noncomputable def fL_picture (o : Nat → Int64) (σ : zSt) (x1 : Int32) : Option (zHs × Int32) := zbr (fX11_picture σ x1) (zhi o (zh1 1))
set_option maxRecDepth 20000 in
theorem cL_picture_met (st : Nat → Nat) (l : Launch) (hst : l.stackTraces = false) (D : va_G) (ad : Nat → Nat) (cy : Nat → ClassId) (ao : Nat) (co : ClassId) (o : Nat → Int64) (σ : zSt) (x1 : Int32) (res : zHs × Int32) (hf : fL_picture o σ x1 = some res) (sz : Nat) : zH st l yL_picture wzL_picture rmL_picture [.ref (ad 0), .int x1, .ref ao] D ((co, .long) :: tC cy) (fun x : zHs => zHo ao co x.1 ++ wC ad cy x.2) sz (o, σ) res := by
  obtain ⟨r, hr, hf⟩ := zbr_use hf
  refine zH.of (cc := cL_picture) (maxL := 4) (by decide) rfl (Nat.le_of_ble_eq_true rfl) (fun p e s m args below meth c hC hE A hI ls hl => ?_)
  have hx := hC.1
  have hb := hC.2.1
  have hK : va_K D vwCl (tC cy) s := hI.1.sub [1, 2, 3, 4, 5, 6, 7, 8, 9, 10, 11, 12, 13, 14, 15, 16, 17, 18, 19, 20, 21, 22, 23, 24, 25, 26, 27, 28, 29, 30, 31, 32, 33, 34, 35, 36, 37] rfl
  refine lv_aload_n hx hb dL_picture_0 rfl (lv_at hl 2 rfl) ?_
  refine lv_iconst (v := 0) hx hb dL_picture_1 (by decide) ?_
  refine lv_aload_n hx hb dL_picture_2 rfl (lv_at hl 0 rfl) ?_
  refine lv_iload_n hx hb dL_picture_3 rfl (lv_at hl 1 rfl) ?_
  refine z_hcalli (u := zHo ao co o) (w := wC ad cy) (As := [.int x1]) (rest := [.int 0, .ref ao]) hC hI hK (cX11_picture_met st l hst D ad cy σ x1 r hr) (zgV zw65_21 zw65_22 zw65_23 zw1_2 zw66_0) rfl ⟨rfl, rfl⟩ 1 hdX11_picture ⟨Nat.le_of_ble_eq_true rfl, Nat.le_of_ble_eq_true rfl⟩ rfl rfl (wC_e0 ad cy σ) rfl hl rfl (Nat.le_of_ble_eq_true rfl) dL_picture_4 ⟨Nat.le_of_ble_eq_true rfl, Nat.le_of_ble_eq_true rfl⟩ (fun k σ1 hq ce q9 H locs hI h1 h2 h3 => ?_) (fun v σ1 hq H locs hI => ?_)
  · subst hq
    obtain ⟨c1, hg⟩ := zh1_1 hf
    subst c1
    refine z_catch1 (x := ⟨0, 9, 12, 13⟩) (hp := 12) hC hI hE 1 rfl rfl (by decide) (List.mem_cons_of_mem _ zw10_20) h1 h2 h3 rfl ?_
    refine lv_astore_n hx hb dL_picture_12 rfl hl (by decide) rfl (fun ls hl => ?_)
    refine lv_iconst (v := 1) hx hb dL_picture_13 (by decide) ?_
    exact z_hret (w := fun x : zHs => zHo ao co x.1 ++ wC ad cy x.2) (x := (o, σ1)) hC hI hg (Nat.le_of_ble_eq_true rfl) (Nat.le_of_ble_eq_true rfl) dL_picture_14
  · subst hq
    refine lv_i2l hx hb dL_picture_7 rfl ?_
    refine z_last (w1 := zHo ao co (vp_updL o 0 v.toInt64) ++ wC ad cy σ1) hC hI 0 0 rfl rfl (by decide) rfl dL_picture_8 (fun H locs hI => ?_)
    refine lv_goto (tgt := 15) hx hb dL_picture_9 (by decide) ?_
    refine lv_iconst (v := 0) hx hb dL_picture_15 (by decide) ?_
    exact z_hret (w := fun x : zHs => zHo ao co x.1 ++ wC ad cy x.2) (x := (vp_updL o 0 v.toInt64, σ1)) hC hI (Option.some.inj hf) (Nat.le_of_ble_eq_true rfl) (Nat.le_of_ble_eq_true rfl) dL_picture_16
theorem hdL_picture : yL_picture.cls ≠ "java/lang/invoke/MethodHandle" ∧ yL_picture.cls ≠ "java/lang/invoke/VarHandle" ∧ (parseMethodDescriptor yL_picture.desc).map (fun d => d.parameters.length) = some 3 := by decide +kernel
noncomputable def rmL_press : Room := { frames := 7, cells := 1, slots := 6, locals := 122 }
noncomputable def wzL_press : List Cond := .codeWith yL_press cL_press 4 (some .int) [(0, 6, 9, 13)] :: wsL_law
noncomputable def kn_cL_press : Nat := 0xac03ac044e0600a72200b61c1b2a
theorem zk_cL_press : zkd cL_press.data.toList kn_cL_press = true := by decide +kernel
theorem zn_cL_press : cL_press.data.toList.length = 14 := by decide +kernel
theorem dL_press_0 : decode cL_press 0 = .ok (.aload_n 0, 1) := zo_42 (zkb zk_cL_press zn_cL_press rfl)
theorem dL_press_1 : decode cL_press 1 = .ok (.iload_n 1, 1) := zo_27 (zkb zk_cL_press zn_cL_press rfl)
theorem dL_press_2 : decode cL_press 2 = .ok (.iload_n 2, 1) := zo_28 (zkb zk_cL_press zn_cL_press rfl)
theorem dL_press_3 : decode cL_press 3 = .ok (.invokevirtual 34, 3) := zo_182 (b1 := 0) (b2 := 34) (zkb3 zk_cL_press zn_cL_press rfl) rfl
theorem dL_press_6 : decode cL_press 6 = .ok (.goto 6, 3) := zo_167 (b1 := 0) (b2 := 6) (zkb3 zk_cL_press zn_cL_press rfl) rfl
theorem dL_press_9 : decode cL_press 9 = .ok (.astore_n 3, 1) := zo_78 (zkb zk_cL_press zn_cL_press rfl)
theorem dL_press_10 : decode cL_press 10 = .ok (.iconst 1, 1) := zo_4 (zkb zk_cL_press zn_cL_press rfl)
theorem dL_press_11 : decode cL_press 11 = .ok (.ireturn, 1) := zo_172 (zkb zk_cL_press zn_cL_press rfl)
theorem dL_press_12 : decode cL_press 12 = .ok (.iconst 0, 1) := zo_3 (zkb zk_cL_press zn_cL_press rfl)
theorem dL_press_13 : decode cL_press 13 = .ok (.ireturn, 1) := zo_172 (zkb zk_cL_press zn_cL_press rfl)
noncomputable def fL_press (σ : zSt) (x1 : Int32) (x2 : Int32) : Option (zSt × Int32) := zbr (fX11_press σ x1 x2) (zhu (zh1 1))
set_option maxRecDepth 20000 in
theorem cL_press_met (st : Nat → Nat) (l : Launch) (hst : l.stackTraces = false) (D : va_G) (ad : Nat → Nat) (cy : Nat → ClassId) (σ : zSt) (x1 : Int32) (x2 : Int32) (res : zSt × Int32) (hf : fL_press σ x1 x2 = some res) (sz : Nat) : zH st l yL_press wzL_press rmL_press [.ref (ad 0), .int x1, .int x2] D (tC cy) (wC ad cy) sz σ res := by
  obtain ⟨r, hr, hf⟩ := zbr_use hf
  refine zH.of (cc := cL_press) (maxL := 4) (by decide) rfl (Nat.le_of_ble_eq_true rfl) (fun p e s m args below meth c hC hE A hI ls hl => ?_)
  have hx := hC.1
  have hb := hC.2.1
  have hK : va_K D vwCl (tC cy) s := hI.1
  refine lv_aload_n hx hb dL_press_0 rfl (lv_at hl 0 rfl) ?_
  refine lv_iload_n hx hb dL_press_1 rfl (lv_at hl 1 rfl) ?_
  refine lv_iload_n hx hb dL_press_2 rfl (lv_at hl 2 rfl) ?_
  refine z_hcallu (u := ([] : va_W)) (w := wC ad cy) (As := [.int x1, .int x2]) (rest := []) hC hI hK (cX11_press_met st l hst D ad cy σ x1 x2 r hr) (zgV zw67_6 zw67_7 zw67_8 zw1_2 zw67_9) rfl ⟨rfl, rfl⟩ 2 hdX11_press ⟨Nat.le_of_ble_eq_true rfl, Nat.le_of_ble_eq_true rfl⟩ rfl rfl (wC_e0 ad cy σ) rfl hl rfl (Nat.le_of_ble_eq_true rfl) dL_press_3 ⟨Nat.le_of_ble_eq_true rfl, Nat.le_of_ble_eq_true rfl⟩ (fun k σ1 hq ce q9 H locs hI h1 h2 h3 => ?_) (fun σ1 hq H locs hI => ?_)
  · subst hq
    obtain ⟨c1, hg⟩ := zh1_1 hf
    subst c1
    refine z_catch1 (x := ⟨0, 6, 9, 13⟩) (hp := 9) hC hI hE 1 rfl rfl (by decide) (List.mem_cons_of_mem _ zw10_20) h1 h2 h3 rfl ?_
    refine lv_astore_n hx hb dL_press_9 rfl hl (by decide) rfl (fun ls hl => ?_)
    refine lv_iconst (v := 1) hx hb dL_press_10 (by decide) ?_
    exact z_hret (w := wC ad cy) (x := σ1) hC hI hg (Nat.le_of_ble_eq_true rfl) (Nat.le_of_ble_eq_true rfl) dL_press_11
  · subst hq
    refine lv_goto (tgt := 12) hx hb dL_press_6 (by decide) ?_
    refine lv_iconst (v := 0) hx hb dL_press_12 (by decide) ?_
    exact z_hret (w := wC ad cy) (x := σ1) hC hI (Option.some.inj hf) (Nat.le_of_ble_eq_true rfl) (Nat.le_of_ble_eq_true rfl) dL_press_13
theorem hdL_press : yL_press.cls ≠ "java/lang/invoke/MethodHandle" ∧ yL_press.cls ≠ "java/lang/invoke/VarHandle" ∧ (parseMethodDescriptor yL_press.desc).map (fun d => d.parameters.length) = some 3 := by decide +kernel
noncomputable def rmL_line : Room := { frames := 7, cells := 1, slots := 6, locals := 122 }
noncomputable def wzL_line : List Cond := .codeWith yL_line cL_line 4 (some .int) [(0, 6, 9, 13)] :: wsL_law
noncomputable def kn_cL_line : Nat := 0xac03ac044e0600a72600b61c1b2a
theorem zk_cL_line : zkd cL_line.data.toList kn_cL_line = true := by decide +kernel
theorem zn_cL_line : cL_line.data.toList.length = 14 := by decide +kernel
theorem dL_line_0 : decode cL_line 0 = .ok (.aload_n 0, 1) := zo_42 (zkb zk_cL_line zn_cL_line rfl)
theorem dL_line_1 : decode cL_line 1 = .ok (.iload_n 1, 1) := zo_27 (zkb zk_cL_line zn_cL_line rfl)
theorem dL_line_2 : decode cL_line 2 = .ok (.iload_n 2, 1) := zo_28 (zkb zk_cL_line zn_cL_line rfl)
theorem dL_line_3 : decode cL_line 3 = .ok (.invokevirtual 38, 3) := zo_182 (b1 := 0) (b2 := 38) (zkb3 zk_cL_line zn_cL_line rfl) rfl
theorem dL_line_6 : decode cL_line 6 = .ok (.goto 6, 3) := zo_167 (b1 := 0) (b2 := 6) (zkb3 zk_cL_line zn_cL_line rfl) rfl
theorem dL_line_9 : decode cL_line 9 = .ok (.astore_n 3, 1) := zo_78 (zkb zk_cL_line zn_cL_line rfl)
theorem dL_line_10 : decode cL_line 10 = .ok (.iconst 1, 1) := zo_4 (zkb zk_cL_line zn_cL_line rfl)
theorem dL_line_11 : decode cL_line 11 = .ok (.ireturn, 1) := zo_172 (zkb zk_cL_line zn_cL_line rfl)
theorem dL_line_12 : decode cL_line 12 = .ok (.iconst 0, 1) := zo_3 (zkb zk_cL_line zn_cL_line rfl)
theorem dL_line_13 : decode cL_line 13 = .ok (.ireturn, 1) := zo_172 (zkb zk_cL_line zn_cL_line rfl)
noncomputable def fL_line (σ : zSt) (x1 : Int32) (x2 : Int32) : Option (zSt × Int32) := zbr (fX11_line σ x1 x2) (zhu (zh1 1))
set_option maxRecDepth 20000 in
theorem cL_line_met (st : Nat → Nat) (l : Launch) (hst : l.stackTraces = false) (D : va_G) (ad : Nat → Nat) (cy : Nat → ClassId) (σ : zSt) (x1 : Int32) (x2 : Int32) (res : zSt × Int32) (hf : fL_line σ x1 x2 = some res) (sz : Nat) : zH st l yL_line wzL_line rmL_line [.ref (ad 0), .int x1, .int x2] D (tC cy) (wC ad cy) sz σ res := by
  obtain ⟨r, hr, hf⟩ := zbr_use hf
  refine zH.of (cc := cL_line) (maxL := 4) (by decide) rfl (Nat.le_of_ble_eq_true rfl) (fun p e s m args below meth c hC hE A hI ls hl => ?_)
  have hx := hC.1
  have hb := hC.2.1
  have hK : va_K D vwCl (tC cy) s := hI.1
  refine lv_aload_n hx hb dL_line_0 rfl (lv_at hl 0 rfl) ?_
  refine lv_iload_n hx hb dL_line_1 rfl (lv_at hl 1 rfl) ?_
  refine lv_iload_n hx hb dL_line_2 rfl (lv_at hl 2 rfl) ?_
  refine z_hcallu (u := ([] : va_W)) (w := wC ad cy) (As := [.int x1, .int x2]) (rest := []) hC hI hK (cX11_line_met st l hst D ad cy σ x1 x2 r hr) (zgV zw68_10 zw68_11 zw68_12 zw1_2 zw68_13) rfl ⟨rfl, rfl⟩ 2 hdX11_line ⟨Nat.le_of_ble_eq_true rfl, Nat.le_of_ble_eq_true rfl⟩ rfl rfl (wC_e0 ad cy σ) rfl hl rfl (Nat.le_of_ble_eq_true rfl) dL_line_3 ⟨Nat.le_of_ble_eq_true rfl, Nat.le_of_ble_eq_true rfl⟩ (fun k σ1 hq ce q9 H locs hI h1 h2 h3 => ?_) (fun σ1 hq H locs hI => ?_)
  · subst hq
    obtain ⟨c1, hg⟩ := zh1_1 hf
    subst c1
    refine z_catch1 (x := ⟨0, 6, 9, 13⟩) (hp := 9) hC hI hE 1 rfl rfl (by decide) (List.mem_cons_of_mem _ zw10_20) h1 h2 h3 rfl ?_
    refine lv_astore_n hx hb dL_line_9 rfl hl (by decide) rfl (fun ls hl => ?_)
    refine lv_iconst (v := 1) hx hb dL_line_10 (by decide) ?_
    exact z_hret (w := wC ad cy) (x := σ1) hC hI hg (Nat.le_of_ble_eq_true rfl) (Nat.le_of_ble_eq_true rfl) dL_line_11
  · subst hq
    refine lv_goto (tgt := 12) hx hb dL_line_6 (by decide) ?_
    refine lv_iconst (v := 0) hx hb dL_line_12 (by decide) ?_
    exact z_hret (w := wC ad cy) (x := σ1) hC hI (Option.some.inj hf) (Nat.le_of_ble_eq_true rfl) (Nat.le_of_ble_eq_true rfl) dL_line_13
theorem hdL_line : yL_line.cls ≠ "java/lang/invoke/MethodHandle" ∧ yL_line.cls ≠ "java/lang/invoke/VarHandle" ∧ (parseMethodDescriptor yL_line.desc).map (fun d => d.parameters.length) = some 3 := by decide +kernel
noncomputable def rmL_plan : Room := { frames := 7, cells := 1, slots := 6, locals := 123 }
noncomputable def wzL_plan : List Cond := .codeWith yL_plan cL_plan 6 (some .int) [(0, 12, 15, 13), (0, 12, 19, 15)] :: wsL_law
noncomputable def kn_cL_plan : Nat := 0xac03ac05053aac04053a0b00a750852a00b61d1c1b2a030419
theorem zk_cL_plan : zkd cL_plan.data.toList kn_cL_plan = true := by decide +kernel
theorem zn_cL_plan : cL_plan.data.toList.length = 25 := by decide +kernel
theorem dL_plan_0 : decode cL_plan 0 = .ok (.aload 4, 2) := zo_25 (b1 := 4) (zkb2 zk_cL_plan zn_cL_plan rfl)
theorem dL_plan_2 : decode cL_plan 2 = .ok (.iconst 0, 1) := zo_3 (zkb zk_cL_plan zn_cL_plan rfl)
theorem dL_plan_3 : decode cL_plan 3 = .ok (.aload_n 0, 1) := zo_42 (zkb zk_cL_plan zn_cL_plan rfl)
theorem dL_plan_4 : decode cL_plan 4 = .ok (.iload_n 1, 1) := zo_27 (zkb zk_cL_plan zn_cL_plan rfl)
theorem dL_plan_5 : decode cL_plan 5 = .ok (.iload_n 2, 1) := zo_28 (zkb zk_cL_plan zn_cL_plan rfl)
theorem dL_plan_6 : decode cL_plan 6 = .ok (.iload_n 3, 1) := zo_29 (zkb zk_cL_plan zn_cL_plan rfl)
theorem dL_plan_7 : decode cL_plan 7 = .ok (.invokevirtual 42, 3) := zo_182 (b1 := 0) (b2 := 42) (zkb3 zk_cL_plan zn_cL_plan rfl) rfl
theorem dL_plan_10 : decode cL_plan 10 = .ok (.i2l, 1) := zo_133 (zkb zk_cL_plan zn_cL_plan rfl)
theorem dL_plan_11 : decode cL_plan 11 = .ok (.lastore, 1) := zo_80 (zkb zk_cL_plan zn_cL_plan rfl)
theorem dL_plan_12 : decode cL_plan 12 = .ok (.goto 11, 3) := zo_167 (b1 := 0) (b2 := 11) (zkb3 zk_cL_plan zn_cL_plan rfl) rfl
theorem dL_plan_15 : decode cL_plan 15 = .ok (.astore 5, 2) := zo_58 (b1 := 5) (zkb2 zk_cL_plan zn_cL_plan rfl)
theorem dL_plan_17 : decode cL_plan 17 = .ok (.iconst 1, 1) := zo_4 (zkb zk_cL_plan zn_cL_plan rfl)
theorem dL_plan_18 : decode cL_plan 18 = .ok (.ireturn, 1) := zo_172 (zkb zk_cL_plan zn_cL_plan rfl)
theorem dL_plan_19 : decode cL_plan 19 = .ok (.astore 5, 2) := zo_58 (b1 := 5) (zkb2 zk_cL_plan zn_cL_plan rfl)
theorem dL_plan_21 : decode cL_plan 21 = .ok (.iconst 2, 1) := zo_5 (zkb zk_cL_plan zn_cL_plan rfl)
theorem dL_plan_22 : decode cL_plan 22 = .ok (.ireturn, 1) := zo_172 (zkb zk_cL_plan zn_cL_plan rfl)
theorem dL_plan_23 : decode cL_plan 23 = .ok (.iconst 0, 1) := zo_3 (zkb zk_cL_plan zn_cL_plan rfl)
theorem dL_plan_24 : decode cL_plan 24 = .ok (.ireturn, 1) := zo_172 (zkb zk_cL_plan zn_cL_plan rfl)
noncomputable def fL_plan (o : Nat → Int64) (σ : zSt) (x1 : Int32) (x2 : Int32) (x3 : Int32) : Option (zHs × Int32) := zbr (fX11_plan σ x1 x2 x3) (zhi o zh2)
set_option maxRecDepth 20000 in
theorem cL_plan_met (st : Nat → Nat) (l : Launch) (hst : l.stackTraces = false) (D : va_G) (ad : Nat → Nat) (cy : Nat → ClassId) (ao : Nat) (co : ClassId) (o : Nat → Int64) (σ : zSt) (x1 : Int32) (x2 : Int32) (x3 : Int32) (res : zHs × Int32) (hf : fL_plan o σ x1 x2 x3 = some res) (sz : Nat) : zH st l yL_plan wzL_plan rmL_plan [.ref (ad 0), .int x1, .int x2, .int x3, .ref ao] D ((co, .long) :: tC cy) (fun x : zHs => zHo ao co x.1 ++ wC ad cy x.2) sz (o, σ) res := by
  obtain ⟨r, hr, hf⟩ := zbr_use hf
  refine zH.of (cc := cL_plan) (maxL := 6) (by decide) rfl (Nat.le_of_ble_eq_true rfl) (fun p e s m args below meth c hC hE A hI ls hl => ?_)
  have hx := hC.1
  have hb := hC.2.1
  have hK : va_K D vwCl (tC cy) s := hI.1.sub [1, 2, 3, 4, 5, 6, 7, 8, 9, 10, 11, 12, 13, 14, 15, 16, 17, 18, 19, 20, 21, 22, 23, 24, 25, 26, 27, 28, 29, 30, 31, 32, 33, 34, 35, 36, 37] rfl
  refine lv_aload hx hb dL_plan_0 (lv_at hl 4 rfl) ?_
  refine lv_iconst (v := 0) hx hb dL_plan_2 (by decide) ?_
  refine lv_aload_n hx hb dL_plan_3 rfl (lv_at hl 0 rfl) ?_
  refine lv_iload_n hx hb dL_plan_4 rfl (lv_at hl 1 rfl) ?_
  refine lv_iload_n hx hb dL_plan_5 rfl (lv_at hl 2 rfl) ?_
  refine lv_iload_n hx hb dL_plan_6 rfl (lv_at hl 3 rfl) ?_
  refine z_hcalli (u := zHo ao co o) (w := wC ad cy) (As := [.int x1, .int x2, .int x3]) (rest := [.int 0, .ref ao]) hC hI hK (cX11_plan_met st l hst D ad cy σ x1 x2 x3 r hr) (zgV zw69_1 zw69_2 zw69_3 zw1_2 zw69_4) rfl ⟨rfl, rfl⟩ 3 hdX11_plan ⟨Nat.le_of_ble_eq_true rfl, Nat.le_of_ble_eq_true rfl⟩ rfl rfl (wC_e0 ad cy σ) rfl hl rfl (Nat.le_of_ble_eq_true rfl) dL_plan_7 ⟨Nat.le_of_ble_eq_true rfl, Nat.le_of_ble_eq_true rfl⟩ (fun k σ1 hq ce q9 H locs hI h1 h2 h3 => ?_) (fun v σ1 hq H locs hI => ?_)
  · subst hq
    by_cases c1 : k = 1
    · have hg := zh2_1 hf c1
      subst c1
      refine z_catch1 (x := ⟨0, 12, 15, 13⟩) (hp := 15) hC hI hE 1 rfl rfl (by decide) (List.mem_cons_of_mem _ zw10_20) h1 h2 h3 rfl ?_
      refine lv_astore hx hb dL_plan_15 hl (by decide) rfl (fun ls hl => ?_)
      refine lv_iconst (v := 1) hx hb dL_plan_17 (by decide) ?_
      exact z_hret (w := fun x : zHs => zHo ao co x.1 ++ wC ad cy x.2) (x := (o, σ1)) hC hI hg (Nat.le_of_ble_eq_true rfl) (Nat.le_of_ble_eq_true rfl) dL_plan_18
    · obtain ⟨c2, hg⟩ := zh2_2 hf c1
      subst c2
      refine z_catch2 (x := ⟨0, 12, 19, 15⟩) (x1 := ⟨0, 12, 15, 13⟩) (hp := 19) hC hI hE rfl (by decide) (List.mem_cons_of_mem _ zw10_20) rfl (by decide) (List.mem_cons_of_mem _ zw82_15) h1 h2 h3 rfl ?_
      refine lv_astore hx hb dL_plan_19 hl (by decide) rfl (fun ls hl => ?_)
      refine lv_iconst (v := 2) hx hb dL_plan_21 (by decide) ?_
      exact z_hret (w := fun x : zHs => zHo ao co x.1 ++ wC ad cy x.2) (x := (o, σ1)) hC hI hg (Nat.le_of_ble_eq_true rfl) (Nat.le_of_ble_eq_true rfl) dL_plan_22
  · subst hq
    refine lv_i2l hx hb dL_plan_10 rfl ?_
    refine z_last (w1 := zHo ao co (vp_updL o 0 v.toInt64) ++ wC ad cy σ1) hC hI 0 0 rfl rfl (by decide) rfl dL_plan_11 (fun H locs hI => ?_)
    refine lv_goto (tgt := 23) hx hb dL_plan_12 (by decide) ?_
    refine lv_iconst (v := 0) hx hb dL_plan_23 (by decide) ?_
    exact z_hret (w := fun x : zHs => zHo ao co x.1 ++ wC ad cy x.2) (x := (vp_updL o 0 v.toInt64, σ1)) hC hI (Option.some.inj hf) (Nat.le_of_ble_eq_true rfl) (Nat.le_of_ble_eq_true rfl) dL_plan_24
theorem hdL_plan : yL_plan.cls ≠ "java/lang/invoke/MethodHandle" ∧ yL_plan.cls ≠ "java/lang/invoke/VarHandle" ∧ (parseMethodDescriptor yL_plan.desc).map (fun d => d.parameters.length) = some 5 := by decide +kernel
noncomputable def rmL_text : Room := { frames := 7, cells := 1, slots := 6, locals := 121 }
noncomputable def wzL_text : List Cond := .codeWith yL_text cL_text 4 (some .int) [(0, 8, 11, 50)] :: wsL_law
noncomputable def kn_cL_text : Nat := 0xac03ac044e0600a7502e00b61b2a032c
theorem zk_cL_text : zkd cL_text.data.toList kn_cL_text = true := by decide +kernel
theorem zn_cL_text : cL_text.data.toList.length = 16 := by decide +kernel
theorem dL_text_0 : decode cL_text 0 = .ok (.aload_n 2, 1) := zo_44 (zkb zk_cL_text zn_cL_text rfl)
theorem dL_text_1 : decode cL_text 1 = .ok (.iconst 0, 1) := zo_3 (zkb zk_cL_text zn_cL_text rfl)
theorem dL_text_2 : decode cL_text 2 = .ok (.aload_n 0, 1) := zo_42 (zkb zk_cL_text zn_cL_text rfl)
theorem dL_text_3 : decode cL_text 3 = .ok (.iload_n 1, 1) := zo_27 (zkb zk_cL_text zn_cL_text rfl)
theorem dL_text_4 : decode cL_text 4 = .ok (.invokevirtual 46, 3) := zo_182 (b1 := 0) (b2 := 46) (zkb3 zk_cL_text zn_cL_text rfl) rfl
theorem dL_text_7 : decode cL_text 7 = .ok (.lastore, 1) := zo_80 (zkb zk_cL_text zn_cL_text rfl)
theorem dL_text_8 : decode cL_text 8 = .ok (.goto 6, 3) := zo_167 (b1 := 0) (b2 := 6) (zkb3 zk_cL_text zn_cL_text rfl) rfl
theorem dL_text_11 : decode cL_text 11 = .ok (.astore_n 3, 1) := zo_78 (zkb zk_cL_text zn_cL_text rfl)
theorem dL_text_12 : decode cL_text 12 = .ok (.iconst 1, 1) := zo_4 (zkb zk_cL_text zn_cL_text rfl)
theorem dL_text_13 : decode cL_text 13 = .ok (.ireturn, 1) := zo_172 (zkb zk_cL_text zn_cL_text rfl)
theorem dL_text_14 : decode cL_text 14 = .ok (.iconst 0, 1) := zo_3 (zkb zk_cL_text zn_cL_text rfl)
theorem dL_text_15 : decode cL_text 15 = .ok (.ireturn, 1) := zo_172 (zkb zk_cL_text zn_cL_text rfl)
noncomputable def fL_text (o : Nat → Int64) (σ : zSt) (x1 : Int32) : Option (zHs × Int32) := zbr (fX11_text σ x1) (zhl o (zh1 3))
set_option maxRecDepth 20000 in
theorem cL_text_met (st : Nat → Nat) (l : Launch) (hst : l.stackTraces = false) (D : va_G) (ad : Nat → Nat) (cy : Nat → ClassId) (ao : Nat) (co : ClassId) (o : Nat → Int64) (σ : zSt) (x1 : Int32) (res : zHs × Int32) (hf : fL_text o σ x1 = some res) (sz : Nat) : zH st l yL_text wzL_text rmL_text [.ref (ad 0), .int x1, .ref ao] D ((co, .long) :: tC cy) (fun x : zHs => zHo ao co x.1 ++ wC ad cy x.2) sz (o, σ) res := by
  obtain ⟨r, hr, hf⟩ := zbr_use hf
  refine zH.of (cc := cL_text) (maxL := 4) (by decide) rfl (Nat.le_of_ble_eq_true rfl) (fun p e s m args below meth c hC hE A hI ls hl => ?_)
  have hx := hC.1
  have hb := hC.2.1
  have hK : va_K D vwCl (tC cy) s := hI.1.sub [1, 2, 3, 4, 5, 6, 7, 8, 9, 10, 11, 12, 13, 14, 15, 16, 17, 18, 19, 20, 21, 22, 23, 24, 25, 26, 27, 28, 29, 30, 31, 32, 33, 34, 35, 36, 37] rfl
  refine lv_aload_n hx hb dL_text_0 rfl (lv_at hl 2 rfl) ?_
  refine lv_iconst (v := 0) hx hb dL_text_1 (by decide) ?_
  refine lv_aload_n hx hb dL_text_2 rfl (lv_at hl 0 rfl) ?_
  refine lv_iload_n hx hb dL_text_3 rfl (lv_at hl 1 rfl) ?_
  refine z_hcalll (u := zHo ao co o) (w := wC ad cy) (As := [.int x1]) (rest := [.int 0, .ref ao]) hC hI hK (cX11_text_met st l hst D ad cy σ x1 r hr) (zgV zw78_8 zw78_9 zw78_10 zw1_2 zw78_11) rfl ⟨rfl, rfl⟩ 1 hdX11_text ⟨Nat.le_of_ble_eq_true rfl, Nat.le_of_ble_eq_true rfl⟩ rfl rfl (wC_e0 ad cy σ) rfl hl rfl (Nat.le_of_ble_eq_true rfl) dL_text_4 ⟨Nat.le_of_ble_eq_true rfl, Nat.le_of_ble_eq_true rfl⟩ (fun k σ1 hq ce q9 H locs hI h1 h2 h3 => ?_) (fun v σ1 hq H locs hI => ?_)
  · subst hq
    obtain ⟨c1, hg⟩ := zh1_1 hf
    subst c1
    refine z_catch1 (x := ⟨0, 8, 11, 50⟩) (hp := 11) hC hI hE 3 rfl rfl (by decide) (List.mem_cons_of_mem _ zw78_7) h1 h2 h3 rfl ?_
    refine lv_astore_n hx hb dL_text_11 rfl hl (by decide) rfl (fun ls hl => ?_)
    refine lv_iconst (v := 1) hx hb dL_text_12 (by decide) ?_
    exact z_hret (w := fun x : zHs => zHo ao co x.1 ++ wC ad cy x.2) (x := (o, σ1)) hC hI hg (Nat.le_of_ble_eq_true rfl) (Nat.le_of_ble_eq_true rfl) dL_text_13
  · subst hq
    refine z_last (w1 := zHo ao co (vp_updL o 0 v) ++ wC ad cy σ1) hC hI 0 0 rfl rfl (by decide) rfl dL_text_7 (fun H locs hI => ?_)
    refine lv_goto (tgt := 14) hx hb dL_text_8 (by decide) ?_
    refine lv_iconst (v := 0) hx hb dL_text_14 (by decide) ?_
    exact z_hret (w := fun x : zHs => zHo ao co x.1 ++ wC ad cy x.2) (x := (vp_updL o 0 v, σ1)) hC hI (Option.some.inj hf) (Nat.le_of_ble_eq_true rfl) (Nat.le_of_ble_eq_true rfl) dL_text_15
theorem hdL_text : yL_text.cls ≠ "java/lang/invoke/MethodHandle" ∧ yL_text.cls ≠ "java/lang/invoke/VarHandle" ∧ (parseMethodDescriptor yL_text.desc).map (fun d => d.parameters.length) = some 3 := by decide +kernel
noncomputable def rmL_stop : Room := { frames := 7, cells := 1, slots := 6, locals := 122 }
noncomputable def wzL_stop : List Cond := .codeWith yL_stop cL_stop 5 (some .int) [(0, 10, 13, 13), (0, 10, 17, 15)] :: wsL_law
noncomputable def kn_cL_stop : Nat := 0xac03ac05043aac04043a0b00a750853400b61c1b2a032d
theorem zk_cL_stop : zkd cL_stop.data.toList kn_cL_stop = true := by decide +kernel
theorem zn_cL_stop : cL_stop.data.toList.length = 23 := by decide +kernel
theorem dL_stop_0 : decode cL_stop 0 = .ok (.aload_n 3, 1) := zo_45 (zkb zk_cL_stop zn_cL_stop rfl)
theorem dL_stop_1 : decode cL_stop 1 = .ok (.iconst 0, 1) := zo_3 (zkb zk_cL_stop zn_cL_stop rfl)
theorem dL_stop_2 : decode cL_stop 2 = .ok (.aload_n 0, 1) := zo_42 (zkb zk_cL_stop zn_cL_stop rfl)
theorem dL_stop_3 : decode cL_stop 3 = .ok (.iload_n 1, 1) := zo_27 (zkb zk_cL_stop zn_cL_stop rfl)
theorem dL_stop_4 : decode cL_stop 4 = .ok (.iload_n 2, 1) := zo_28 (zkb zk_cL_stop zn_cL_stop rfl)
theorem dL_stop_5 : decode cL_stop 5 = .ok (.invokevirtual 52, 3) := zo_182 (b1 := 0) (b2 := 52) (zkb3 zk_cL_stop zn_cL_stop rfl) rfl
theorem dL_stop_8 : decode cL_stop 8 = .ok (.i2l, 1) := zo_133 (zkb zk_cL_stop zn_cL_stop rfl)
theorem dL_stop_9 : decode cL_stop 9 = .ok (.lastore, 1) := zo_80 (zkb zk_cL_stop zn_cL_stop rfl)
theorem dL_stop_10 : decode cL_stop 10 = .ok (.goto 11, 3) := zo_167 (b1 := 0) (b2 := 11) (zkb3 zk_cL_stop zn_cL_stop rfl) rfl
theorem dL_stop_13 : decode cL_stop 13 = .ok (.astore 4, 2) := zo_58 (b1 := 4) (zkb2 zk_cL_stop zn_cL_stop rfl)
theorem dL_stop_15 : decode cL_stop 15 = .ok (.iconst 1, 1) := zo_4 (zkb zk_cL_stop zn_cL_stop rfl)
theorem dL_stop_16 : decode cL_stop 16 = .ok (.ireturn, 1) := zo_172 (zkb zk_cL_stop zn_cL_stop rfl)
theorem dL_stop_17 : decode cL_stop 17 = .ok (.astore 4, 2) := zo_58 (b1 := 4) (zkb2 zk_cL_stop zn_cL_stop rfl)
theorem dL_stop_19 : decode cL_stop 19 = .ok (.iconst 2, 1) := zo_5 (zkb zk_cL_stop zn_cL_stop rfl)
theorem dL_stop_20 : decode cL_stop 20 = .ok (.ireturn, 1) := zo_172 (zkb zk_cL_stop zn_cL_stop rfl)
theorem dL_stop_21 : decode cL_stop 21 = .ok (.iconst 0, 1) := zo_3 (zkb zk_cL_stop zn_cL_stop rfl)
theorem dL_stop_22 : decode cL_stop 22 = .ok (.ireturn, 1) := zo_172 (zkb zk_cL_stop zn_cL_stop rfl)
noncomputable def fL_stop (o : Nat → Int64) (σ : zSt) (x1 : Int32) (x2 : Int32) : Option (zHs × Int32) := zbr (fX11_stop σ x1 x2) (zhi o zh2)
set_option maxRecDepth 20000 in
theorem cL_stop_met (st : Nat → Nat) (l : Launch) (hst : l.stackTraces = false) (D : va_G) (ad : Nat → Nat) (cy : Nat → ClassId) (ao : Nat) (co : ClassId) (o : Nat → Int64) (σ : zSt) (x1 : Int32) (x2 : Int32) (res : zHs × Int32) (hf : fL_stop o σ x1 x2 = some res) (sz : Nat) : zH st l yL_stop wzL_stop rmL_stop [.ref (ad 0), .int x1, .int x2, .ref ao] D ((co, .long) :: tC cy) (fun x : zHs => zHo ao co x.1 ++ wC ad cy x.2) sz (o, σ) res := by
  obtain ⟨r, hr, hf⟩ := zbr_use hf
  refine zH.of (cc := cL_stop) (maxL := 5) (by decide) rfl (Nat.le_of_ble_eq_true rfl) (fun p e s m args below meth c hC hE A hI ls hl => ?_)
  have hx := hC.1
  have hb := hC.2.1
  have hK : va_K D vwCl (tC cy) s := hI.1.sub [1, 2, 3, 4, 5, 6, 7, 8, 9, 10, 11, 12, 13, 14, 15, 16, 17, 18, 19, 20, 21, 22, 23, 24, 25, 26, 27, 28, 29, 30, 31, 32, 33, 34, 35, 36, 37] rfl
  refine lv_aload_n hx hb dL_stop_0 rfl (lv_at hl 3 rfl) ?_
  refine lv_iconst (v := 0) hx hb dL_stop_1 (by decide) ?_
  refine lv_aload_n hx hb dL_stop_2 rfl (lv_at hl 0 rfl) ?_
  refine lv_iload_n hx hb dL_stop_3 rfl (lv_at hl 1 rfl) ?_
  refine lv_iload_n hx hb dL_stop_4 rfl (lv_at hl 2 rfl) ?_
  refine z_hcalli (u := zHo ao co o) (w := wC ad cy) (As := [.int x1, .int x2]) (rest := [.int 0, .ref ao]) hC hI hK (cX11_stop_met st l hst D ad cy σ x1 x2 r hr) (zgV zw79_2 zw79_3 zw79_4 zw1_2 zw79_5) rfl ⟨rfl, rfl⟩ 2 hdX11_stop ⟨Nat.le_of_ble_eq_true rfl, Nat.le_of_ble_eq_true rfl⟩ rfl rfl (wC_e0 ad cy σ) rfl hl rfl (Nat.le_of_ble_eq_true rfl) dL_stop_5 ⟨Nat.le_of_ble_eq_true rfl, Nat.le_of_ble_eq_true rfl⟩ (fun k σ1 hq ce q9 H locs hI h1 h2 h3 => ?_) (fun v σ1 hq H locs hI => ?_)
  · subst hq
    by_cases c1 : k = 1
    · have hg := zh2_1 hf c1
      subst c1
      refine z_catch1 (x := ⟨0, 10, 13, 13⟩) (hp := 13) hC hI hE 1 rfl rfl (by decide) (List.mem_cons_of_mem _ zw10_20) h1 h2 h3 rfl ?_
      refine lv_astore hx hb dL_stop_13 hl (by decide) rfl (fun ls hl => ?_)
      refine lv_iconst (v := 1) hx hb dL_stop_15 (by decide) ?_
      exact z_hret (w := fun x : zHs => zHo ao co x.1 ++ wC ad cy x.2) (x := (o, σ1)) hC hI hg (Nat.le_of_ble_eq_true rfl) (Nat.le_of_ble_eq_true rfl) dL_stop_16
    · obtain ⟨c2, hg⟩ := zh2_2 hf c1
      subst c2
      refine z_catch2 (x := ⟨0, 10, 17, 15⟩) (x1 := ⟨0, 10, 13, 13⟩) (hp := 17) hC hI hE rfl (by decide) (List.mem_cons_of_mem _ zw10_20) rfl (by decide) (List.mem_cons_of_mem _ zw82_15) h1 h2 h3 rfl ?_
      refine lv_astore hx hb dL_stop_17 hl (by decide) rfl (fun ls hl => ?_)
      refine lv_iconst (v := 2) hx hb dL_stop_19 (by decide) ?_
      exact z_hret (w := fun x : zHs => zHo ao co x.1 ++ wC ad cy x.2) (x := (o, σ1)) hC hI hg (Nat.le_of_ble_eq_true rfl) (Nat.le_of_ble_eq_true rfl) dL_stop_20
  · subst hq
    refine lv_i2l hx hb dL_stop_8 rfl ?_
    refine z_last (w1 := zHo ao co (vp_updL o 0 v.toInt64) ++ wC ad cy σ1) hC hI 0 0 rfl rfl (by decide) rfl dL_stop_9 (fun H locs hI => ?_)
    refine lv_goto (tgt := 21) hx hb dL_stop_10 (by decide) ?_
    refine lv_iconst (v := 0) hx hb dL_stop_21 (by decide) ?_
    exact z_hret (w := fun x : zHs => zHo ao co x.1 ++ wC ad cy x.2) (x := (vp_updL o 0 v.toInt64, σ1)) hC hI (Option.some.inj hf) (Nat.le_of_ble_eq_true rfl) (Nat.le_of_ble_eq_true rfl) dL_stop_22
theorem hdL_stop : yL_stop.cls ≠ "java/lang/invoke/MethodHandle" ∧ yL_stop.cls ≠ "java/lang/invoke/VarHandle" ∧ (parseMethodDescriptor yL_stop.desc).map (fun d => d.parameters.length) = some 4 := by decide +kernel
noncomputable def rmL_restore : Room := { frames := 7, cells := 1, slots := 6, locals := 124 }
noncomputable def wzL_restore : List Cond := .codeWith yL_restore cL_restore 2 (some .int) [(0, 4, 7, 15)] :: wsL_law
noncomputable def kn_cL_restore : Nat := 0xac03ac044c0600a73800b62a
theorem zk_cL_restore : zkd cL_restore.data.toList kn_cL_restore = true := by decide +kernel
theorem zn_cL_restore : cL_restore.data.toList.length = 12 := by decide +kernel
theorem dL_restore_0 : decode cL_restore 0 = .ok (.aload_n 0, 1) := zo_42 (zkb zk_cL_restore zn_cL_restore rfl)
theorem dL_restore_1 : decode cL_restore 1 = .ok (.invokevirtual 56, 3) := zo_182 (b1 := 0) (b2 := 56) (zkb3 zk_cL_restore zn_cL_restore rfl) rfl
theorem dL_restore_4 : decode cL_restore 4 = .ok (.goto 6, 3) := zo_167 (b1 := 0) (b2 := 6) (zkb3 zk_cL_restore zn_cL_restore rfl) rfl
theorem dL_restore_7 : decode cL_restore 7 = .ok (.astore_n 1, 1) := zo_76 (zkb zk_cL_restore zn_cL_restore rfl)
theorem dL_restore_8 : decode cL_restore 8 = .ok (.iconst 1, 1) := zo_4 (zkb zk_cL_restore zn_cL_restore rfl)
theorem dL_restore_9 : decode cL_restore 9 = .ok (.ireturn, 1) := zo_172 (zkb zk_cL_restore zn_cL_restore rfl)
theorem dL_restore_10 : decode cL_restore 10 = .ok (.iconst 0, 1) := zo_3 (zkb zk_cL_restore zn_cL_restore rfl)
theorem dL_restore_11 : decode cL_restore 11 = .ok (.ireturn, 1) := zo_172 (zkb zk_cL_restore zn_cL_restore rfl)
noncomputable def fL_restore (σ : zSt)  : Option (zSt × Int32) := zbr (fX11_restore σ ) (zhu (zh1 2))
set_option maxRecDepth 20000 in
theorem cL_restore_met (st : Nat → Nat) (l : Launch) (hst : l.stackTraces = false) (D : va_G) (ad : Nat → Nat) (cy : Nat → ClassId) (σ : zSt)  (res : zSt × Int32) (hf : fL_restore σ  = some res) (sz : Nat) : zH st l yL_restore wzL_restore rmL_restore [.ref (ad 0)] D (tC cy) (wC ad cy) sz σ res := by
  obtain ⟨r, hr, hf⟩ := zbr_use hf
  refine zH.of (cc := cL_restore) (maxL := 2) (by decide) rfl (Nat.le_of_ble_eq_true rfl) (fun p e s m args below meth c hC hE A hI ls hl => ?_)
  have hx := hC.1
  have hb := hC.2.1
  have hK : va_K D vwCl (tC cy) s := hI.1
  refine lv_aload_n hx hb dL_restore_0 rfl (lv_at hl 0 rfl) ?_
  refine z_hcallu (u := ([] : va_W)) (w := wC ad cy) (As := []) (rest := []) hC hI hK (cX11_restore_met st l hst D ad cy σ  r hr) (zgV zw82_16 zw82_17 zw82_18 zw1_2 zw82_19) rfl ⟨rfl, rfl⟩ 0 hdX11_restore ⟨Nat.le_of_ble_eq_true rfl, Nat.le_of_ble_eq_true rfl⟩ rfl rfl (wC_e0 ad cy σ) rfl hl rfl (Nat.le_of_ble_eq_true rfl) dL_restore_1 ⟨Nat.le_of_ble_eq_true rfl, Nat.le_of_ble_eq_true rfl⟩ (fun k σ1 hq ce q9 H locs hI h1 h2 h3 => ?_) (fun σ1 hq H locs hI => ?_)
  · subst hq
    obtain ⟨c1, hg⟩ := zh1_1 hf
    subst c1
    refine z_catch1 (x := ⟨0, 4, 7, 15⟩) (hp := 7) hC hI hE 2 rfl rfl (by decide) (List.mem_cons_of_mem _ zw82_15) h1 h2 h3 rfl ?_
    refine lv_astore_n hx hb dL_restore_7 rfl hl (by decide) rfl (fun ls hl => ?_)
    refine lv_iconst (v := 1) hx hb dL_restore_8 (by decide) ?_
    exact z_hret (w := wC ad cy) (x := σ1) hC hI hg (Nat.le_of_ble_eq_true rfl) (Nat.le_of_ble_eq_true rfl) dL_restore_9
  · subst hq
    refine lv_goto (tgt := 10) hx hb dL_restore_4 (by decide) ?_
    refine lv_iconst (v := 0) hx hb dL_restore_10 (by decide) ?_
    exact z_hret (w := wC ad cy) (x := σ1) hC hI (Option.some.inj hf) (Nat.le_of_ble_eq_true rfl) (Nat.le_of_ble_eq_true rfl) dL_restore_11
theorem hdL_restore : yL_restore.cls ≠ "java/lang/invoke/MethodHandle" ∧ yL_restore.cls ≠ "java/lang/invoke/VarHandle" ∧ (parseMethodDescriptor yL_restore.desc).map (fun d => d.parameters.length) = some 1 := by decide +kernel
noncomputable def rmL_register : Room := { frames := 7, cells := 1, slots := 6, locals := 121 }
noncomputable def wzL_register : List Cond := .codeWith yL_register cL_register 4 (some .int) [(0, 9, 12, 13)] :: wsL_law
noncomputable def kn_cL_register : Nat := 0xac03ac044e0600a750853b00b61b2a032c
theorem zk_cL_register : zkd cL_register.data.toList kn_cL_register = true := by decide +kernel
theorem zn_cL_register : cL_register.data.toList.length = 17 := by decide +kernel
theorem dL_register_0 : decode cL_register 0 = .ok (.aload_n 2, 1) := zo_44 (zkb zk_cL_register zn_cL_register rfl)
theorem dL_register_1 : decode cL_register 1 = .ok (.iconst 0, 1) := zo_3 (zkb zk_cL_register zn_cL_register rfl)
theorem dL_register_2 : decode cL_register 2 = .ok (.aload_n 0, 1) := zo_42 (zkb zk_cL_register zn_cL_register rfl)
theorem dL_register_3 : decode cL_register 3 = .ok (.iload_n 1, 1) := zo_27 (zkb zk_cL_register zn_cL_register rfl)
theorem dL_register_4 : decode cL_register 4 = .ok (.invokevirtual 59, 3) := zo_182 (b1 := 0) (b2 := 59) (zkb3 zk_cL_register zn_cL_register rfl) rfl
theorem dL_register_7 : decode cL_register 7 = .ok (.i2l, 1) := zo_133 (zkb zk_cL_register zn_cL_register rfl)
theorem dL_register_8 : decode cL_register 8 = .ok (.lastore, 1) := zo_80 (zkb zk_cL_register zn_cL_register rfl)
theorem dL_register_9 : decode cL_register 9 = .ok (.goto 6, 3) := zo_167 (b1 := 0) (b2 := 6) (zkb3 zk_cL_register zn_cL_register rfl) rfl
theorem dL_register_12 : decode cL_register 12 = .ok (.astore_n 3, 1) := zo_78 (zkb zk_cL_register zn_cL_register rfl)
theorem dL_register_13 : decode cL_register 13 = .ok (.iconst 1, 1) := zo_4 (zkb zk_cL_register zn_cL_register rfl)
theorem dL_register_14 : decode cL_register 14 = .ok (.ireturn, 1) := zo_172 (zkb zk_cL_register zn_cL_register rfl)
theorem dL_register_15 : decode cL_register 15 = .ok (.iconst 0, 1) := zo_3 (zkb zk_cL_register zn_cL_register rfl)
theorem dL_register_16 : decode cL_register 16 = .ok (.ireturn, 1) := zo_172 (zkb zk_cL_register zn_cL_register rfl)
noncomputable def fL_register (o : Nat → Int64) (σ : zSt) (x1 : Int32) : Option (zHs × Int32) := zbr (fX11_register σ x1) (zhi o (zh1 1))
set_option maxRecDepth 20000 in
theorem cL_register_met (st : Nat → Nat) (l : Launch) (hst : l.stackTraces = false) (D : va_G) (ad : Nat → Nat) (cy : Nat → ClassId) (ao : Nat) (co : ClassId) (o : Nat → Int64) (σ : zSt) (x1 : Int32) (res : zHs × Int32) (hf : fL_register o σ x1 = some res) (sz : Nat) : zH st l yL_register wzL_register rmL_register [.ref (ad 0), .int x1, .ref ao] D ((co, .long) :: tC cy) (fun x : zHs => zHo ao co x.1 ++ wC ad cy x.2) sz (o, σ) res := by
  obtain ⟨r, hr, hf⟩ := zbr_use hf
  refine zH.of (cc := cL_register) (maxL := 4) (by decide) rfl (Nat.le_of_ble_eq_true rfl) (fun p e s m args below meth c hC hE A hI ls hl => ?_)
  have hx := hC.1
  have hb := hC.2.1
  have hK : va_K D vwCl (tC cy) s := hI.1.sub [1, 2, 3, 4, 5, 6, 7, 8, 9, 10, 11, 12, 13, 14, 15, 16, 17, 18, 19, 20, 21, 22, 23, 24, 25, 26, 27, 28, 29, 30, 31, 32, 33, 34, 35, 36, 37] rfl
  refine lv_aload_n hx hb dL_register_0 rfl (lv_at hl 2 rfl) ?_
  refine lv_iconst (v := 0) hx hb dL_register_1 (by decide) ?_
  refine lv_aload_n hx hb dL_register_2 rfl (lv_at hl 0 rfl) ?_
  refine lv_iload_n hx hb dL_register_3 rfl (lv_at hl 1 rfl) ?_
  refine z_hcalli (u := zHo ao co o) (w := wC ad cy) (As := [.int x1]) (rest := [.int 0, .ref ao]) hC hI hK (cX11_register_met st l hst D ad cy σ x1 r hr) (zgV zw84_19 zw84_20 zw84_21 zw1_2 zw84_22) rfl ⟨rfl, rfl⟩ 1 hdX11_register ⟨Nat.le_of_ble_eq_true rfl, Nat.le_of_ble_eq_true rfl⟩ rfl rfl (wC_e0 ad cy σ) rfl hl rfl (Nat.le_of_ble_eq_true rfl) dL_register_4 ⟨Nat.le_of_ble_eq_true rfl, Nat.le_of_ble_eq_true rfl⟩ (fun k σ1 hq ce q9 H locs hI h1 h2 h3 => ?_) (fun v σ1 hq H locs hI => ?_)
  · subst hq
    obtain ⟨c1, hg⟩ := zh1_1 hf
    subst c1
    refine z_catch1 (x := ⟨0, 9, 12, 13⟩) (hp := 12) hC hI hE 1 rfl rfl (by decide) (List.mem_cons_of_mem _ zw10_20) h1 h2 h3 rfl ?_
    refine lv_astore_n hx hb dL_register_12 rfl hl (by decide) rfl (fun ls hl => ?_)
    refine lv_iconst (v := 1) hx hb dL_register_13 (by decide) ?_
    exact z_hret (w := fun x : zHs => zHo ao co x.1 ++ wC ad cy x.2) (x := (o, σ1)) hC hI hg (Nat.le_of_ble_eq_true rfl) (Nat.le_of_ble_eq_true rfl) dL_register_14
  · subst hq
    refine lv_i2l hx hb dL_register_7 rfl ?_
    refine z_last (w1 := zHo ao co (vp_updL o 0 v.toInt64) ++ wC ad cy σ1) hC hI 0 0 rfl rfl (by decide) rfl dL_register_8 (fun H locs hI => ?_)
    refine lv_goto (tgt := 15) hx hb dL_register_9 (by decide) ?_
    refine lv_iconst (v := 0) hx hb dL_register_15 (by decide) ?_
    exact z_hret (w := fun x : zHs => zHo ao co x.1 ++ wC ad cy x.2) (x := (vp_updL o 0 v.toInt64, σ1)) hC hI (Option.some.inj hf) (Nat.le_of_ble_eq_true rfl) (Nat.le_of_ble_eq_true rfl) dL_register_16
theorem hdL_register : yL_register.cls ≠ "java/lang/invoke/MethodHandle" ∧ yL_register.cls ≠ "java/lang/invoke/VarHandle" ∧ (parseMethodDescriptor yL_register.desc).map (fun d => d.parameters.length) = some 3 := by decide +kernel
noncomputable def rmL_set : Room := { frames := 7, cells := 1, slots := 6, locals := 122 }
noncomputable def wzL_set : List Cond := .codeWith yL_set cL_set 4 (some .int) [(0, 6, 9, 13)] :: wsL_law
noncomputable def kn_cL_set : Nat := 0xac03ac044e0600a73e00b61c1b2a
theorem zk_cL_set : zkd cL_set.data.toList kn_cL_set = true := by decide +kernel
theorem zn_cL_set : cL_set.data.toList.length = 14 := by decide +kernel
theorem dL_set_0 : decode cL_set 0 = .ok (.aload_n 0, 1) := zo_42 (zkb zk_cL_set zn_cL_set rfl)
theorem dL_set_1 : decode cL_set 1 = .ok (.iload_n 1, 1) := zo_27 (zkb zk_cL_set zn_cL_set rfl)
theorem dL_set_2 : decode cL_set 2 = .ok (.iload_n 2, 1) := zo_28 (zkb zk_cL_set zn_cL_set rfl)
theorem dL_set_3 : decode cL_set 3 = .ok (.invokevirtual 62, 3) := zo_182 (b1 := 0) (b2 := 62) (zkb3 zk_cL_set zn_cL_set rfl) rfl
theorem dL_set_6 : decode cL_set 6 = .ok (.goto 6, 3) := zo_167 (b1 := 0) (b2 := 6) (zkb3 zk_cL_set zn_cL_set rfl) rfl
theorem dL_set_9 : decode cL_set 9 = .ok (.astore_n 3, 1) := zo_78 (zkb zk_cL_set zn_cL_set rfl)
theorem dL_set_10 : decode cL_set 10 = .ok (.iconst 1, 1) := zo_4 (zkb zk_cL_set zn_cL_set rfl)
theorem dL_set_11 : decode cL_set 11 = .ok (.ireturn, 1) := zo_172 (zkb zk_cL_set zn_cL_set rfl)
theorem dL_set_12 : decode cL_set 12 = .ok (.iconst 0, 1) := zo_3 (zkb zk_cL_set zn_cL_set rfl)
theorem dL_set_13 : decode cL_set 13 = .ok (.ireturn, 1) := zo_172 (zkb zk_cL_set zn_cL_set rfl)
noncomputable def fL_set (σ : zSt) (x1 : Int32) (x2 : Int32) : Option (zSt × Int32) := zbr (fX11_set σ x1 x2) (zhu (zh1 1))
set_option maxRecDepth 20000 in
theorem cL_set_met (st : Nat → Nat) (l : Launch) (hst : l.stackTraces = false) (D : va_G) (ad : Nat → Nat) (cy : Nat → ClassId) (σ : zSt) (x1 : Int32) (x2 : Int32) (res : zSt × Int32) (hf : fL_set σ x1 x2 = some res) (sz : Nat) : zH st l yL_set wzL_set rmL_set [.ref (ad 0), .int x1, .int x2] D (tC cy) (wC ad cy) sz σ res := by
  obtain ⟨r, hr, hf⟩ := zbr_use hf
  refine zH.of (cc := cL_set) (maxL := 4) (by decide) rfl (Nat.le_of_ble_eq_true rfl) (fun p e s m args below meth c hC hE A hI ls hl => ?_)
  have hx := hC.1
  have hb := hC.2.1
  have hK : va_K D vwCl (tC cy) s := hI.1
  refine lv_aload_n hx hb dL_set_0 rfl (lv_at hl 0 rfl) ?_
  refine lv_iload_n hx hb dL_set_1 rfl (lv_at hl 1 rfl) ?_
  refine lv_iload_n hx hb dL_set_2 rfl (lv_at hl 2 rfl) ?_
  refine z_hcallu (u := ([] : va_W)) (w := wC ad cy) (As := [.int x1, .int x2]) (rest := []) hC hI hK (cX11_set_met st l hst D ad cy σ x1 x2 r hr) (zgV zw85_7 zw85_8 zw85_9 zw1_2 zw85_10) rfl ⟨rfl, rfl⟩ 2 hdX11_set ⟨Nat.le_of_ble_eq_true rfl, Nat.le_of_ble_eq_true rfl⟩ rfl rfl (wC_e0 ad cy σ) rfl hl rfl (Nat.le_of_ble_eq_true rfl) dL_set_3 ⟨Nat.le_of_ble_eq_true rfl, Nat.le_of_ble_eq_true rfl⟩ (fun k σ1 hq ce q9 H locs hI h1 h2 h3 => ?_) (fun σ1 hq H locs hI => ?_)
  · subst hq
    obtain ⟨c1, hg⟩ := zh1_1 hf
    subst c1
    refine z_catch1 (x := ⟨0, 6, 9, 13⟩) (hp := 9) hC hI hE 1 rfl rfl (by decide) (List.mem_cons_of_mem _ zw10_20) h1 h2 h3 rfl ?_
    refine lv_astore_n hx hb dL_set_9 rfl hl (by decide) rfl (fun ls hl => ?_)
    refine lv_iconst (v := 1) hx hb dL_set_10 (by decide) ?_
    exact z_hret (w := wC ad cy) (x := σ1) hC hI hg (Nat.le_of_ble_eq_true rfl) (Nat.le_of_ble_eq_true rfl) dL_set_11
  · subst hq
    refine lv_goto (tgt := 12) hx hb dL_set_6 (by decide) ?_
    refine lv_iconst (v := 0) hx hb dL_set_12 (by decide) ?_
    exact z_hret (w := wC ad cy) (x := σ1) hC hI (Option.some.inj hf) (Nat.le_of_ble_eq_true rfl) (Nat.le_of_ble_eq_true rfl) dL_set_13
theorem hdL_set : yL_set.cls ≠ "java/lang/invoke/MethodHandle" ∧ yL_set.cls ≠ "java/lang/invoke/VarHandle" ∧ (parseMethodDescriptor yL_set.desc).map (fun d => d.parameters.length) = some 3 := by decide +kernel
noncomputable def rmL_battery : Room := { frames := 7, cells := 1, slots := 6, locals := 121 }
noncomputable def wzL_battery : List Cond := .codeWith yL_battery cL_battery 4 (some .int) [(0, 9, 12, 50)] :: wsL_law
noncomputable def kn_cL_battery : Nat := 0xac03ac044e0600a750854100b61b2a032c
theorem zk_cL_battery : zkd cL_battery.data.toList kn_cL_battery = true := by decide +kernel
theorem zn_cL_battery : cL_battery.data.toList.length = 17 := by decide +kernel
theorem dL_battery_0 : decode cL_battery 0 = .ok (.aload_n 2, 1) := zo_44 (zkb zk_cL_battery zn_cL_battery rfl)
theorem dL_battery_1 : decode cL_battery 1 = .ok (.iconst 0, 1) := zo_3 (zkb zk_cL_battery zn_cL_battery rfl)
theorem dL_battery_2 : decode cL_battery 2 = .ok (.aload_n 0, 1) := zo_42 (zkb zk_cL_battery zn_cL_battery rfl)
theorem dL_battery_3 : decode cL_battery 3 = .ok (.iload_n 1, 1) := zo_27 (zkb zk_cL_battery zn_cL_battery rfl)
theorem dL_battery_4 : decode cL_battery 4 = .ok (.invokevirtual 65, 3) := zo_182 (b1 := 0) (b2 := 65) (zkb3 zk_cL_battery zn_cL_battery rfl) rfl
theorem dL_battery_7 : decode cL_battery 7 = .ok (.i2l, 1) := zo_133 (zkb zk_cL_battery zn_cL_battery rfl)
theorem dL_battery_8 : decode cL_battery 8 = .ok (.lastore, 1) := zo_80 (zkb zk_cL_battery zn_cL_battery rfl)
theorem dL_battery_9 : decode cL_battery 9 = .ok (.goto 6, 3) := zo_167 (b1 := 0) (b2 := 6) (zkb3 zk_cL_battery zn_cL_battery rfl) rfl
theorem dL_battery_12 : decode cL_battery 12 = .ok (.astore_n 3, 1) := zo_78 (zkb zk_cL_battery zn_cL_battery rfl)
theorem dL_battery_13 : decode cL_battery 13 = .ok (.iconst 1, 1) := zo_4 (zkb zk_cL_battery zn_cL_battery rfl)
theorem dL_battery_14 : decode cL_battery 14 = .ok (.ireturn, 1) := zo_172 (zkb zk_cL_battery zn_cL_battery rfl)
theorem dL_battery_15 : decode cL_battery 15 = .ok (.iconst 0, 1) := zo_3 (zkb zk_cL_battery zn_cL_battery rfl)
theorem dL_battery_16 : decode cL_battery 16 = .ok (.ireturn, 1) := zo_172 (zkb zk_cL_battery zn_cL_battery rfl)
noncomputable def fL_battery (o : Nat → Int64) (σ : zSt) (x1 : Int32) : Option (zHs × Int32) := zbr (fX11_battery σ x1) (zhi o (zh1 3))
set_option maxRecDepth 20000 in
theorem cL_battery_met (st : Nat → Nat) (l : Launch) (hst : l.stackTraces = false) (D : va_G) (ad : Nat → Nat) (cy : Nat → ClassId) (ao : Nat) (co : ClassId) (o : Nat → Int64) (σ : zSt) (x1 : Int32) (res : zHs × Int32) (hf : fL_battery o σ x1 = some res) (sz : Nat) : zH st l yL_battery wzL_battery rmL_battery [.ref (ad 0), .int x1, .ref ao] D ((co, .long) :: tC cy) (fun x : zHs => zHo ao co x.1 ++ wC ad cy x.2) sz (o, σ) res := by
  obtain ⟨r, hr, hf⟩ := zbr_use hf
  refine zH.of (cc := cL_battery) (maxL := 4) (by decide) rfl (Nat.le_of_ble_eq_true rfl) (fun p e s m args below meth c hC hE A hI ls hl => ?_)
  have hx := hC.1
  have hb := hC.2.1
  have hK : va_K D vwCl (tC cy) s := hI.1.sub [1, 2, 3, 4, 5, 6, 7, 8, 9, 10, 11, 12, 13, 14, 15, 16, 17, 18, 19, 20, 21, 22, 23, 24, 25, 26, 27, 28, 29, 30, 31, 32, 33, 34, 35, 36, 37] rfl
  refine lv_aload_n hx hb dL_battery_0 rfl (lv_at hl 2 rfl) ?_
  refine lv_iconst (v := 0) hx hb dL_battery_1 (by decide) ?_
  refine lv_aload_n hx hb dL_battery_2 rfl (lv_at hl 0 rfl) ?_
  refine lv_iload_n hx hb dL_battery_3 rfl (lv_at hl 1 rfl) ?_
  refine z_hcalli (u := zHo ao co o) (w := wC ad cy) (As := [.int x1]) (rest := [.int 0, .ref ao]) hC hI hK (cX11_battery_met st l hst D ad cy σ x1 r hr) (zgV zw87_12 zw87_13 zw87_14 zw1_2 zw87_15) rfl ⟨rfl, rfl⟩ 1 hdX11_battery ⟨Nat.le_of_ble_eq_true rfl, Nat.le_of_ble_eq_true rfl⟩ rfl rfl (wC_e0 ad cy σ) rfl hl rfl (Nat.le_of_ble_eq_true rfl) dL_battery_4 ⟨Nat.le_of_ble_eq_true rfl, Nat.le_of_ble_eq_true rfl⟩ (fun k σ1 hq ce q9 H locs hI h1 h2 h3 => ?_) (fun v σ1 hq H locs hI => ?_)
  · subst hq
    obtain ⟨c1, hg⟩ := zh1_1 hf
    subst c1
    refine z_catch1 (x := ⟨0, 9, 12, 50⟩) (hp := 12) hC hI hE 3 rfl rfl (by decide) (List.mem_cons_of_mem _ zw78_7) h1 h2 h3 rfl ?_
    refine lv_astore_n hx hb dL_battery_12 rfl hl (by decide) rfl (fun ls hl => ?_)
    refine lv_iconst (v := 1) hx hb dL_battery_13 (by decide) ?_
    exact z_hret (w := fun x : zHs => zHo ao co x.1 ++ wC ad cy x.2) (x := (o, σ1)) hC hI hg (Nat.le_of_ble_eq_true rfl) (Nat.le_of_ble_eq_true rfl) dL_battery_14
  · subst hq
    refine lv_i2l hx hb dL_battery_7 rfl ?_
    refine z_last (w1 := zHo ao co (vp_updL o 0 v.toInt64) ++ wC ad cy σ1) hC hI 0 0 rfl rfl (by decide) rfl dL_battery_8 (fun H locs hI => ?_)
    refine lv_goto (tgt := 15) hx hb dL_battery_9 (by decide) ?_
    refine lv_iconst (v := 0) hx hb dL_battery_15 (by decide) ?_
    exact z_hret (w := fun x : zHs => zHo ao co x.1 ++ wC ad cy x.2) (x := (vp_updL o 0 v.toInt64, σ1)) hC hI (Option.some.inj hf) (Nat.le_of_ble_eq_true rfl) (Nat.le_of_ble_eq_true rfl) dL_battery_16
theorem hdL_battery : yL_battery.cls ≠ "java/lang/invoke/MethodHandle" ∧ yL_battery.cls ≠ "java/lang/invoke/VarHandle" ∧ (parseMethodDescriptor yL_battery.desc).map (fun d => d.parameters.length) = some 3 := by decide +kernel
noncomputable def rmL_chip : Room := { frames := 7, cells := 1, slots := 6, locals := 121 }
noncomputable def wzL_chip : List Cond := .codeWith yL_chip cL_chip 4 (some .int) [(0, 9, 12, 13)] :: wsL_law
noncomputable def kn_cL_chip : Nat := 0xac03ac044e0600a750854400b61b2a032c
theorem zk_cL_chip : zkd cL_chip.data.toList kn_cL_chip = true := by decide +kernel
theorem zn_cL_chip : cL_chip.data.toList.length = 17 := by decide +kernel
theorem dL_chip_0 : decode cL_chip 0 = .ok (.aload_n 2, 1) := zo_44 (zkb zk_cL_chip zn_cL_chip rfl)
theorem dL_chip_1 : decode cL_chip 1 = .ok (.iconst 0, 1) := zo_3 (zkb zk_cL_chip zn_cL_chip rfl)
theorem dL_chip_2 : decode cL_chip 2 = .ok (.aload_n 0, 1) := zo_42 (zkb zk_cL_chip zn_cL_chip rfl)
theorem dL_chip_3 : decode cL_chip 3 = .ok (.iload_n 1, 1) := zo_27 (zkb zk_cL_chip zn_cL_chip rfl)
theorem dL_chip_4 : decode cL_chip 4 = .ok (.invokevirtual 68, 3) := zo_182 (b1 := 0) (b2 := 68) (zkb3 zk_cL_chip zn_cL_chip rfl) rfl
theorem dL_chip_7 : decode cL_chip 7 = .ok (.i2l, 1) := zo_133 (zkb zk_cL_chip zn_cL_chip rfl)
theorem dL_chip_8 : decode cL_chip 8 = .ok (.lastore, 1) := zo_80 (zkb zk_cL_chip zn_cL_chip rfl)
theorem dL_chip_9 : decode cL_chip 9 = .ok (.goto 6, 3) := zo_167 (b1 := 0) (b2 := 6) (zkb3 zk_cL_chip zn_cL_chip rfl) rfl
theorem dL_chip_12 : decode cL_chip 12 = .ok (.astore_n 3, 1) := zo_78 (zkb zk_cL_chip zn_cL_chip rfl)
theorem dL_chip_13 : decode cL_chip 13 = .ok (.iconst 1, 1) := zo_4 (zkb zk_cL_chip zn_cL_chip rfl)
theorem dL_chip_14 : decode cL_chip 14 = .ok (.ireturn, 1) := zo_172 (zkb zk_cL_chip zn_cL_chip rfl)
theorem dL_chip_15 : decode cL_chip 15 = .ok (.iconst 0, 1) := zo_3 (zkb zk_cL_chip zn_cL_chip rfl)
theorem dL_chip_16 : decode cL_chip 16 = .ok (.ireturn, 1) := zo_172 (zkb zk_cL_chip zn_cL_chip rfl)
noncomputable def fL_chip (o : Nat → Int64) (σ : zSt) (x1 : Int32) : Option (zHs × Int32) := zbr (fX11_chip σ x1) (zhi o (zh1 1))
set_option maxRecDepth 20000 in
theorem cL_chip_met (st : Nat → Nat) (l : Launch) (hst : l.stackTraces = false) (D : va_G) (ad : Nat → Nat) (cy : Nat → ClassId) (ao : Nat) (co : ClassId) (o : Nat → Int64) (σ : zSt) (x1 : Int32) (res : zHs × Int32) (hf : fL_chip o σ x1 = some res) (sz : Nat) : zH st l yL_chip wzL_chip rmL_chip [.ref (ad 0), .int x1, .ref ao] D ((co, .long) :: tC cy) (fun x : zHs => zHo ao co x.1 ++ wC ad cy x.2) sz (o, σ) res := by
  obtain ⟨r, hr, hf⟩ := zbr_use hf
  refine zH.of (cc := cL_chip) (maxL := 4) (by decide) rfl (Nat.le_of_ble_eq_true rfl) (fun p e s m args below meth c hC hE A hI ls hl => ?_)
  have hx := hC.1
  have hb := hC.2.1
  have hK : va_K D vwCl (tC cy) s := hI.1.sub [1, 2, 3, 4, 5, 6, 7, 8, 9, 10, 11, 12, 13, 14, 15, 16, 17, 18, 19, 20, 21, 22, 23, 24, 25, 26, 27, 28, 29, 30, 31, 32, 33, 34, 35, 36, 37] rfl
  refine lv_aload_n hx hb dL_chip_0 rfl (lv_at hl 2 rfl) ?_
  refine lv_iconst (v := 0) hx hb dL_chip_1 (by decide) ?_
  refine lv_aload_n hx hb dL_chip_2 rfl (lv_at hl 0 rfl) ?_
  refine lv_iload_n hx hb dL_chip_3 rfl (lv_at hl 1 rfl) ?_
  refine z_hcalli (u := zHo ao co o) (w := wC ad cy) (As := [.int x1]) (rest := [.int 0, .ref ao]) hC hI hK (cX11_chip_met st l hst D ad cy σ x1 r hr) (zgV zw89_5 zw89_6 zw89_7 zw1_2 zw89_8) rfl ⟨rfl, rfl⟩ 1 hdX11_chip ⟨Nat.le_of_ble_eq_true rfl, Nat.le_of_ble_eq_true rfl⟩ rfl rfl (wC_e0 ad cy σ) rfl hl rfl (Nat.le_of_ble_eq_true rfl) dL_chip_4 ⟨Nat.le_of_ble_eq_true rfl, Nat.le_of_ble_eq_true rfl⟩ (fun k σ1 hq ce q9 H locs hI h1 h2 h3 => ?_) (fun v σ1 hq H locs hI => ?_)
  · subst hq
    obtain ⟨c1, hg⟩ := zh1_1 hf
    subst c1
    refine z_catch1 (x := ⟨0, 9, 12, 13⟩) (hp := 12) hC hI hE 1 rfl rfl (by decide) (List.mem_cons_of_mem _ zw10_20) h1 h2 h3 rfl ?_
    refine lv_astore_n hx hb dL_chip_12 rfl hl (by decide) rfl (fun ls hl => ?_)
    refine lv_iconst (v := 1) hx hb dL_chip_13 (by decide) ?_
    exact z_hret (w := fun x : zHs => zHo ao co x.1 ++ wC ad cy x.2) (x := (o, σ1)) hC hI hg (Nat.le_of_ble_eq_true rfl) (Nat.le_of_ble_eq_true rfl) dL_chip_14
  · subst hq
    refine lv_i2l hx hb dL_chip_7 rfl ?_
    refine z_last (w1 := zHo ao co (vp_updL o 0 v.toInt64) ++ wC ad cy σ1) hC hI 0 0 rfl rfl (by decide) rfl dL_chip_8 (fun H locs hI => ?_)
    refine lv_goto (tgt := 15) hx hb dL_chip_9 (by decide) ?_
    refine lv_iconst (v := 0) hx hb dL_chip_15 (by decide) ?_
    exact z_hret (w := fun x : zHs => zHo ao co x.1 ++ wC ad cy x.2) (x := (vp_updL o 0 v.toInt64, σ1)) hC hI (Option.some.inj hf) (Nat.le_of_ble_eq_true rfl) (Nat.le_of_ble_eq_true rfl) dL_chip_16
theorem hdL_chip : yL_chip.cls ≠ "java/lang/invoke/MethodHandle" ∧ yL_chip.cls ≠ "java/lang/invoke/VarHandle" ∧ (parseMethodDescriptor yL_chip.desc).map (fun d => d.parameters.length) = some 3 := by decide +kernel
noncomputable def rmL_dot : Room := { frames := 7, cells := 1, slots := 6, locals := 122 }
noncomputable def wzL_dot : List Cond := .codeWith yL_dot cL_dot 5 (some .int) [(0, 10, 13, 50)] :: wsL_law
noncomputable def kn_cL_dot : Nat := 0xac03ac04043a0700a750854700b61c1b2a032d
theorem zk_cL_dot : zkd cL_dot.data.toList kn_cL_dot = true := by decide +kernel
theorem zn_cL_dot : cL_dot.data.toList.length = 19 := by decide +kernel
theorem dL_dot_0 : decode cL_dot 0 = .ok (.aload_n 3, 1) := zo_45 (zkb zk_cL_dot zn_cL_dot rfl)
theorem dL_dot_1 : decode cL_dot 1 = .ok (.iconst 0, 1) := zo_3 (zkb zk_cL_dot zn_cL_dot rfl)
theorem dL_dot_2 : decode cL_dot 2 = .ok (.aload_n 0, 1) := zo_42 (zkb zk_cL_dot zn_cL_dot rfl)
theorem dL_dot_3 : decode cL_dot 3 = .ok (.iload_n 1, 1) := zo_27 (zkb zk_cL_dot zn_cL_dot rfl)
theorem dL_dot_4 : decode cL_dot 4 = .ok (.iload_n 2, 1) := zo_28 (zkb zk_cL_dot zn_cL_dot rfl)
theorem dL_dot_5 : decode cL_dot 5 = .ok (.invokevirtual 71, 3) := zo_182 (b1 := 0) (b2 := 71) (zkb3 zk_cL_dot zn_cL_dot rfl) rfl
theorem dL_dot_8 : decode cL_dot 8 = .ok (.i2l, 1) := zo_133 (zkb zk_cL_dot zn_cL_dot rfl)
theorem dL_dot_9 : decode cL_dot 9 = .ok (.lastore, 1) := zo_80 (zkb zk_cL_dot zn_cL_dot rfl)
theorem dL_dot_10 : decode cL_dot 10 = .ok (.goto 7, 3) := zo_167 (b1 := 0) (b2 := 7) (zkb3 zk_cL_dot zn_cL_dot rfl) rfl
theorem dL_dot_13 : decode cL_dot 13 = .ok (.astore 4, 2) := zo_58 (b1 := 4) (zkb2 zk_cL_dot zn_cL_dot rfl)
theorem dL_dot_15 : decode cL_dot 15 = .ok (.iconst 1, 1) := zo_4 (zkb zk_cL_dot zn_cL_dot rfl)
theorem dL_dot_16 : decode cL_dot 16 = .ok (.ireturn, 1) := zo_172 (zkb zk_cL_dot zn_cL_dot rfl)
theorem dL_dot_17 : decode cL_dot 17 = .ok (.iconst 0, 1) := zo_3 (zkb zk_cL_dot zn_cL_dot rfl)
theorem dL_dot_18 : decode cL_dot 18 = .ok (.ireturn, 1) := zo_172 (zkb zk_cL_dot zn_cL_dot rfl)
noncomputable def fL_dot (o : Nat → Int64) (σ : zSt) (x1 : Int32) (x2 : Int32) : Option (zHs × Int32) := zbr (fX11_dot σ x1 x2) (zhi o (zh1 3))
set_option maxRecDepth 20000 in
theorem cL_dot_met (st : Nat → Nat) (l : Launch) (hst : l.stackTraces = false) (D : va_G) (ad : Nat → Nat) (cy : Nat → ClassId) (ao : Nat) (co : ClassId) (o : Nat → Int64) (σ : zSt) (x1 : Int32) (x2 : Int32) (res : zHs × Int32) (hf : fL_dot o σ x1 x2 = some res) (sz : Nat) : zH st l yL_dot wzL_dot rmL_dot [.ref (ad 0), .int x1, .int x2, .ref ao] D ((co, .long) :: tC cy) (fun x : zHs => zHo ao co x.1 ++ wC ad cy x.2) sz (o, σ) res := by
  obtain ⟨r, hr, hf⟩ := zbr_use hf
  refine zH.of (cc := cL_dot) (maxL := 5) (by decide) rfl (Nat.le_of_ble_eq_true rfl) (fun p e s m args below meth c hC hE A hI ls hl => ?_)
  have hx := hC.1
  have hb := hC.2.1
  have hK : va_K D vwCl (tC cy) s := hI.1.sub [1, 2, 3, 4, 5, 6, 7, 8, 9, 10, 11, 12, 13, 14, 15, 16, 17, 18, 19, 20, 21, 22, 23, 24, 25, 26, 27, 28, 29, 30, 31, 32, 33, 34, 35, 36, 37] rfl
  refine lv_aload_n hx hb dL_dot_0 rfl (lv_at hl 3 rfl) ?_
  refine lv_iconst (v := 0) hx hb dL_dot_1 (by decide) ?_
  refine lv_aload_n hx hb dL_dot_2 rfl (lv_at hl 0 rfl) ?_
  refine lv_iload_n hx hb dL_dot_3 rfl (lv_at hl 1 rfl) ?_
  refine lv_iload_n hx hb dL_dot_4 rfl (lv_at hl 2 rfl) ?_
  refine z_hcalli (u := zHo ao co o) (w := wC ad cy) (As := [.int x1, .int x2]) (rest := [.int 0, .ref ao]) hC hI hK (cX11_dot_met st l hst D ad cy σ x1 x2 r hr) (zgV zw90_5 zw90_6 zw90_7 zw1_2 zw90_8) rfl ⟨rfl, rfl⟩ 2 hdX11_dot ⟨Nat.le_of_ble_eq_true rfl, Nat.le_of_ble_eq_true rfl⟩ rfl rfl (wC_e0 ad cy σ) rfl hl rfl (Nat.le_of_ble_eq_true rfl) dL_dot_5 ⟨Nat.le_of_ble_eq_true rfl, Nat.le_of_ble_eq_true rfl⟩ (fun k σ1 hq ce q9 H locs hI h1 h2 h3 => ?_) (fun v σ1 hq H locs hI => ?_)
  · subst hq
    obtain ⟨c1, hg⟩ := zh1_1 hf
    subst c1
    refine z_catch1 (x := ⟨0, 10, 13, 50⟩) (hp := 13) hC hI hE 3 rfl rfl (by decide) (List.mem_cons_of_mem _ zw78_7) h1 h2 h3 rfl ?_
    refine lv_astore hx hb dL_dot_13 hl (by decide) rfl (fun ls hl => ?_)
    refine lv_iconst (v := 1) hx hb dL_dot_15 (by decide) ?_
    exact z_hret (w := fun x : zHs => zHo ao co x.1 ++ wC ad cy x.2) (x := (o, σ1)) hC hI hg (Nat.le_of_ble_eq_true rfl) (Nat.le_of_ble_eq_true rfl) dL_dot_16
  · subst hq
    refine lv_i2l hx hb dL_dot_8 rfl ?_
    refine z_last (w1 := zHo ao co (vp_updL o 0 v.toInt64) ++ wC ad cy σ1) hC hI 0 0 rfl rfl (by decide) rfl dL_dot_9 (fun H locs hI => ?_)
    refine lv_goto (tgt := 17) hx hb dL_dot_10 (by decide) ?_
    refine lv_iconst (v := 0) hx hb dL_dot_17 (by decide) ?_
    exact z_hret (w := fun x : zHs => zHo ao co x.1 ++ wC ad cy x.2) (x := (vp_updL o 0 v.toInt64, σ1)) hC hI (Option.some.inj hf) (Nat.le_of_ble_eq_true rfl) (Nat.le_of_ble_eq_true rfl) dL_dot_18
theorem hdL_dot : yL_dot.cls ≠ "java/lang/invoke/MethodHandle" ∧ yL_dot.cls ≠ "java/lang/invoke/VarHandle" ∧ (parseMethodDescriptor yL_dot.desc).map (fun d => d.parameters.length) = some 4 := by decide +kernel
noncomputable def rmL_row : Room := { frames := 7, cells := 1, slots := 6, locals := 121 }
noncomputable def wzL_row : List Cond := .codeWith yL_row cL_row 4 (some .int) [(0, 9, 12, 50)] :: wsL_law
noncomputable def kn_cL_row : Nat := 0xac03ac044e0600a750854b00b61b2a032c
theorem zk_cL_row : zkd cL_row.data.toList kn_cL_row = true := by decide +kernel
theorem zn_cL_row : cL_row.data.toList.length = 17 := by decide +kernel
theorem dL_row_0 : decode cL_row 0 = .ok (.aload_n 2, 1) := zo_44 (zkb zk_cL_row zn_cL_row rfl)
theorem dL_row_1 : decode cL_row 1 = .ok (.iconst 0, 1) := zo_3 (zkb zk_cL_row zn_cL_row rfl)
theorem dL_row_2 : decode cL_row 2 = .ok (.aload_n 0, 1) := zo_42 (zkb zk_cL_row zn_cL_row rfl)
theorem dL_row_3 : decode cL_row 3 = .ok (.iload_n 1, 1) := zo_27 (zkb zk_cL_row zn_cL_row rfl)
theorem dL_row_4 : decode cL_row 4 = .ok (.invokevirtual 75, 3) := zo_182 (b1 := 0) (b2 := 75) (zkb3 zk_cL_row zn_cL_row rfl) rfl
theorem dL_row_7 : decode cL_row 7 = .ok (.i2l, 1) := zo_133 (zkb zk_cL_row zn_cL_row rfl)
theorem dL_row_8 : decode cL_row 8 = .ok (.lastore, 1) := zo_80 (zkb zk_cL_row zn_cL_row rfl)
theorem dL_row_9 : decode cL_row 9 = .ok (.goto 6, 3) := zo_167 (b1 := 0) (b2 := 6) (zkb3 zk_cL_row zn_cL_row rfl) rfl
theorem dL_row_12 : decode cL_row 12 = .ok (.astore_n 3, 1) := zo_78 (zkb zk_cL_row zn_cL_row rfl)
theorem dL_row_13 : decode cL_row 13 = .ok (.iconst 1, 1) := zo_4 (zkb zk_cL_row zn_cL_row rfl)
theorem dL_row_14 : decode cL_row 14 = .ok (.ireturn, 1) := zo_172 (zkb zk_cL_row zn_cL_row rfl)
theorem dL_row_15 : decode cL_row 15 = .ok (.iconst 0, 1) := zo_3 (zkb zk_cL_row zn_cL_row rfl)
theorem dL_row_16 : decode cL_row 16 = .ok (.ireturn, 1) := zo_172 (zkb zk_cL_row zn_cL_row rfl)
noncomputable def fL_row (o : Nat → Int64) (σ : zSt) (x1 : Int32) : Option (zHs × Int32) := zbr (fX11_row σ x1) (zhi o (zh1 3))
set_option maxRecDepth 20000 in
theorem cL_row_met (st : Nat → Nat) (l : Launch) (hst : l.stackTraces = false) (D : va_G) (ad : Nat → Nat) (cy : Nat → ClassId) (ao : Nat) (co : ClassId) (o : Nat → Int64) (σ : zSt) (x1 : Int32) (res : zHs × Int32) (hf : fL_row o σ x1 = some res) (sz : Nat) : zH st l yL_row wzL_row rmL_row [.ref (ad 0), .int x1, .ref ao] D ((co, .long) :: tC cy) (fun x : zHs => zHo ao co x.1 ++ wC ad cy x.2) sz (o, σ) res := by
  obtain ⟨r, hr, hf⟩ := zbr_use hf
  refine zH.of (cc := cL_row) (maxL := 4) (by decide) rfl (Nat.le_of_ble_eq_true rfl) (fun p e s m args below meth c hC hE A hI ls hl => ?_)
  have hx := hC.1
  have hb := hC.2.1
  have hK : va_K D vwCl (tC cy) s := hI.1.sub [1, 2, 3, 4, 5, 6, 7, 8, 9, 10, 11, 12, 13, 14, 15, 16, 17, 18, 19, 20, 21, 22, 23, 24, 25, 26, 27, 28, 29, 30, 31, 32, 33, 34, 35, 36, 37] rfl
  refine lv_aload_n hx hb dL_row_0 rfl (lv_at hl 2 rfl) ?_
  refine lv_iconst (v := 0) hx hb dL_row_1 (by decide) ?_
  refine lv_aload_n hx hb dL_row_2 rfl (lv_at hl 0 rfl) ?_
  refine lv_iload_n hx hb dL_row_3 rfl (lv_at hl 1 rfl) ?_
  refine z_hcalli (u := zHo ao co o) (w := wC ad cy) (As := [.int x1]) (rest := [.int 0, .ref ao]) hC hI hK (cX11_row_met st l hst D ad cy σ x1 r hr) (zgV zw91_8 zw91_9 zw91_10 zw1_2 zw91_11) rfl ⟨rfl, rfl⟩ 1 hdX11_row ⟨Nat.le_of_ble_eq_true rfl, Nat.le_of_ble_eq_true rfl⟩ rfl rfl (wC_e0 ad cy σ) rfl hl rfl (Nat.le_of_ble_eq_true rfl) dL_row_4 ⟨Nat.le_of_ble_eq_true rfl, Nat.le_of_ble_eq_true rfl⟩ (fun k σ1 hq ce q9 H locs hI h1 h2 h3 => ?_) (fun v σ1 hq H locs hI => ?_)
  · subst hq
    obtain ⟨c1, hg⟩ := zh1_1 hf
    subst c1
    refine z_catch1 (x := ⟨0, 9, 12, 50⟩) (hp := 12) hC hI hE 3 rfl rfl (by decide) (List.mem_cons_of_mem _ zw78_7) h1 h2 h3 rfl ?_
    refine lv_astore_n hx hb dL_row_12 rfl hl (by decide) rfl (fun ls hl => ?_)
    refine lv_iconst (v := 1) hx hb dL_row_13 (by decide) ?_
    exact z_hret (w := fun x : zHs => zHo ao co x.1 ++ wC ad cy x.2) (x := (o, σ1)) hC hI hg (Nat.le_of_ble_eq_true rfl) (Nat.le_of_ble_eq_true rfl) dL_row_14
  · subst hq
    refine lv_i2l hx hb dL_row_7 rfl ?_
    refine z_last (w1 := zHo ao co (vp_updL o 0 v.toInt64) ++ wC ad cy σ1) hC hI 0 0 rfl rfl (by decide) rfl dL_row_8 (fun H locs hI => ?_)
    refine lv_goto (tgt := 15) hx hb dL_row_9 (by decide) ?_
    refine lv_iconst (v := 0) hx hb dL_row_15 (by decide) ?_
    exact z_hret (w := fun x : zHs => zHo ao co x.1 ++ wC ad cy x.2) (x := (vp_updL o 0 v.toInt64, σ1)) hC hI (Option.some.inj hf) (Nat.le_of_ble_eq_true rfl) (Nat.le_of_ble_eq_true rfl) dL_row_16
theorem hdL_row : yL_row.cls ≠ "java/lang/invoke/MethodHandle" ∧ yL_row.cls ≠ "java/lang/invoke/VarHandle" ∧ (parseMethodDescriptor yL_row.desc).map (fun d => d.parameters.length) = some 3 := by decide +kernel
noncomputable def rmL_hear : Room := { frames := 7, cells := 1, slots := 6, locals := 120 }
noncomputable def wzL_hear : List Cond := .codeWith yL_hear cL_hear 3 (some .int) [(0, 7, 10, 50)] :: wsL_law
noncomputable def kn_cL_hear : Nat := 0xac03ac044d0600a7504e00b62a032b
theorem zk_cL_hear : zkd cL_hear.data.toList kn_cL_hear = true := by decide +kernel
theorem zn_cL_hear : cL_hear.data.toList.length = 15 := by decide +kernel
theorem dL_hear_0 : decode cL_hear 0 = .ok (.aload_n 1, 1) := zo_43 (zkb zk_cL_hear zn_cL_hear rfl)
theorem dL_hear_1 : decode cL_hear 1 = .ok (.iconst 0, 1) := zo_3 (zkb zk_cL_hear zn_cL_hear rfl)
theorem dL_hear_2 : decode cL_hear 2 = .ok (.aload_n 0, 1) := zo_42 (zkb zk_cL_hear zn_cL_hear rfl)
theorem dL_hear_3 : decode cL_hear 3 = .ok (.invokevirtual 78, 3) := zo_182 (b1 := 0) (b2 := 78) (zkb3 zk_cL_hear zn_cL_hear rfl) rfl
theorem dL_hear_6 : decode cL_hear 6 = .ok (.lastore, 1) := zo_80 (zkb zk_cL_hear zn_cL_hear rfl)
theorem dL_hear_7 : decode cL_hear 7 = .ok (.goto 6, 3) := zo_167 (b1 := 0) (b2 := 6) (zkb3 zk_cL_hear zn_cL_hear rfl) rfl
theorem dL_hear_10 : decode cL_hear 10 = .ok (.astore_n 2, 1) := zo_77 (zkb zk_cL_hear zn_cL_hear rfl)
theorem dL_hear_11 : decode cL_hear 11 = .ok (.iconst 1, 1) := zo_4 (zkb zk_cL_hear zn_cL_hear rfl)
theorem dL_hear_12 : decode cL_hear 12 = .ok (.ireturn, 1) := zo_172 (zkb zk_cL_hear zn_cL_hear rfl)
theorem dL_hear_13 : decode cL_hear 13 = .ok (.iconst 0, 1) := zo_3 (zkb zk_cL_hear zn_cL_hear rfl)
theorem dL_hear_14 : decode cL_hear 14 = .ok (.ireturn, 1) := zo_172 (zkb zk_cL_hear zn_cL_hear rfl)
noncomputable def fL_hear (o : Nat → Int64) (σ : zSt)  : Option (zHs × Int32) := zbr (fX11_hear σ ) (zhl o (zh1 3))
set_option maxRecDepth 20000 in
theorem cL_hear_met (st : Nat → Nat) (l : Launch) (hst : l.stackTraces = false) (D : va_G) (ad : Nat → Nat) (cy : Nat → ClassId) (ao : Nat) (co : ClassId) (o : Nat → Int64) (σ : zSt)  (res : zHs × Int32) (hf : fL_hear o σ  = some res) (sz : Nat) : zH st l yL_hear wzL_hear rmL_hear [.ref (ad 0), .ref ao] D ((co, .long) :: tC cy) (fun x : zHs => zHo ao co x.1 ++ wC ad cy x.2) sz (o, σ) res := by
  obtain ⟨r, hr, hf⟩ := zbr_use hf
  refine zH.of (cc := cL_hear) (maxL := 3) (by decide) rfl (Nat.le_of_ble_eq_true rfl) (fun p e s m args below meth c hC hE A hI ls hl => ?_)
  have hx := hC.1
  have hb := hC.2.1
  have hK : va_K D vwCl (tC cy) s := hI.1.sub [1, 2, 3, 4, 5, 6, 7, 8, 9, 10, 11, 12, 13, 14, 15, 16, 17, 18, 19, 20, 21, 22, 23, 24, 25, 26, 27, 28, 29, 30, 31, 32, 33, 34, 35, 36, 37] rfl
  refine lv_aload_n hx hb dL_hear_0 rfl (lv_at hl 1 rfl) ?_
  refine lv_iconst (v := 0) hx hb dL_hear_1 (by decide) ?_
  refine lv_aload_n hx hb dL_hear_2 rfl (lv_at hl 0 rfl) ?_
  refine z_hcalll (u := zHo ao co o) (w := wC ad cy) (As := []) (rest := [.int 0, .ref ao]) hC hI hK (cX11_hear_met st l hst D ad cy σ  r hr) (zgV zw92_2 zw92_3 zw92_4 zw1_2 zw92_5) rfl ⟨rfl, rfl⟩ 0 hdX11_hear ⟨Nat.le_of_ble_eq_true rfl, Nat.le_of_ble_eq_true rfl⟩ rfl rfl (wC_e0 ad cy σ) rfl hl rfl (Nat.le_of_ble_eq_true rfl) dL_hear_3 ⟨Nat.le_of_ble_eq_true rfl, Nat.le_of_ble_eq_true rfl⟩ (fun k σ1 hq ce q9 H locs hI h1 h2 h3 => ?_) (fun v σ1 hq H locs hI => ?_)
  · subst hq
    obtain ⟨c1, hg⟩ := zh1_1 hf
    subst c1
    refine z_catch1 (x := ⟨0, 7, 10, 50⟩) (hp := 10) hC hI hE 3 rfl rfl (by decide) (List.mem_cons_of_mem _ zw78_7) h1 h2 h3 rfl ?_
    refine lv_astore_n hx hb dL_hear_10 rfl hl (by decide) rfl (fun ls hl => ?_)
    refine lv_iconst (v := 1) hx hb dL_hear_11 (by decide) ?_
    exact z_hret (w := fun x : zHs => zHo ao co x.1 ++ wC ad cy x.2) (x := (o, σ1)) hC hI hg (Nat.le_of_ble_eq_true rfl) (Nat.le_of_ble_eq_true rfl) dL_hear_12
  · subst hq
    refine z_last (w1 := zHo ao co (vp_updL o 0 v) ++ wC ad cy σ1) hC hI 0 0 rfl rfl (by decide) rfl dL_hear_6 (fun H locs hI => ?_)
    refine lv_goto (tgt := 13) hx hb dL_hear_7 (by decide) ?_
    refine lv_iconst (v := 0) hx hb dL_hear_13 (by decide) ?_
    exact z_hret (w := fun x : zHs => zHo ao co x.1 ++ wC ad cy x.2) (x := (vp_updL o 0 v, σ1)) hC hI (Option.some.inj hf) (Nat.le_of_ble_eq_true rfl) (Nat.le_of_ble_eq_true rfl) dL_hear_14
theorem hdL_hear : yL_hear.cls ≠ "java/lang/invoke/MethodHandle" ∧ yL_hear.cls ≠ "java/lang/invoke/VarHandle" ∧ (parseMethodDescriptor yL_hear.desc).map (fun d => d.parameters.length) = some 2 := by decide +kernel
noncomputable def rmL_mix : Room := { frames := 7, cells := 1, slots := 6, locals := 120 }
noncomputable def wzL_mix : List Cond := .codeWith yL_mix cL_mix 3 (some .int) [(0, 7, 10, 50)] :: wsL_law
noncomputable def kn_cL_mix : Nat := 0xac03ac044d0600a7505200b62a032b
theorem zk_cL_mix : zkd cL_mix.data.toList kn_cL_mix = true := by decide +kernel
theorem zn_cL_mix : cL_mix.data.toList.length = 15 := by decide +kernel
theorem dL_mix_0 : decode cL_mix 0 = .ok (.aload_n 1, 1) := zo_43 (zkb zk_cL_mix zn_cL_mix rfl)
theorem dL_mix_1 : decode cL_mix 1 = .ok (.iconst 0, 1) := zo_3 (zkb zk_cL_mix zn_cL_mix rfl)
theorem dL_mix_2 : decode cL_mix 2 = .ok (.aload_n 0, 1) := zo_42 (zkb zk_cL_mix zn_cL_mix rfl)
theorem dL_mix_3 : decode cL_mix 3 = .ok (.invokevirtual 82, 3) := zo_182 (b1 := 0) (b2 := 82) (zkb3 zk_cL_mix zn_cL_mix rfl) rfl
theorem dL_mix_6 : decode cL_mix 6 = .ok (.lastore, 1) := zo_80 (zkb zk_cL_mix zn_cL_mix rfl)
theorem dL_mix_7 : decode cL_mix 7 = .ok (.goto 6, 3) := zo_167 (b1 := 0) (b2 := 6) (zkb3 zk_cL_mix zn_cL_mix rfl) rfl
theorem dL_mix_10 : decode cL_mix 10 = .ok (.astore_n 2, 1) := zo_77 (zkb zk_cL_mix zn_cL_mix rfl)
theorem dL_mix_11 : decode cL_mix 11 = .ok (.iconst 1, 1) := zo_4 (zkb zk_cL_mix zn_cL_mix rfl)
theorem dL_mix_12 : decode cL_mix 12 = .ok (.ireturn, 1) := zo_172 (zkb zk_cL_mix zn_cL_mix rfl)
theorem dL_mix_13 : decode cL_mix 13 = .ok (.iconst 0, 1) := zo_3 (zkb zk_cL_mix zn_cL_mix rfl)
theorem dL_mix_14 : decode cL_mix 14 = .ok (.ireturn, 1) := zo_172 (zkb zk_cL_mix zn_cL_mix rfl)
noncomputable def fL_mix (o : Nat → Int64) (σ : zSt)  : Option (zHs × Int32) := zbr (fX11_mix σ ) (zhl o (zh1 3))
set_option maxRecDepth 20000 in
theorem cL_mix_met (st : Nat → Nat) (l : Launch) (hst : l.stackTraces = false) (D : va_G) (ad : Nat → Nat) (cy : Nat → ClassId) (ao : Nat) (co : ClassId) (o : Nat → Int64) (σ : zSt)  (res : zHs × Int32) (hf : fL_mix o σ  = some res) (sz : Nat) : zH st l yL_mix wzL_mix rmL_mix [.ref (ad 0), .ref ao] D ((co, .long) :: tC cy) (fun x : zHs => zHo ao co x.1 ++ wC ad cy x.2) sz (o, σ) res := by
  obtain ⟨r, hr, hf⟩ := zbr_use hf
  refine zH.of (cc := cL_mix) (maxL := 3) (by decide) rfl (Nat.le_of_ble_eq_true rfl) (fun p e s m args below meth c hC hE A hI ls hl => ?_)
  have hx := hC.1
  have hb := hC.2.1
  have hK : va_K D vwCl (tC cy) s := hI.1.sub [1, 2, 3, 4, 5, 6, 7, 8, 9, 10, 11, 12, 13, 14, 15, 16, 17, 18, 19, 20, 21, 22, 23, 24, 25, 26, 27, 28, 29, 30, 31, 32, 33, 34, 35, 36, 37] rfl
  refine lv_aload_n hx hb dL_mix_0 rfl (lv_at hl 1 rfl) ?_
  refine lv_iconst (v := 0) hx hb dL_mix_1 (by decide) ?_
  refine lv_aload_n hx hb dL_mix_2 rfl (lv_at hl 0 rfl) ?_
  refine z_hcalll (u := zHo ao co o) (w := wC ad cy) (As := []) (rest := [.int 0, .ref ao]) hC hI hK (cX11_mix_met st l hst D ad cy σ  r hr) (zgV zw92_22 zw92_23 zw93_0 zw1_2 zw93_1) rfl ⟨rfl, rfl⟩ 0 hdX11_mix ⟨Nat.le_of_ble_eq_true rfl, Nat.le_of_ble_eq_true rfl⟩ rfl rfl (wC_e0 ad cy σ) rfl hl rfl (Nat.le_of_ble_eq_true rfl) dL_mix_3 ⟨Nat.le_of_ble_eq_true rfl, Nat.le_of_ble_eq_true rfl⟩ (fun k σ1 hq ce q9 H locs hI h1 h2 h3 => ?_) (fun v σ1 hq H locs hI => ?_)
  · subst hq
    obtain ⟨c1, hg⟩ := zh1_1 hf
    subst c1
    refine z_catch1 (x := ⟨0, 7, 10, 50⟩) (hp := 10) hC hI hE 3 rfl rfl (by decide) (List.mem_cons_of_mem _ zw78_7) h1 h2 h3 rfl ?_
    refine lv_astore_n hx hb dL_mix_10 rfl hl (by decide) rfl (fun ls hl => ?_)
    refine lv_iconst (v := 1) hx hb dL_mix_11 (by decide) ?_
    exact z_hret (w := fun x : zHs => zHo ao co x.1 ++ wC ad cy x.2) (x := (o, σ1)) hC hI hg (Nat.le_of_ble_eq_true rfl) (Nat.le_of_ble_eq_true rfl) dL_mix_12
  · subst hq
    refine z_last (w1 := zHo ao co (vp_updL o 0 v) ++ wC ad cy σ1) hC hI 0 0 rfl rfl (by decide) rfl dL_mix_6 (fun H locs hI => ?_)
    refine lv_goto (tgt := 13) hx hb dL_mix_7 (by decide) ?_
    refine lv_iconst (v := 0) hx hb dL_mix_13 (by decide) ?_
    exact z_hret (w := fun x : zHs => zHo ao co x.1 ++ wC ad cy x.2) (x := (vp_updL o 0 v, σ1)) hC hI (Option.some.inj hf) (Nat.le_of_ble_eq_true rfl) (Nat.le_of_ble_eq_true rfl) dL_mix_14
theorem hdL_mix : yL_mix.cls ≠ "java/lang/invoke/MethodHandle" ∧ yL_mix.cls ≠ "java/lang/invoke/VarHandle" ∧ (parseMethodDescriptor yL_mix.desc).map (fun d => d.parameters.length) = some 2 := by decide +kernel
noncomputable def rmL_wave : Room := { frames := 7, cells := 1, slots := 6, locals := 121 }
noncomputable def wzL_wave : List Cond := .codeWith yL_wave cL_wave 4 (some .int) [(0, 9, 12, 13)] :: wsL_law
noncomputable def kn_cL_wave : Nat := 0xac03ac044e0600a750855500b61b2a032c
theorem zk_cL_wave : zkd cL_wave.data.toList kn_cL_wave = true := by decide +kernel
theorem zn_cL_wave : cL_wave.data.toList.length = 17 := by decide +kernel
theorem dL_wave_0 : decode cL_wave 0 = .ok (.aload_n 2, 1) := zo_44 (zkb zk_cL_wave zn_cL_wave rfl)
theorem dL_wave_1 : decode cL_wave 1 = .ok (.iconst 0, 1) := zo_3 (zkb zk_cL_wave zn_cL_wave rfl)
theorem dL_wave_2 : decode cL_wave 2 = .ok (.aload_n 0, 1) := zo_42 (zkb zk_cL_wave zn_cL_wave rfl)
theorem dL_wave_3 : decode cL_wave 3 = .ok (.iload_n 1, 1) := zo_27 (zkb zk_cL_wave zn_cL_wave rfl)
theorem dL_wave_4 : decode cL_wave 4 = .ok (.invokevirtual 85, 3) := zo_182 (b1 := 0) (b2 := 85) (zkb3 zk_cL_wave zn_cL_wave rfl) rfl
theorem dL_wave_7 : decode cL_wave 7 = .ok (.i2l, 1) := zo_133 (zkb zk_cL_wave zn_cL_wave rfl)
theorem dL_wave_8 : decode cL_wave 8 = .ok (.lastore, 1) := zo_80 (zkb zk_cL_wave zn_cL_wave rfl)
theorem dL_wave_9 : decode cL_wave 9 = .ok (.goto 6, 3) := zo_167 (b1 := 0) (b2 := 6) (zkb3 zk_cL_wave zn_cL_wave rfl) rfl
theorem dL_wave_12 : decode cL_wave 12 = .ok (.astore_n 3, 1) := zo_78 (zkb zk_cL_wave zn_cL_wave rfl)
theorem dL_wave_13 : decode cL_wave 13 = .ok (.iconst 1, 1) := zo_4 (zkb zk_cL_wave zn_cL_wave rfl)
theorem dL_wave_14 : decode cL_wave 14 = .ok (.ireturn, 1) := zo_172 (zkb zk_cL_wave zn_cL_wave rfl)
theorem dL_wave_15 : decode cL_wave 15 = .ok (.iconst 0, 1) := zo_3 (zkb zk_cL_wave zn_cL_wave rfl)
theorem dL_wave_16 : decode cL_wave 16 = .ok (.ireturn, 1) := zo_172 (zkb zk_cL_wave zn_cL_wave rfl)
noncomputable def fL_wave (o : Nat → Int64) (σ : zSt) (x1 : Int32) : Option (zHs × Int32) := zbr (fX11_wave σ x1) (zhi o (zh1 1))
set_option maxRecDepth 20000 in
theorem cL_wave_met (st : Nat → Nat) (l : Launch) (hst : l.stackTraces = false) (D : va_G) (ad : Nat → Nat) (cy : Nat → ClassId) (ao : Nat) (co : ClassId) (o : Nat → Int64) (σ : zSt) (x1 : Int32) (res : zHs × Int32) (hf : fL_wave o σ x1 = some res) (sz : Nat) : zH st l yL_wave wzL_wave rmL_wave [.ref (ad 0), .int x1, .ref ao] D ((co, .long) :: tC cy) (fun x : zHs => zHo ao co x.1 ++ wC ad cy x.2) sz (o, σ) res := by
  obtain ⟨r, hr, hf⟩ := zbr_use hf
  refine zH.of (cc := cL_wave) (maxL := 4) (by decide) rfl (Nat.le_of_ble_eq_true rfl) (fun p e s m args below meth c hC hE A hI ls hl => ?_)
  have hx := hC.1
  have hb := hC.2.1
  have hK : va_K D vwCl (tC cy) s := hI.1.sub [1, 2, 3, 4, 5, 6, 7, 8, 9, 10, 11, 12, 13, 14, 15, 16, 17, 18, 19, 20, 21, 22, 23, 24, 25, 26, 27, 28, 29, 30, 31, 32, 33, 34, 35, 36, 37] rfl
  refine lv_aload_n hx hb dL_wave_0 rfl (lv_at hl 2 rfl) ?_
  refine lv_iconst (v := 0) hx hb dL_wave_1 (by decide) ?_
  refine lv_aload_n hx hb dL_wave_2 rfl (lv_at hl 0 rfl) ?_
  refine lv_iload_n hx hb dL_wave_3 rfl (lv_at hl 1 rfl) ?_
  refine z_hcalli (u := zHo ao co o) (w := wC ad cy) (As := [.int x1]) (rest := [.int 0, .ref ao]) hC hI hK (cX11_wave_met st l hst D ad cy σ x1 r hr) (zgV zw93_10 zw93_11 zw93_12 zw1_2 zw93_13) rfl ⟨rfl, rfl⟩ 1 hdX11_wave ⟨Nat.le_of_ble_eq_true rfl, Nat.le_of_ble_eq_true rfl⟩ rfl rfl (wC_e0 ad cy σ) rfl hl rfl (Nat.le_of_ble_eq_true rfl) dL_wave_4 ⟨Nat.le_of_ble_eq_true rfl, Nat.le_of_ble_eq_true rfl⟩ (fun k σ1 hq ce q9 H locs hI h1 h2 h3 => ?_) (fun v σ1 hq H locs hI => ?_)
  · subst hq
    obtain ⟨c1, hg⟩ := zh1_1 hf
    subst c1
    refine z_catch1 (x := ⟨0, 9, 12, 13⟩) (hp := 12) hC hI hE 1 rfl rfl (by decide) (List.mem_cons_of_mem _ zw10_20) h1 h2 h3 rfl ?_
    refine lv_astore_n hx hb dL_wave_12 rfl hl (by decide) rfl (fun ls hl => ?_)
    refine lv_iconst (v := 1) hx hb dL_wave_13 (by decide) ?_
    exact z_hret (w := fun x : zHs => zHo ao co x.1 ++ wC ad cy x.2) (x := (o, σ1)) hC hI hg (Nat.le_of_ble_eq_true rfl) (Nat.le_of_ble_eq_true rfl) dL_wave_14
  · subst hq
    refine lv_i2l hx hb dL_wave_7 rfl ?_
    refine z_last (w1 := zHo ao co (vp_updL o 0 v.toInt64) ++ wC ad cy σ1) hC hI 0 0 rfl rfl (by decide) rfl dL_wave_8 (fun H locs hI => ?_)
    refine lv_goto (tgt := 15) hx hb dL_wave_9 (by decide) ?_
    refine lv_iconst (v := 0) hx hb dL_wave_15 (by decide) ?_
    exact z_hret (w := fun x : zHs => zHo ao co x.1 ++ wC ad cy x.2) (x := (vp_updL o 0 v.toInt64, σ1)) hC hI (Option.some.inj hf) (Nat.le_of_ble_eq_true rfl) (Nat.le_of_ble_eq_true rfl) dL_wave_16
theorem hdL_wave : yL_wave.cls ≠ "java/lang/invoke/MethodHandle" ∧ yL_wave.cls ≠ "java/lang/invoke/VarHandle" ∧ (parseMethodDescriptor yL_wave.desc).map (fun d => d.parameters.length) = some 3 := by decide +kernel
noncomputable def rmL_sound : Room := { frames := 7, cells := 1, slots := 6, locals := 121 }
noncomputable def wzL_sound : List Cond := .codeWith yL_sound cL_sound 4 (some .int) [(0, 9, 12, 13)] :: wsL_law
noncomputable def kn_cL_sound : Nat := 0xac03ac044e0600a750855800b61b2a032c
theorem zk_cL_sound : zkd cL_sound.data.toList kn_cL_sound = true := by decide +kernel
theorem zn_cL_sound : cL_sound.data.toList.length = 17 := by decide +kernel
theorem dL_sound_0 : decode cL_sound 0 = .ok (.aload_n 2, 1) := zo_44 (zkb zk_cL_sound zn_cL_sound rfl)
theorem dL_sound_1 : decode cL_sound 1 = .ok (.iconst 0, 1) := zo_3 (zkb zk_cL_sound zn_cL_sound rfl)
theorem dL_sound_2 : decode cL_sound 2 = .ok (.aload_n 0, 1) := zo_42 (zkb zk_cL_sound zn_cL_sound rfl)
theorem dL_sound_3 : decode cL_sound 3 = .ok (.iload_n 1, 1) := zo_27 (zkb zk_cL_sound zn_cL_sound rfl)
theorem dL_sound_4 : decode cL_sound 4 = .ok (.invokevirtual 88, 3) := zo_182 (b1 := 0) (b2 := 88) (zkb3 zk_cL_sound zn_cL_sound rfl) rfl
theorem dL_sound_7 : decode cL_sound 7 = .ok (.i2l, 1) := zo_133 (zkb zk_cL_sound zn_cL_sound rfl)
theorem dL_sound_8 : decode cL_sound 8 = .ok (.lastore, 1) := zo_80 (zkb zk_cL_sound zn_cL_sound rfl)
theorem dL_sound_9 : decode cL_sound 9 = .ok (.goto 6, 3) := zo_167 (b1 := 0) (b2 := 6) (zkb3 zk_cL_sound zn_cL_sound rfl) rfl
theorem dL_sound_12 : decode cL_sound 12 = .ok (.astore_n 3, 1) := zo_78 (zkb zk_cL_sound zn_cL_sound rfl)
theorem dL_sound_13 : decode cL_sound 13 = .ok (.iconst 1, 1) := zo_4 (zkb zk_cL_sound zn_cL_sound rfl)
theorem dL_sound_14 : decode cL_sound 14 = .ok (.ireturn, 1) := zo_172 (zkb zk_cL_sound zn_cL_sound rfl)
theorem dL_sound_15 : decode cL_sound 15 = .ok (.iconst 0, 1) := zo_3 (zkb zk_cL_sound zn_cL_sound rfl)
theorem dL_sound_16 : decode cL_sound 16 = .ok (.ireturn, 1) := zo_172 (zkb zk_cL_sound zn_cL_sound rfl)
noncomputable def fL_sound (o : Nat → Int64) (σ : zSt) (x1 : Int32) : Option (zHs × Int32) := zbr (fX11_sound σ x1) (zhi o (zh1 1))
set_option maxRecDepth 20000 in
theorem cL_sound_met (st : Nat → Nat) (l : Launch) (hst : l.stackTraces = false) (D : va_G) (ad : Nat → Nat) (cy : Nat → ClassId) (ao : Nat) (co : ClassId) (o : Nat → Int64) (σ : zSt) (x1 : Int32) (res : zHs × Int32) (hf : fL_sound o σ x1 = some res) (sz : Nat) : zH st l yL_sound wzL_sound rmL_sound [.ref (ad 0), .int x1, .ref ao] D ((co, .long) :: tC cy) (fun x : zHs => zHo ao co x.1 ++ wC ad cy x.2) sz (o, σ) res := by
  obtain ⟨r, hr, hf⟩ := zbr_use hf
  refine zH.of (cc := cL_sound) (maxL := 4) (by decide) rfl (Nat.le_of_ble_eq_true rfl) (fun p e s m args below meth c hC hE A hI ls hl => ?_)
  have hx := hC.1
  have hb := hC.2.1
  have hK : va_K D vwCl (tC cy) s := hI.1.sub [1, 2, 3, 4, 5, 6, 7, 8, 9, 10, 11, 12, 13, 14, 15, 16, 17, 18, 19, 20, 21, 22, 23, 24, 25, 26, 27, 28, 29, 30, 31, 32, 33, 34, 35, 36, 37] rfl
  refine lv_aload_n hx hb dL_sound_0 rfl (lv_at hl 2 rfl) ?_
  refine lv_iconst (v := 0) hx hb dL_sound_1 (by decide) ?_
  refine lv_aload_n hx hb dL_sound_2 rfl (lv_at hl 0 rfl) ?_
  refine lv_iload_n hx hb dL_sound_3 rfl (lv_at hl 1 rfl) ?_
  refine z_hcalli (u := zHo ao co o) (w := wC ad cy) (As := [.int x1]) (rest := [.int 0, .ref ao]) hC hI hK (cX11_sound_met st l hst D ad cy σ x1 r hr) (zgV zw94_4 zw94_5 zw94_6 zw1_2 zw94_7) rfl ⟨rfl, rfl⟩ 1 hdX11_sound ⟨Nat.le_of_ble_eq_true rfl, Nat.le_of_ble_eq_true rfl⟩ rfl rfl (wC_e0 ad cy σ) rfl hl rfl (Nat.le_of_ble_eq_true rfl) dL_sound_4 ⟨Nat.le_of_ble_eq_true rfl, Nat.le_of_ble_eq_true rfl⟩ (fun k σ1 hq ce q9 H locs hI h1 h2 h3 => ?_) (fun v σ1 hq H locs hI => ?_)
  · subst hq
    obtain ⟨c1, hg⟩ := zh1_1 hf
    subst c1
    refine z_catch1 (x := ⟨0, 9, 12, 13⟩) (hp := 12) hC hI hE 1 rfl rfl (by decide) (List.mem_cons_of_mem _ zw10_20) h1 h2 h3 rfl ?_
    refine lv_astore_n hx hb dL_sound_12 rfl hl (by decide) rfl (fun ls hl => ?_)
    refine lv_iconst (v := 1) hx hb dL_sound_13 (by decide) ?_
    exact z_hret (w := fun x : zHs => zHo ao co x.1 ++ wC ad cy x.2) (x := (o, σ1)) hC hI hg (Nat.le_of_ble_eq_true rfl) (Nat.le_of_ble_eq_true rfl) dL_sound_14
  · subst hq
    refine lv_i2l hx hb dL_sound_7 rfl ?_
    refine z_last (w1 := zHo ao co (vp_updL o 0 v.toInt64) ++ wC ad cy σ1) hC hI 0 0 rfl rfl (by decide) rfl dL_sound_8 (fun H locs hI => ?_)
    refine lv_goto (tgt := 15) hx hb dL_sound_9 (by decide) ?_
    refine lv_iconst (v := 0) hx hb dL_sound_15 (by decide) ?_
    exact z_hret (w := fun x : zHs => zHo ao co x.1 ++ wC ad cy x.2) (x := (vp_updL o 0 v.toInt64, σ1)) hC hI (Option.some.inj hf) (Nat.le_of_ble_eq_true rfl) (Nat.le_of_ble_eq_true rfl) dL_sound_16
theorem hdL_sound : yL_sound.cls ≠ "java/lang/invoke/MethodHandle" ∧ yL_sound.cls ≠ "java/lang/invoke/VarHandle" ∧ (parseMethodDescriptor yL_sound.desc).map (fun d => d.parameters.length) = some 3 := by decide +kernel
noncomputable def rmL_look : Room := { frames := 7, cells := 1, slots := 6, locals := 121 }
noncomputable def wzL_look : List Cond := .codeWith yL_look cL_look 4 (some .int) [(0, 8, 11, 13)] :: wsL_law
noncomputable def kn_cL_look : Nat := 0xac03ac044e0600a7505b00b61b2a032c
theorem zk_cL_look : zkd cL_look.data.toList kn_cL_look = true := by decide +kernel
theorem zn_cL_look : cL_look.data.toList.length = 16 := by decide +kernel
theorem dL_look_0 : decode cL_look 0 = .ok (.aload_n 2, 1) := zo_44 (zkb zk_cL_look zn_cL_look rfl)
theorem dL_look_1 : decode cL_look 1 = .ok (.iconst 0, 1) := zo_3 (zkb zk_cL_look zn_cL_look rfl)
theorem dL_look_2 : decode cL_look 2 = .ok (.aload_n 0, 1) := zo_42 (zkb zk_cL_look zn_cL_look rfl)
theorem dL_look_3 : decode cL_look 3 = .ok (.iload_n 1, 1) := zo_27 (zkb zk_cL_look zn_cL_look rfl)
theorem dL_look_4 : decode cL_look 4 = .ok (.invokevirtual 91, 3) := zo_182 (b1 := 0) (b2 := 91) (zkb3 zk_cL_look zn_cL_look rfl) rfl
theorem dL_look_7 : decode cL_look 7 = .ok (.lastore, 1) := zo_80 (zkb zk_cL_look zn_cL_look rfl)
theorem dL_look_8 : decode cL_look 8 = .ok (.goto 6, 3) := zo_167 (b1 := 0) (b2 := 6) (zkb3 zk_cL_look zn_cL_look rfl) rfl
theorem dL_look_11 : decode cL_look 11 = .ok (.astore_n 3, 1) := zo_78 (zkb zk_cL_look zn_cL_look rfl)
theorem dL_look_12 : decode cL_look 12 = .ok (.iconst 1, 1) := zo_4 (zkb zk_cL_look zn_cL_look rfl)
theorem dL_look_13 : decode cL_look 13 = .ok (.ireturn, 1) := zo_172 (zkb zk_cL_look zn_cL_look rfl)
theorem dL_look_14 : decode cL_look 14 = .ok (.iconst 0, 1) := zo_3 (zkb zk_cL_look zn_cL_look rfl)
theorem dL_look_15 : decode cL_look 15 = .ok (.ireturn, 1) := zo_172 (zkb zk_cL_look zn_cL_look rfl)
noncomputable def fL_look (o : Nat → Int64) (σ : zSt) (x1 : Int32) : Option (zHs × Int32) := zbr (fX11_look σ x1) (zhl o (zh1 1))
set_option maxRecDepth 20000 in
theorem cL_look_met (st : Nat → Nat) (l : Launch) (hst : l.stackTraces = false) (D : va_G) (ad : Nat → Nat) (cy : Nat → ClassId) (ao : Nat) (co : ClassId) (o : Nat → Int64) (σ : zSt) (x1 : Int32) (res : zHs × Int32) (hf : fL_look o σ x1 = some res) (sz : Nat) : zH st l yL_look wzL_look rmL_look [.ref (ad 0), .int x1, .ref ao] D ((co, .long) :: tC cy) (fun x : zHs => zHo ao co x.1 ++ wC ad cy x.2) sz (o, σ) res := by
  obtain ⟨r, hr, hf⟩ := zbr_use hf
  refine zH.of (cc := cL_look) (maxL := 4) (by decide) rfl (Nat.le_of_ble_eq_true rfl) (fun p e s m args below meth c hC hE A hI ls hl => ?_)
  have hx := hC.1
  have hb := hC.2.1
  have hK : va_K D vwCl (tC cy) s := hI.1.sub [1, 2, 3, 4, 5, 6, 7, 8, 9, 10, 11, 12, 13, 14, 15, 16, 17, 18, 19, 20, 21, 22, 23, 24, 25, 26, 27, 28, 29, 30, 31, 32, 33, 34, 35, 36, 37] rfl
  refine lv_aload_n hx hb dL_look_0 rfl (lv_at hl 2 rfl) ?_
  refine lv_iconst (v := 0) hx hb dL_look_1 (by decide) ?_
  refine lv_aload_n hx hb dL_look_2 rfl (lv_at hl 0 rfl) ?_
  refine lv_iload_n hx hb dL_look_3 rfl (lv_at hl 1 rfl) ?_
  refine z_hcalll (u := zHo ao co o) (w := wC ad cy) (As := [.int x1]) (rest := [.int 0, .ref ao]) hC hI hK (cX11_look_met st l hst D ad cy σ x1 r hr) (zgV zw95_9 zw95_10 zw95_11 zw1_2 zw95_12) rfl ⟨rfl, rfl⟩ 1 hdX11_look ⟨Nat.le_of_ble_eq_true rfl, Nat.le_of_ble_eq_true rfl⟩ rfl rfl (wC_e0 ad cy σ) rfl hl rfl (Nat.le_of_ble_eq_true rfl) dL_look_4 ⟨Nat.le_of_ble_eq_true rfl, Nat.le_of_ble_eq_true rfl⟩ (fun k σ1 hq ce q9 H locs hI h1 h2 h3 => ?_) (fun v σ1 hq H locs hI => ?_)
  · subst hq
    obtain ⟨c1, hg⟩ := zh1_1 hf
    subst c1
    refine z_catch1 (x := ⟨0, 8, 11, 13⟩) (hp := 11) hC hI hE 1 rfl rfl (by decide) (List.mem_cons_of_mem _ zw10_20) h1 h2 h3 rfl ?_
    refine lv_astore_n hx hb dL_look_11 rfl hl (by decide) rfl (fun ls hl => ?_)
    refine lv_iconst (v := 1) hx hb dL_look_12 (by decide) ?_
    exact z_hret (w := fun x : zHs => zHo ao co x.1 ++ wC ad cy x.2) (x := (o, σ1)) hC hI hg (Nat.le_of_ble_eq_true rfl) (Nat.le_of_ble_eq_true rfl) dL_look_13
  · subst hq
    refine z_last (w1 := zHo ao co (vp_updL o 0 v) ++ wC ad cy σ1) hC hI 0 0 rfl rfl (by decide) rfl dL_look_7 (fun H locs hI => ?_)
    refine lv_goto (tgt := 14) hx hb dL_look_8 (by decide) ?_
    refine lv_iconst (v := 0) hx hb dL_look_14 (by decide) ?_
    exact z_hret (w := fun x : zHs => zHo ao co x.1 ++ wC ad cy x.2) (x := (vp_updL o 0 v, σ1)) hC hI (Option.some.inj hf) (Nat.le_of_ble_eq_true rfl) (Nat.le_of_ble_eq_true rfl) dL_look_15
theorem hdL_look : yL_look.cls ≠ "java/lang/invoke/MethodHandle" ∧ yL_look.cls ≠ "java/lang/invoke/VarHandle" ∧ (parseMethodDescriptor yL_look.desc).map (fun d => d.parameters.length) = some 3 := by decide +kernel
end ZJN5
section ZJN6
noncomputable def wzL_cell : List Cond := .code yL_cell cL_cell 2 (some .int) :: wsL_law
noncomputable def kn_cL_cell : Nat := 0xac030400a72e1b2a0900a2be2a1b
theorem zk_cL_cell : zkd cL_cell.data.toList kn_cL_cell = true := by decide +kernel
theorem zn_cL_cell : cL_cell.data.toList.length = 14 := by decide +kernel
theorem dL_cell_0 : decode cL_cell 0 = .ok (.iload_n 1, 1) := zo_27 (zkb zk_cL_cell zn_cL_cell rfl)
theorem dL_cell_1 : decode cL_cell 1 = .ok (.aload_n 0, 1) := zo_42 (zkb zk_cL_cell zn_cL_cell rfl)
theorem dL_cell_2 : decode cL_cell 2 = .ok (.arraylength, 1) := zo_190 (zkb zk_cL_cell zn_cL_cell rfl)
theorem dL_cell_3 : decode cL_cell 3 = .ok (.if_icmp .ge 9, 3) := zo_162 (b1 := 0) (b2 := 9) (zkb3 zk_cL_cell zn_cL_cell rfl) rfl
theorem dL_cell_6 : decode cL_cell 6 = .ok (.aload_n 0, 1) := zo_42 (zkb zk_cL_cell zn_cL_cell rfl)
theorem dL_cell_7 : decode cL_cell 7 = .ok (.iload_n 1, 1) := zo_27 (zkb zk_cL_cell zn_cL_cell rfl)
theorem dL_cell_8 : decode cL_cell 8 = .ok (.iaload, 1) := zo_46 (zkb zk_cL_cell zn_cL_cell rfl)
theorem dL_cell_9 : decode cL_cell 9 = .ok (.goto 4, 3) := zo_167 (b1 := 0) (b2 := 4) (zkb3 zk_cL_cell zn_cL_cell rfl) rfl
theorem dL_cell_12 : decode cL_cell 12 = .ok (.iconst 0, 1) := zo_3 (zkb zk_cL_cell zn_cL_cell rfl)
theorem dL_cell_13 : decode cL_cell 13 = .ok (.ireturn, 1) := zo_172 (zkb zk_cL_cell zn_cL_cell rfl)
noncomputable def rmL_cell : Room := { frames := 0, cells := 0, slots := 0, locals := 0 }
/-- what cell(script, 0) answers -/
noncomputable def zCell (L : Nat) (xs : Nat → Int32) : Int32 := if Int32.ofNat L ≤ 0 then 0 else xs 0
noncomputable def zXP (b L : Nat) (xs : Nat → Int32) (sz : Nat) : State → Prop := fun U => U.heap.size = sz ∧ b < sz ∧ va_X b L xs U U.heap
theorem zXP.blind {av : List Value} {b L sz : Nat} {xs : Nat → Int32} : FrameBlind (va_Pc av (zXP b L xs sz)) := fun a U g mk q => by
  obtain ⟨q0, q1, q2, qX⟩ := q
  exact ⟨q0, q1, q2, va_X.moved (u := U) (U := U.calling g mk a) (Vm.Alike.refl U.vm) qX⟩
theorem cL_cell_met (l : Launch) (b L : Nat) (xs : Nat → Int32) (sz : Nat) : Met l yL_cell wzL_cell rmL_cell (va_Pc [.ref b, .int 0] (zXP b L xs sz)) (va_Qi (fun (r : Int32) (_ : Unit) => r = zCell L xs) (fun _ _ => True) (va_A [] sz)) 0 0 (va_A [] sz) := by
  refine Met.ofW (cc := cL_cell) (maxL := 2) (ret := some .int) (by decide) rfl ?_
  intro p e s m args below meth c s₁ B hml hv
  obtain ⟨rfl, hsz, hb0, hX⟩ := hv
  have hl := lv_entry [.ref b, .int 0] (n := 2) (Nat.le_of_ble_eq_true rfl)
  rw [lg_entry_eq]
  have hx := B.exec
  have hb := B.bytes
  have hS : va_S (va_A [] sz) s.heap s.heap [] := va_S.rf
  have hbA : ¬ va_A [] sz b := fun h => by
    rcases h with ⟨k, e2, h⟩ | h
    · simp at h
    · omega
  have hbl : b < s.heap.size := by rw [hsz]; exact hb0
  refine lv_iload_n hx hb dL_cell_0 rfl (lv_at hl 1 rfl) ?_
  refine lv_aload_n hx hb dL_cell_1 rfl (lv_at hl 0 rfl) ?_
  refine va_slen hx hb hX hbl hbA hS dL_cell_2 ?_
  refine lv_icmp_ge (tgt := 12) hx hb dL_cell_3 (by decide) (fun q => ?_) (fun q => ?_)
  · refine lv_iconst (v := 0) hx hb dL_cell_12 (by decide) ?_
    exact W.iret (v := 0) hx hb B.returns (fun t ht hW => ⟨⟨0, (), rfl, (if_pos q).symm, trivial⟩, hS.F ht⟩) hS.2.2 dL_cell_13 B.notSynchronized
  · refine lv_aload_n hx hb dL_cell_6 rfl (lv_at hl 0 rfl) ?_
    refine lv_iload_n hx hb dL_cell_7 rfl (lv_at hl 1 rfl) ?_
    have hin : vp_in 0 L := fun h => by
      rcases h with h | h
      · exact absurd h (by decide)
      · have e0 : L = 0 := Nat.le_zero.mp h
        subst e0
        exact q (by decide)
    refine va_sld (i := 0) hx hb hX hbl hbA hS hin dL_cell_8 ?_
    refine lv_goto (tgt := 13) hx hb dL_cell_9 (by decide) ?_
    exact W.iret (v := xs 0) hx hb B.returns (fun t ht hW => ⟨⟨xs 0, (), rfl, (if_neg q).symm, trivial⟩, hS.F ht⟩) hS.2.2 dL_cell_13 B.notSynchronized
theorem hdL_cell : yL_cell.cls ≠ "java/lang/invoke/MethodHandle" ∧ yL_cell.cls ≠ "java/lang/invoke/VarHandle" ∧ (parseMethodDescriptor yL_cell.desc).map (fun d => d.parameters.length) = some 2 := by decide +kernel
section ZCL
variable {p : Program} {l : Launch} {e : Env} {R : Room} {s : State} {m : MethodId} {args : Array Value} {below : List Frame} {meth : Method} {c : Code} {H H1 : Heap} {locs locs1 : List Loc} {cells slots : Nat} {Q : State → Prop}
variable {st : Nat → Nat} {D : va_G} {tys : List (ClassId × FieldType)} {A : Nat → Prop} {cc : ByteArray} {nL : Nat} {Ts : List Cond} {own : String} {pc index : Nat} {ls : Array Slot} {rest st0 : List Value} {ret : Option FieldType} {w : va_W} {lv : List (Nat × Value)} {b L : Nat} {xs : Nat → Int32}
/-- what is not written stays -/
theorem z_stay (hI : zI st D tys w A s H locs) (hS : va_S A s.heap H1 locs1) (hk : ∀ q : Nat, q < H.size → H1[q]? = H[q]?) : zI st D tys w A s H1 locs1 :=
  ⟨hI.1, fun k q h => (hI.2.1 k q h).kept (hk q.1 (hI.2.1 k q h).lt), hI.2.2.1, hS, hI.2.2.2.2⟩
theorem z_cell (hC : zC p m c cc nL s args Ts own meth ret) (hI : zI st D tys w A s H locs) (hX : va_X b L xs s s.heap) (hbl : b < s.heap.size) (hbA : ¬ A b) (hT : GoodIn Ts (va_wsS own index yL_cell wzL_cell)) (hR : 1 ≤ R.frames ∧ 21 ≤ R.locals) (hl : lv_has ls nL lv) (hst : st0 = [.int 0, .ref b] ++ rest) (hW : (rest.map fun v => v.category).sum ≤ 8) (hdg : decode cc pc = .ok (.invokestatic index, 3)) (hcl : cells ≤ R.cells ∧ slots ≤ R.slots)
    (kk : ∀ (H1 : Heap) (locs1 : List Loc), zI st D tys w A s H1 locs1 → W p l e R s m args below meth c H1 locs1 cells slots Q (F0 m (pc + 3) ls (.int (zCell L xs) :: rest))) : W p l e R s m args below meth c H locs cells slots Q (F0 m pc ls st0) := by
  have hS := hI.2.2.2.1
  refine va_calli (va_runS (As := [.ref b, .int 0]) (rest := rest) ⟨hC.1, hC.2.1, hC.2.2.1, hC.2.2.2.1, hC.2.2.2.2.1⟩ (cL_cell_met l b L xs H.size) (va_cwS 2 hC.2.2.2.2.1 hT rfl rfl rfl hdL_cell ⟨hR.1, hR.2⟩) ⟨zXP.blind, fun U hU hW => ⟨rfl, by rw [hU], Nat.lt_of_lt_of_le hbl hS.1, va_X.moved hW.alike (by rw [hU]; exact hX.kept (hS.2.1 b hbl hbA))⟩⟩ rfl rfl hl.1 hst (lv_room hW) hdg hcl) hS (fun q hq h => ?_) (fun q h => ?_) (fun r' u t H1 locs1 ht hvm hw' hB _ hk1 hS1 => ?_)
  · rcases h with ⟨k, e2, h⟩ | h
    · simp at h
    · omega
  · rcases h with ⟨k, e2, h⟩ | h
    · simp at h
    · exact hI.2.2.2.2.1 _ (Nat.le_trans hS.1 h)
  · rw [hw']
    exact kk H1 locs1 (z_stay hI hS1 (fun q hq => hk1 q hq (fun h => by
      rcases h with ⟨k, e2, h⟩ | h
      · simp at h
      · omega)))
end ZCL
end ZJN6
section ZJN7
/-! Calls beside other cells -/
section ZF
variable {p : Program} {l : Launch} {e : Env} {R : Room} {s : State} {m : MethodId} {args : Array Value} {below : List Frame} {meth : Method} {c : Code} {H : Heap} {locs : List Loc} {cells slots : Nat} {Q : State → Prop}
variable {st : Nat → Nat} {D : va_G} {tys tys0 : List (ClassId × FieldType)} {A : Nat → Prop} {cc : ByteArray} {nL : Nat} {Ts : List Cond} {own : String} {pc : Nat} {ls : Array Slot} {rest st0 : List Value} {ret : Option FieldType} {u : va_W}
variable {y : MethodName} {ws ws' : List Cond} {rm : Room} {bytes : ByteArray} {maxL index : Nat} {rt : Option FieldType} {As : List Value} {lv : List (Nat × Value)} {C : String} {b : Nat}
theorem z_fcallVi (hC : zC p m c cc nL s args Ts own meth ret) {w : zSt → va_W} {σ σ1 : zSt} {r : Int32} (hI : zI st D tys0 (u ++ w σ) A s H locs) (hK : va_K D vwCl tys s) (hM : ∀ sz, zMi st l y ws rm (.ref b :: As) D tys w sz σ (σ1, r)) (hT : GoodIn Ts (wsV own index C y ws)) (hw : ws = Cond.code y bytes maxL rt :: ws') (hrm : rm.cells = 0 ∧ rm.slots = 0) (n : Nat)
    (hd : y.cls = C ∧ y.cls ≠ "java/lang/invoke/MethodHandle" ∧ y.cls ≠ "java/lang/invoke/VarHandle" ∧ (parseMethodDescriptor y.desc).map (fun d => d.parameters.length) = some n) (hR : rm.frames + 1 ≤ R.frames ∧ 8 + (maxL + 11) + rm.locals ≤ R.locals)
    {q0 ci : Nat} {q : vw_C} {fs : List Value} (hc : vwCl[ci]? = some q) (hq : q.1 = C) (he : (w σ)[q0]? = some (b, .inr (ci, fs))) (hn : As.length = n) (hl : lv_has ls nL lv) (hst : st0 = As.reverse ++ .ref b :: rest) (hW : (rest.map fun v => v.category).sum ≤ 8) (hdg : decode cc pc = .ok (.invokevirtual index, 3)) (hcl : cells ≤ R.cells ∧ slots ≤ R.slots)
    (kk : ∀ (H1 : Heap) (locs1 : List Loc), zI st D tys0 (u ++ w σ1) A s H1 locs1 → W p l e R s m args below meth c H1 locs1 cells slots Q (F0 m (pc + 3) ls (.int r :: rest))) : W p l e R s m args below meth c H locs cells slots Q (F0 m pc ls st0) := by
  subst hq
  refine va_calli (va_runV (As := As) (rest := rest) ⟨hC.1, hC.2.1, hC.2.2.1, hC.2.2.2.1, hC.2.2.2.2.1⟩ (hM H.size) (cwV n hC.2.2.2.2.1 hT hw hrm.1 hrm.2 hd hR) ⟨zP.blind, va_recv hK (z_subR hI.2.1) hc he, zP.atR hI hK⟩ rfl hn hl.1 hst (lv_room hW) hdg hcl) hI.2.2.2.1 (fun q _ h => z_freeR hI q h) (z_freeR hI) (fun r' u9 t H1 locs1 ht hvm hw' hB _ hk1 hS => ?_)
  obtain ⟨rfl, rfl⟩ := Prod.mk.inj hw'
  exact kk H1 locs1 (z_backR hI ht hB hk1 hS)
theorem z_fcallVl (hC : zC p m c cc nL s args Ts own meth ret) {w : zSt → va_W} {σ σ1 : zSt} {r : Int64} (hI : zI st D tys0 (u ++ w σ) A s H locs) (hK : va_K D vwCl tys s) (hM : ∀ sz, zMl st l y ws rm (.ref b :: As) D tys w sz σ (σ1, r)) (hT : GoodIn Ts (wsV own index C y ws)) (hw : ws = Cond.code y bytes maxL rt :: ws') (hrm : rm.cells = 0 ∧ rm.slots = 0) (n : Nat)
    (hd : y.cls = C ∧ y.cls ≠ "java/lang/invoke/MethodHandle" ∧ y.cls ≠ "java/lang/invoke/VarHandle" ∧ (parseMethodDescriptor y.desc).map (fun d => d.parameters.length) = some n) (hR : rm.frames + 1 ≤ R.frames ∧ 8 + (maxL + 11) + rm.locals ≤ R.locals)
    {q0 ci : Nat} {q : vw_C} {fs : List Value} (hc : vwCl[ci]? = some q) (hq : q.1 = C) (he : (w σ)[q0]? = some (b, .inr (ci, fs))) (hn : As.length = n) (hl : lv_has ls nL lv) (hst : st0 = As.reverse ++ .ref b :: rest) (hW : (rest.map fun v => v.category).sum ≤ 8) (hdg : decode cc pc = .ok (.invokevirtual index, 3)) (hcl : cells ≤ R.cells ∧ slots ≤ R.slots)
    (kk : ∀ (H1 : Heap) (locs1 : List Loc), zI st D tys0 (u ++ w σ1) A s H1 locs1 → W p l e R s m args below meth c H1 locs1 cells slots Q (F0 m (pc + 3) ls (.long r :: rest))) : W p l e R s m args below meth c H locs cells slots Q (F0 m pc ls st0) := by
  subst hq
  refine va_calll (va_runV (As := As) (rest := rest) ⟨hC.1, hC.2.1, hC.2.2.1, hC.2.2.2.1, hC.2.2.2.2.1⟩ (hM H.size) (cwV n hC.2.2.2.2.1 hT hw hrm.1 hrm.2 hd hR) ⟨zP.blind, va_recv hK (z_subR hI.2.1) hc he, zP.atR hI hK⟩ rfl hn hl.1 hst (lv_room hW) hdg hcl) hI.2.2.2.1 (fun q _ h => z_freeR hI q h) (z_freeR hI) (fun r' u9 t H1 locs1 ht hvm hw' hB _ hk1 hS => ?_)
  obtain ⟨rfl, rfl⟩ := Prod.mk.inj hw'
  exact kk H1 locs1 (z_backR hI ht hB hk1 hS)
theorem z_fcallVu (hC : zC p m c cc nL s args Ts own meth ret) {w : zSt → va_W} {σ σ1 : zSt} (hI : zI st D tys0 (u ++ w σ) A s H locs) (hK : va_K D vwCl tys s) (hM : ∀ sz, zMu st l y ws rm (.ref b :: As) D tys w sz σ σ1) (hT : GoodIn Ts (wsV own index C y ws)) (hw : ws = Cond.code y bytes maxL rt :: ws') (hrm : rm.cells = 0 ∧ rm.slots = 0) (n : Nat)
    (hd : y.cls = C ∧ y.cls ≠ "java/lang/invoke/MethodHandle" ∧ y.cls ≠ "java/lang/invoke/VarHandle" ∧ (parseMethodDescriptor y.desc).map (fun d => d.parameters.length) = some n) (hR : rm.frames + 1 ≤ R.frames ∧ 8 + (maxL + 11) + rm.locals ≤ R.locals)
    {q0 ci : Nat} {q : vw_C} {fs : List Value} (hc : vwCl[ci]? = some q) (hq : q.1 = C) (he : (w σ)[q0]? = some (b, .inr (ci, fs))) (hn : As.length = n) (hl : lv_has ls nL lv) (hst : st0 = As.reverse ++ .ref b :: rest) (hW : (rest.map fun v => v.category).sum ≤ 8) (hdg : decode cc pc = .ok (.invokevirtual index, 3)) (hcl : cells ≤ R.cells ∧ slots ≤ R.slots)
    (kk : ∀ (H1 : Heap) (locs1 : List Loc), zI st D tys0 (u ++ w σ1) A s H1 locs1 → W p l e R s m args below meth c H1 locs1 cells slots Q (F0 m (pc + 3) ls rest)) : W p l e R s m args below meth c H locs cells slots Q (F0 m pc ls st0) := by
  subst hq
  refine va_callv (va_runV (As := As) (rest := rest) ⟨hC.1, hC.2.1, hC.2.2.1, hC.2.2.2.1, hC.2.2.2.2.1⟩ (hM H.size) (cwV n hC.2.2.2.2.1 hT hw hrm.1 hrm.2 hd hR) ⟨zP.blind, va_recv hK (z_subR hI.2.1) hc he, zP.atR hI hK⟩ rfl hn hl.1 hst (lv_room hW) hdg hcl) hI.2.2.2.1 (fun q _ h => z_freeR hI q h) (z_freeR hI) (fun u9 t H1 locs1 ht hvm hw' hB _ hk1 hS => ?_)
  subst hw'
  exact kk H1 locs1 (z_backR hI ht hB hk1 hS)
/-- a helper of the law's -/
theorem z_fcallH (hC : zC p m c cc nL s args Ts own meth ret) {S : Type} {w : S → va_W} {x x1 : S} {r : Int32} (hI : zI st D tys0 (u ++ w x) A s H locs) (hK : va_K D vwCl tys s) (hM : ∀ sz, zH st l y ws rm As D tys w sz x (x1, r)) {hh : List (Nat × Nat × Nat × Nat)} (hT : GoodIn Ts (va_wsS own index y ws)) (hw : ws = Cond.codeWith y bytes maxL rt hh :: ws') (hrm : rm.cells = 1 ∧ rm.slots = 6) (n : Nat)
    (hd : y.cls ≠ "java/lang/invoke/MethodHandle" ∧ y.cls ≠ "java/lang/invoke/VarHandle" ∧ (parseMethodDescriptor y.desc).map (fun d => d.parameters.length) = some n) (hR : rm.frames + 1 ≤ R.frames ∧ 8 + (maxL + 11) + rm.locals ≤ R.locals)
    (hn : As.length = n) (hl : lv_has ls nL lv) (hst : st0 = As.reverse ++ rest) (hW : (rest.map fun v => v.category).sum ≤ 8) (hdg : decode cc pc = .ok (.invokestatic index, 3)) (hcl : cells + 1 ≤ R.cells ∧ slots + 6 ≤ R.slots)
    (kk : ∀ (H1 : Heap) (locs1 : List Loc), zI st D tys0 (u ++ w x1) A s H1 locs1 → W p l e R s m args below meth c H1 locs1 (cells + 1) (slots + 6) Q (F0 m (pc + 3) ls (.int r :: rest))) : W p l e R s m args below meth c H locs cells slots Q (F0 m pc ls st0) := by
  refine vx_calli (vx_runSX (As := As) (rest := rest) (hh := hh) ⟨hC.1, hC.2.1, hC.2.2.1, hC.2.2.2.1, hC.2.2.2.2.1⟩ (hM H.size) (vx_cwSW n hC.2.2.2.2.1 hT hw hrm.1 hrm.2 hd hR) ⟨zP.blind, zP.atR hI hK⟩ rfl hn hl.1 hst (lv_room hW) hdg hcl) hI.2.2.2.1 (fun q _ h => z_freeR hI q h) (z_freeR hI) (fun q _ h => z_freeR hI q h) (fun E ce q9 u9 t H1 locs1 ht hvm hF => hF.elim) (fun r' u9 t H1 locs1 ht hvm hw' hB _ hk1 hS => ?_)
  obtain ⟨rfl, rfl⟩ := Prod.mk.inj hw'
  obtain ⟨hP1, hK1, hD1⟩ := hB
  rw [ht] at hP1
  obtain ⟨hP, hD⟩ := z_seg hI.2.1 hI.2.2.1 hk1 (z_freeR hI) hP1 hD1
  exact kk H1 locs1 ⟨hI.1, hP, hD, hS, hI.2.2.2.2⟩
end ZF
end ZJN7
