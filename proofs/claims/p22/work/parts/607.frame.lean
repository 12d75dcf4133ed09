/-! Calls beside other cells -/
section ZF
variable {p : Program} {l : Launch} {e : Env} {R : Room} {s : State} {m : MethodId} {args : Array Value} {below : List Frame} {meth : Method} {c : Code} {H : Heap} {locs : List Loc} {cells slots : Nat} {Q : State → Prop}
variable {st : Nat → Nat} {D : va_G} {tys tys0 : List (ClassId × FieldType)} {A : Nat → Prop} {cc : ByteArray} {nL : Nat} {Ts : List Cond} {own : String} {pc : Nat} {ls : Array Slot} {rest st0 : List Value} {ret : Option FieldType} {u : va_W}
variable {y : MethodName} {ws ws' : List Cond} {rm : Room} {bytes : ByteArray} {maxL index : Nat} {rt : Option FieldType} {As : List Value} {lv : List (Nat × Value)} {C : String} {b : Nat}
theorem z_fcallVi (hC : zC p m c cc nL s args Ts own meth ret) {w : zSt → va_W} {σ σ1 : zSt} {r : Int32} (hI : zI st D tys0 (u ++ w σ) A s H locs) (hK : va_K D vwCl tys s) (hM : ∀ sz, zMi st l y ws rm (.ref b :: As) D tys w sz σ (σ1, r)) (hT : GoodIn Ts (wsV own index C y ws)) (hw : ws = Cond.code y bytes maxL rt :: ws') (hrm : rm.cells = 0 ∧ rm.slots = 0) (n : Nat)
    (hd : y.cls = C ∧ y.cls ≠ "java/lang/invoke/MethodHandle" ∧ y.cls ≠ "java/lang/invoke/VarHandle" ∧ (parseMethodDescriptor y.desc).map (fun d => d.parameters.length) = some n) (hR : rm.frames + 1 ≤ R.frames ∧ 8 + (maxL + 11) + rm.locals ≤ R.locals)
    {q0 ci : Nat} {q : vw_C} {fs : List Value} (hc : vwCl[ci]? = some q) (hq : q.1 = C) (he : (w σ)[q0]? = some (b, .inr (ci, fs))) (hn : As.length = n) (hl : lv_has ls nL lv) (hst : st0 = As.reverse ++ .ref b :: rest) (hW : (rest.map fun v => v.category).sum ≤ 8) (hdg : decode cc pc = .ok (.invokevirtual index, 3)) (hcl : cells ≤ R.cells ∧ slots ≤ R.slots)
    (kk : ∀ (H1 : Heap) (locs1 : List Loc), zI st D tys0 (u ++ w σ1) A s H1 locs1 → W p l e R s m args below meth c H1 locs1 cells slots Q (F0 m (pc + 3) ls (.int r :: rest))) : W p l e R s m args below meth c H locs cells slots Q (F0 m pc ls st0) := by
  subst hq
  refine va_calli (va_runV (As := As) (rest := rest) ⟨hC.1, hC.2.1, hC.2.2.1, hC.2.2.2.1, hC.2.2.2.2.1⟩ (hM H.size) (cwV n hC.2.2.2.2.1 hT hw hrm.1 hrm.2 hd hR) ⟨zP.blind, va_recv hK (z_subR hI.2.1) hc he, zP.atR hI hK⟩ rfl hn hl.1 hst (lv_room hW) hdg hcl) hI.2.2.2.1 (fun q _ h => z_freeR hI q h) (z_freeR hI) (fun r' u9 t H1 locs1 ht hvm hw' hB _ hk1 hS => ?_)
  obtain ⟨rfl, rfl⟩ := Prod.mk.inj hw'
  exact kk H1 locs1 (z_backR hI ht hB hk1 hS)
theorem z_fcallVl (hC : zC p m c cc nL s args Ts own meth ret) {w : zSt → va_W} {σ σ1 : zSt} {r : Int64} (hI : zI st D tys0 (u ++ w σ) A s H locs) (hK : va_K D vwCl tys s) (hM : ∀ sz, zMl st l y ws rm (.ref b :: As) D tys w sz σ (σ1, r)) (hT : GoodIn Ts (wsV own index C y ws)) (hw : ws = Cond.code y bytes maxL rt :: ws') (hrm : rm.cells = 0 ∧ rm.slots = 0) (n : Nat)
    (hd : y.cls = C ∧ y.cls ≠ "java/lang/invoke/MethodHandle" ∧ y.cls ≠ "java/lang/invoke/VarHandle" ∧ (parseMethodDescriptor y.desc).map (fun d => d.parameters.length) = some n) (hR : rm.frames + 1 ≤ R.frames ∧ 8 + (maxL + 11) + rm.locals ≤ R.locals)
    {q0 ci : Nat} {q : vw_C} {fs : List Value} (hc : vwCl[ci]? = some q) (hq : q.1 = C) (he : (w σ)[q0]? = some (b, .inr (ci, fs))) (hn : As.length = n) (hl : lv_has ls nL lv) (hst : st0 = As.reverse ++ .ref b :: rest) (hW : (rest.map fun v => v.category).sum ≤ 8) (hdg : decode cc pc = .ok (.invokevirtual index, 3)) (hcl : cells ≤ R.cells ∧ slots ≤ R.slots)
    (kk : ∀ (H1 : Heap) (locs1 : List Loc), zI st D tys0 (u ++ w σ1) A s H1 locs1 → W p l e R s m args below meth c H1 locs1 cells slots Q (F0 m (pc + 3) ls (.long r :: rest))) : W p l e R s m args below meth c H locs cells slots Q (F0 m pc ls st0) := by
  subst hq
  refine va_calll (va_runV (As := As) (rest := rest) ⟨hC.1, hC.2.1, hC.2.2.1, hC.2.2.2.1, hC.2.2.2.2.1⟩ (hM H.size) (cwV n hC.2.2.2.2.1 hT hw hrm.1 hrm.2 hd hR) ⟨zP.blind, va_recv hK (z_subR hI.2.1) hc he, zP.atR hI hK⟩ rfl hn hl.1 hst (lv_room hW) hdg hcl) hI.2.2.2.1 (fun q _ h => z_freeR hI q h) (z_freeR hI) (fun r' u9 t H1 locs1 ht hvm hw' hB _ hk1 hS => ?_)
  obtain ⟨rfl, rfl⟩ := Prod.mk.inj hw'
  exact kk H1 locs1 (z_backR hI ht hB hk1 hS)
theorem z_fcallVu (hC : zC p m c cc nL s args Ts own meth ret) {w : zSt → va_W} {σ σ1 : zSt} (hI : zI st D tys0 (u ++ w σ) A s H locs) (hK : va_K D vwCl tys s) (hM : ∀ sz, zMu st l y ws rm (.ref b :: As) D tys w sz σ σ1) (hT : GoodIn Ts (wsV own index C y ws)) (hw : ws = Cond.code y bytes maxL rt :: ws') (hrm : rm.cells = 0 ∧ rm.slots = 0) (n : Nat)
    (hd : y.cls = C ∧ y.cls ≠ "java/lang/invoke/MethodHandle" ∧ y.cls ≠ "java/lang/invoke/VarHandle" ∧ (parseMethodDescriptor y.desc).map (fun d => d.parameters.length) = some n) (hR : rm.frames + 1 ≤ R.frames ∧ 8 + (maxL + 11) + rm.locals ≤ R.locals)
    {q0 ci : Nat} {q : vw_C} {fs : List Value} (hc : vwCl[ci]? = some q) (hq : q.1 = C) (he : (w σ)[q0]? = some (b, .inr (ci, fs))) (hn : As.length = n) (hl : lv_has ls nL lv) (hst : st0 = As.reverse ++ .ref b :: rest) (hW : (rest.map fun v => v.category).sum ≤ 8) (hdg : decode cc pc = .ok (.invokevirtual index, 3)) (hcl : cells ≤ R.cells ∧ slots ≤ R.slots)
    (kk : ∀ (H1 : Heap) (locs1 : List Loc), zI st D tys0 (u ++ w σ1) A s H1 locs1 → W p l e R s m args below meth c H1 locs1 cells slots Q (F0 m (pc + 3) ls rest)) : W p l e R s m args below meth c H locs cells slots Q (F0 m pc ls st0) := by
  subst hq
  refine va_callv (va_runV (As := As) (rest := rest) ⟨hC.1, hC.2.1, hC.2.2.1, hC.2.2.2.1, hC.2.2.2.2.1⟩ (hM H.size) (cwV n hC.2.2.2.2.1 hT hw hrm.1 hrm.2 hd hR) ⟨zP.blind, va_recv hK (z_subR hI.2.1) hc he, zP.atR hI hK⟩ rfl hn hl.1 hst (lv_room hW) hdg hcl) hI.2.2.2.1 (fun q _ h => z_freeR hI q h) (z_freeR hI) (fun u9 t H1 locs1 ht hvm hw' hB _ hk1 hS => ?_)
  subst hw'
  exact kk H1 locs1 (z_backR hI ht hB hk1 hS)
/-- a helper of the law's -/
theorem z_fcallH (hC : zC p m c cc nL s args Ts own meth ret) {S : Type} {w : S → va_W} {x x1 : S} {r : Int32} (hI : zI st D tys0 (u ++ w x) A s H locs) (hK : va_K D vwCl tys s) (hM : ∀ sz, zH st l y ws rm As D tys w sz x (x1, r)) {hh : List (Nat × Nat × Nat × Nat)} (hT : GoodIn Ts (va_wsS own index y ws)) (hw : ws = Cond.codeWith y bytes maxL rt hh :: ws') (hrm : rm.cells = 1 ∧ rm.slots = 6) (n : Nat)
    (hd : y.cls ≠ "java/lang/invoke/MethodHandle" ∧ y.cls ≠ "java/lang/invoke/VarHandle" ∧ (parseMethodDescriptor y.desc).map (fun d => d.parameters.length) = some n) (hR : rm.frames + 1 ≤ R.frames ∧ 8 + (maxL + 11) + rm.locals ≤ R.locals)
    (hn : As.length = n) (hl : lv_has ls nL lv) (hst : st0 = As.reverse ++ rest) (hW : (rest.map fun v => v.category).sum ≤ 8) (hdg : decode cc pc = .ok (.invokestatic index, 3)) (hcl : cells + 1 ≤ R.cells ∧ slots + 6 ≤ R.slots)
    (kk : ∀ (H1 : Heap) (locs1 : List Loc), zI st D tys0 (u ++ w x1) A s H1 locs1 → W p l e R s m args below meth c H1 locs1 (cells + 1) (slots + 6) Q (F0 m (pc + 3) ls (.int r :: rest))) : W p l e R s m args below meth c H locs cells slots Q (F0 m pc ls st0) := by
  refine vx_calli (vx_runSX (As := As) (rest := rest) (hh := hh) ⟨hC.1, hC.2.1, hC.2.2.1, hC.2.2.2.1, hC.2.2.2.2.1⟩ (hM H.size) (vx_cwSW n hC.2.2.2.2.1 hT hw hrm.1 hrm.2 hd hR) ⟨zP.blind, zP.atR hI hK⟩ rfl hn hl.1 hst (lv_room hW) hdg hcl) hI.2.2.2.1 (fun q _ h => z_freeR hI q h) (z_freeR hI) (fun q _ h => z_freeR hI q h) (fun E ce q9 u9 t H1 locs1 ht hvm hF => hF.elim) (fun r' u9 t H1 locs1 ht hvm hw' hB _ hk1 hS => ?_)
  obtain ⟨rfl, rfl⟩ := Prod.mk.inj hw'
  obtain ⟨hP1, hK1, hD1⟩ := hB
  rw [ht] at hP1
  obtain ⟨hP, hD⟩ := z_seg hI.2.1 hI.2.2.1 hk1 (z_freeR hI) hP1 hD1
  exact kk H1 locs1 ⟨hI.1, hP, hD, hS, hI.2.2.2.2⟩
end ZF
