def wzL_cell : List Cond := .code yL_cell cL_cell 2 (some .int) :: wsL_law
def kn_cL_cell : Nat := 0xac030400a72e1b2a0900a2be2a1b
theorem zk_cL_cell : zkd cL_cell.data.toList kn_cL_cell = true := by decide +kernel
theorem zn_cL_cell : cL_cell.data.toList.length = 14 := by decide +kernel
theorem dL_cell_0 : decode cL_cell 0 = .ok (.iload_n 1, 1) := zo_27 (zkb zk_cL_cell zn_cL_cell (by decide +kernel))
theorem dL_cell_1 : decode cL_cell 1 = .ok (.aload_n 0, 1) := zo_42 (zkb zk_cL_cell zn_cL_cell (by decide +kernel))
theorem dL_cell_2 : decode cL_cell 2 = .ok (.arraylength, 1) := zo_190 (zkb zk_cL_cell zn_cL_cell (by decide +kernel))
theorem dL_cell_3 : decode cL_cell 3 = .ok (.if_icmp .ge 9, 3) := zo_162 (b1 := 0) (b2 := 9) (zkb3 zk_cL_cell zn_cL_cell (by decide +kernel)) rfl
theorem dL_cell_6 : decode cL_cell 6 = .ok (.aload_n 0, 1) := zo_42 (zkb zk_cL_cell zn_cL_cell (by decide +kernel))
theorem dL_cell_7 : decode cL_cell 7 = .ok (.iload_n 1, 1) := zo_27 (zkb zk_cL_cell zn_cL_cell (by decide +kernel))
theorem dL_cell_8 : decode cL_cell 8 = .ok (.iaload, 1) := zo_46 (zkb zk_cL_cell zn_cL_cell (by decide +kernel))
theorem dL_cell_9 : decode cL_cell 9 = .ok (.goto 4, 3) := zo_167 (b1 := 0) (b2 := 4) (zkb3 zk_cL_cell zn_cL_cell (by decide +kernel)) rfl
theorem dL_cell_12 : decode cL_cell 12 = .ok (.iconst 0, 1) := zo_3 (zkb zk_cL_cell zn_cL_cell (by decide +kernel))
theorem dL_cell_13 : decode cL_cell 13 = .ok (.ireturn, 1) := zo_172 (zkb zk_cL_cell zn_cL_cell (by decide +kernel))
def rmL_cell : Room := { frames := 0, cells := 0, slots := 0, locals := 0 }
/-- what cell(script, 0) answers -/
def zCell (L : Nat) (xs : Nat → Int32) : Int32 := if Int32.ofNat L ≤ 0 then 0 else xs 0
def zXP (b L : Nat) (xs : Nat → Int32) (sz : Nat) : State → Prop := fun U => U.heap.size = sz ∧ b < sz ∧ va_X b L xs U U.heap
theorem zXP.blind {av : List Value} {b L sz : Nat} {xs : Nat → Int32} : FrameBlind (va_Pc av (zXP b L xs sz)) := fun a U g mk q => by
  obtain ⟨q0, q1, q2, qX⟩ := q
  exact ⟨q0, q1, q2, va_X.moved (u := U) (U := U.calling g mk a) (Vm.Alike.refl U.vm) qX⟩
theorem cL_cell_met (l : Launch) (b L : Nat) (xs : Nat → Int32) (sz : Nat) : Met l yL_cell wzL_cell rmL_cell (va_Pc [.ref b, .int 0] (zXP b L xs sz)) (va_Qi (fun (r : Int32) (_ : Unit) => r = zCell L xs) (fun _ _ => True) (va_A [] sz)) 0 0 (va_A [] sz) := by
  refine Met.ofW (cc := cL_cell) (maxL := 2) (ret := some .int) (by decide) rfl ?_
  intro p e s m args below meth c s₁ B hml hv
  obtain ⟨rfl, hsz, hb0, hX⟩ := hv
  have hl := lv_entry [.ref b, .int 0] (n := 2) (Nat.le_of_ble_eq_true rfl)
  rw [lg_entry_eq]
  have hx := B.exec
  have hb := B.bytes
  have hS : va_S (va_A [] sz) s.heap s.heap [] := va_S.rf
  have hbA : ¬ va_A [] sz b := fun h => by
    rcases h with ⟨k, e2, h⟩ | h
    · simp at h
    · omega
  have hbl : b < s.heap.size := by rw [hsz]; exact hb0
  refine lv_iload_n hx hb dL_cell_0 rfl (lv_at hl 1 rfl) ?_
  refine lv_aload_n hx hb dL_cell_1 rfl (lv_at hl 0 rfl) ?_
  refine va_slen hx hb hX hbl hbA hS dL_cell_2 ?_
  refine lv_icmp_ge (tgt := 12) hx hb dL_cell_3 (by decide) (fun q => ?_) (fun q => ?_)
  · refine lv_iconst (v := 0) hx hb dL_cell_12 (by decide) ?_
    exact W.iret (v := 0) hx hb B.returns (fun t ht hW => ⟨⟨0, (), rfl, (if_pos q).symm, trivial⟩, hS.F ht⟩) hS.2.2 dL_cell_13 B.notSynchronized
  · refine lv_aload_n hx hb dL_cell_6 rfl (lv_at hl 0 rfl) ?_
    refine lv_iload_n hx hb dL_cell_7 rfl (lv_at hl 1 rfl) ?_
    have hin : vp_in 0 L := fun h => by
      rcases h with h | h
      · exact absurd h (by decide)
      · have e0 : L = 0 := Nat.le_zero.mp h
        subst e0
        exact q (by decide)
    refine va_sld (i := 0) hx hb hX hbl hbA hS hin dL_cell_8 ?_
    refine lv_goto (tgt := 13) hx hb dL_cell_9 (by decide) ?_
    exact W.iret (v := xs 0) hx hb B.returns (fun t ht hW => ⟨⟨xs 0, (), rfl, (if_neg q).symm, trivial⟩, hS.F ht⟩) hS.2.2 dL_cell_13 B.notSynchronized
theorem hdL_cell : yL_cell.cls ≠ "java/lang/invoke/MethodHandle" ∧ yL_cell.cls ≠ "java/lang/invoke/VarHandle" ∧ (parseMethodDescriptor yL_cell.desc).map (fun d => d.parameters.length) = some 2 := by decide +kernel
section ZCL
variable {p : Program} {l : Launch} {e : Env} {R : Room} {s : State} {m : MethodId} {args : Array Value} {below : List Frame} {meth : Method} {c : Code} {H H1 : Heap} {locs locs1 : List Loc} {cells slots : Nat} {Q : State → Prop}
variable {st : Nat → Nat} {D : va_G} {tys : List (ClassId × FieldType)} {A : Nat → Prop} {cc : ByteArray} {nL : Nat} {Ts : List Cond} {own : String} {pc index : Nat} {ls : Array Slot} {rest st0 : List Value} {ret : Option FieldType} {w : va_W} {lv : List (Nat × Value)} {b L : Nat} {xs : Nat → Int32}
/-- what is not written stays -/
theorem z_stay (hI : zI st D tys w A s H locs) (hS : va_S A s.heap H1 locs1) (hk : ∀ q : Nat, q < H.size → H1[q]? = H[q]?) : zI st D tys w A s H1 locs1 :=
  ⟨hI.1, fun k q h => (hI.2.1 k q h).kept (hk q.1 (hI.2.1 k q h).lt), hI.2.2.1, hS, hI.2.2.2.2⟩
theorem z_cell (hC : zC p m c cc nL s args Ts own meth ret) (hI : zI st D tys w A s H locs) (hX : va_X b L xs s s.heap) (hbl : b < s.heap.size) (hbA : ¬ A b) (hT : GoodIn Ts (va_wsS own index yL_cell wzL_cell)) (hR : 1 ≤ R.frames ∧ 21 ≤ R.locals) (hl : lv_has ls nL lv) (hst : st0 = [.int 0, .ref b] ++ rest) (hW : (rest.map fun v => v.category).sum ≤ 8) (hdg : decode cc pc = .ok (.invokestatic index, 3)) (hcl : cells ≤ R.cells ∧ slots ≤ R.slots)
    (kk : ∀ (H1 : Heap) (locs1 : List Loc), zI st D tys w A s H1 locs1 → W p l e R s m args below meth c H1 locs1 cells slots Q (F0 m (pc + 3) ls (.int (zCell L xs) :: rest))) : W p l e R s m args below meth c H locs cells slots Q (F0 m pc ls st0) := by
  have hS := hI.2.2.2.1
  refine va_calli (va_runS (As := [.ref b, .int 0]) (rest := rest) ⟨hC.1, hC.2.1, hC.2.2.1, hC.2.2.2.1, hC.2.2.2.2.1⟩ (cL_cell_met l b L xs H.size) (va_cwS 2 hC.2.2.2.2.1 hT rfl rfl rfl hdL_cell ⟨hR.1, hR.2⟩) ⟨zXP.blind, fun U hU hW => ⟨rfl, by rw [hU], Nat.lt_of_lt_of_le hbl hS.1, va_X.moved hW.alike (by rw [hU]; exact hX.kept (hS.2.1 b hbl hbA))⟩⟩ rfl rfl hl.1 hst (lv_room hW) hdg hcl) hS (fun q hq h => ?_) (fun q h => ?_) (fun r' u t H1 locs1 ht hvm hw' hB _ hk1 hS1 => ?_)
  · rcases h with ⟨k, e2, h⟩ | h
    · simp at h
    · omega
  · rcases h with ⟨k, e2, h⟩ | h
    · simp at h
    · exact hI.2.2.2.2.1 _ (Nat.le_trans hS.1 h)
  · rw [hw']
    exact kk H1 locs1 (z_stay hI hS1 (fun q hq => hk1 q hq (fun h => by
      rcases h with ⟨k, e2, h⟩ | h
      · simp at h
      · omega)))
end ZCL
