section ZN2
variable {p : Program} {l : Launch} {e : Env} {R : Room} {s : State} {m : MethodId} {args : Array Value} {below : List Frame} {meth : Method} {c : Code} {H : Heap} {locs : List Loc} {cells slots : Nat} {Q : State → Prop}
variable {st : Nat → Nat} {D : va_G} {tys : List (ClassId × FieldType)} {A : Nat → Prop} {cc : ByteArray} {nL : Nat} {Ts : List Cond} {own : String} {pc : Nat} {ls : Array Slot} {rest : List Value} {ret : Option FieldType} {w : va_W}
theorem z_newi (hC : zC p m c cc nL s args Ts own meth ret) (hI : zI st D tys w A s H locs) (harr : Cond.arrayClass .int ∈ Ts) {n : Int32} (N' : Nat) (hn : ¬ n < 0) (hN : n.toNatClampNeg = N') (hbytes : N' * componentBytes .int ≤ 536870912) (hcells : cells + 1 ≤ R.cells) (hslots : slots + N' ≤ R.slots) (hdg : decode cc pc = .ok (.newarray .int, 2))
    (kk : ∀ (q : Nat) (cA : ClassId) (H1 : Heap), zI st D (tys ++ [(cA, .int)]) (w ++ [(q, .inl (cA, N', .inl (fun _ => 0)))]) A s H1 locs → W p l e R s m args below meth c H1 locs (cells + 1) (slots + N') Q (F0 m (pc + 2) ls (.ref q :: rest))) : W p l e R s m args below meth c H locs cells slots Q (F0 m pc ls (.int n :: rest)) :=
  z_newa (atype := .int) (ty := .int) (a0 := (N', .inl (fun _ => 0))) hC hI rfl harr N' (fun _ => rfl) hn hN hbytes hcells hslots hdg kk
theorem z_newl (hC : zC p m c cc nL s args Ts own meth ret) (hI : zI st D tys w A s H locs) (harr : Cond.arrayClass .long ∈ Ts) {n : Int32} (N' : Nat) (hn : ¬ n < 0) (hN : n.toNatClampNeg = N') (hbytes : N' * componentBytes .long ≤ 536870912) (hcells : cells + 1 ≤ R.cells) (hslots : slots + N' ≤ R.slots) (hdg : decode cc pc = .ok (.newarray .long, 2))
    (kk : ∀ (q : Nat) (cA : ClassId) (H1 : Heap), zI st D (tys ++ [(cA, .long)]) (w ++ [(q, .inl (cA, N', .inr (.inl (fun _ => 0))))]) A s H1 locs → W p l e R s m args below meth c H1 locs (cells + 1) (slots + N') Q (F0 m (pc + 2) ls (.ref q :: rest))) : W p l e R s m args below meth c H locs cells slots Q (F0 m pc ls (.int n :: rest)) :=
  z_newa (atype := .long) (ty := .long) (a0 := (N', .inr (.inl (fun _ => 0)))) hC hI rfl harr N' (fun _ => rfl) hn hN hbytes hcells hslots hdg kk
end ZN2
noncomputable def rmX2_init : Room := { frames := 1, cells := 8, slots := 607240, locals := 20 }
noncomputable def wzX2_init : List Cond := .code yX2_init cX2_init 1 none :: wsL_law
noncomputable def kn_cX2_init : Nat := 0xb12500b50abc072a2200b54f0306594f0505594f0404594f0303590abc072a1f00b50abc1b122a1c00b50abc1b122a1800b50abc0020112a1500b50abc0020112a1100b5022a0e00b50abc09122a0a00b50abc09122a0100b72a
theorem zk_cX2_init : zkd cX2_init.data.toList kn_cX2_init = true := by decide +kernel
theorem zn_cX2_init : cX2_init.data.toList.length = 90 := by decide +kernel
theorem dX2_init_0 : decode cX2_init 0 = .ok (.aload_n 0, 1) := zo_42 (zkb zk_cX2_init zn_cX2_init rfl)
theorem dX2_init_1 : decode cX2_init 1 = .ok (.invokespecial 1, 3) := zo_183 (b1 := 0) (b2 := 1) (zkb3 zk_cX2_init zn_cX2_init rfl) rfl
theorem dX2_init_4 : decode cX2_init 4 = .ok (.aload_n 0, 1) := zo_42 (zkb zk_cX2_init zn_cX2_init rfl)
theorem dX2_init_5 : decode cX2_init 5 = .ok (.ldc 9, 2) := zo_18 (b1 := 9) (zkb2 zk_cX2_init zn_cX2_init rfl)
theorem dX2_init_7 : decode cX2_init 7 = .ok (.newarray .int, 2) := by decide +kernel
theorem dX2_init_9 : decode cX2_init 9 = .ok (.putfield 10, 3) := zo_181 (b1 := 0) (b2 := 10) (zkb3 zk_cX2_init zn_cX2_init rfl) rfl
theorem dX2_init_12 : decode cX2_init 12 = .ok (.aload_n 0, 1) := zo_42 (zkb zk_cX2_init zn_cX2_init rfl)
theorem dX2_init_13 : decode cX2_init 13 = .ok (.ldc 9, 2) := zo_18 (b1 := 9) (zkb2 zk_cX2_init zn_cX2_init rfl)
theorem dX2_init_15 : decode cX2_init 15 = .ok (.newarray .int, 2) := by decide +kernel
theorem dX2_init_17 : decode cX2_init 17 = .ok (.putfield 14, 3) := zo_181 (b1 := 0) (b2 := 14) (zkb3 zk_cX2_init zn_cX2_init rfl) rfl
theorem dX2_init_20 : decode cX2_init 20 = .ok (.aload_n 0, 1) := zo_42 (zkb zk_cX2_init zn_cX2_init rfl)
theorem dX2_init_21 : decode cX2_init 21 = .ok (.iconst (-1), 1) := zo_2 (zkb zk_cX2_init zn_cX2_init rfl)
theorem dX2_init_22 : decode cX2_init 22 = .ok (.putfield 17, 3) := zo_181 (b1 := 0) (b2 := 17) (zkb3 zk_cX2_init zn_cX2_init rfl) rfl
theorem dX2_init_25 : decode cX2_init 25 = .ok (.aload_n 0, 1) := zo_42 (zkb zk_cX2_init zn_cX2_init rfl)
theorem dX2_init_26 : decode cX2_init 26 = .ok (.sipush 8192, 3) := zo_17 (b1 := 32) (b2 := 0) (zkb3 zk_cX2_init zn_cX2_init rfl) rfl
theorem dX2_init_29 : decode cX2_init 29 = .ok (.newarray .int, 2) := by decide +kernel
theorem dX2_init_31 : decode cX2_init 31 = .ok (.putfield 21, 3) := zo_181 (b1 := 0) (b2 := 21) (zkb3 zk_cX2_init zn_cX2_init rfl) rfl
theorem dX2_init_34 : decode cX2_init 34 = .ok (.aload_n 0, 1) := zo_42 (zkb zk_cX2_init zn_cX2_init rfl)
theorem dX2_init_35 : decode cX2_init 35 = .ok (.sipush 8192, 3) := zo_17 (b1 := 32) (b2 := 0) (zkb3 zk_cX2_init zn_cX2_init rfl) rfl
theorem dX2_init_38 : decode cX2_init 38 = .ok (.newarray .int, 2) := by decide +kernel
theorem dX2_init_40 : decode cX2_init 40 = .ok (.putfield 24, 3) := zo_181 (b1 := 0) (b2 := 24) (zkb3 zk_cX2_init zn_cX2_init rfl) rfl
theorem dX2_init_43 : decode cX2_init 43 = .ok (.aload_n 0, 1) := zo_42 (zkb zk_cX2_init zn_cX2_init rfl)
theorem dX2_init_44 : decode cX2_init 44 = .ok (.ldc 27, 2) := zo_18 (b1 := 27) (zkb2 zk_cX2_init zn_cX2_init rfl)
theorem dX2_init_46 : decode cX2_init 46 = .ok (.newarray .int, 2) := by decide +kernel
theorem dX2_init_48 : decode cX2_init 48 = .ok (.putfield 28, 3) := zo_181 (b1 := 0) (b2 := 28) (zkb3 zk_cX2_init zn_cX2_init rfl) rfl
theorem dX2_init_51 : decode cX2_init 51 = .ok (.aload_n 0, 1) := zo_42 (zkb zk_cX2_init zn_cX2_init rfl)
theorem dX2_init_52 : decode cX2_init 52 = .ok (.ldc 27, 2) := zo_18 (b1 := 27) (zkb2 zk_cX2_init zn_cX2_init rfl)
theorem dX2_init_54 : decode cX2_init 54 = .ok (.newarray .int, 2) := by decide +kernel
theorem dX2_init_56 : decode cX2_init 56 = .ok (.putfield 31, 3) := zo_181 (b1 := 0) (b2 := 31) (zkb3 zk_cX2_init zn_cX2_init rfl) rfl
theorem dX2_init_59 : decode cX2_init 59 = .ok (.aload_n 0, 1) := zo_42 (zkb zk_cX2_init zn_cX2_init rfl)
theorem dX2_init_60 : decode cX2_init 60 = .ok (.iconst 4, 1) := zo_7 (zkb zk_cX2_init zn_cX2_init rfl)
theorem dX2_init_61 : decode cX2_init 61 = .ok (.newarray .int, 2) := by decide +kernel
theorem dX2_init_63 : decode cX2_init 63 = .ok (.dup, 1) := zo_89 (zkb zk_cX2_init zn_cX2_init rfl)
theorem dX2_init_64 : decode cX2_init 64 = .ok (.iconst 0, 1) := zo_3 (zkb zk_cX2_init zn_cX2_init rfl)
theorem dX2_init_65 : decode cX2_init 65 = .ok (.iconst 0, 1) := zo_3 (zkb zk_cX2_init zn_cX2_init rfl)
theorem dX2_init_66 : decode cX2_init 66 = .ok (.iastore, 1) := zo_79 (zkb zk_cX2_init zn_cX2_init rfl)
theorem dX2_init_67 : decode cX2_init 67 = .ok (.dup, 1) := zo_89 (zkb zk_cX2_init zn_cX2_init rfl)
theorem dX2_init_68 : decode cX2_init 68 = .ok (.iconst 1, 1) := zo_4 (zkb zk_cX2_init zn_cX2_init rfl)
theorem dX2_init_69 : decode cX2_init 69 = .ok (.iconst 1, 1) := zo_4 (zkb zk_cX2_init zn_cX2_init rfl)
theorem dX2_init_70 : decode cX2_init 70 = .ok (.iastore, 1) := zo_79 (zkb zk_cX2_init zn_cX2_init rfl)
theorem dX2_init_71 : decode cX2_init 71 = .ok (.dup, 1) := zo_89 (zkb zk_cX2_init zn_cX2_init rfl)
theorem dX2_init_72 : decode cX2_init 72 = .ok (.iconst 2, 1) := zo_5 (zkb zk_cX2_init zn_cX2_init rfl)
theorem dX2_init_73 : decode cX2_init 73 = .ok (.iconst 2, 1) := zo_5 (zkb zk_cX2_init zn_cX2_init rfl)
theorem dX2_init_74 : decode cX2_init 74 = .ok (.iastore, 1) := zo_79 (zkb zk_cX2_init zn_cX2_init rfl)
theorem dX2_init_75 : decode cX2_init 75 = .ok (.dup, 1) := zo_89 (zkb zk_cX2_init zn_cX2_init rfl)
theorem dX2_init_76 : decode cX2_init 76 = .ok (.iconst 3, 1) := zo_6 (zkb zk_cX2_init zn_cX2_init rfl)
theorem dX2_init_77 : decode cX2_init 77 = .ok (.iconst 0, 1) := zo_3 (zkb zk_cX2_init zn_cX2_init rfl)
theorem dX2_init_78 : decode cX2_init 78 = .ok (.iastore, 1) := zo_79 (zkb zk_cX2_init zn_cX2_init rfl)
theorem dX2_init_79 : decode cX2_init 79 = .ok (.putfield 34, 3) := zo_181 (b1 := 0) (b2 := 34) (zkb3 zk_cX2_init zn_cX2_init rfl) rfl
theorem dX2_init_82 : decode cX2_init 82 = .ok (.aload_n 0, 1) := zo_42 (zkb zk_cX2_init zn_cX2_init rfl)
theorem dX2_init_83 : decode cX2_init 83 = .ok (.iconst 4, 1) := zo_7 (zkb zk_cX2_init zn_cX2_init rfl)
theorem dX2_init_84 : decode cX2_init 84 = .ok (.newarray .int, 2) := by decide +kernel
theorem dX2_init_86 : decode cX2_init 86 = .ok (.putfield 37, 3) := zo_181 (b1 := 0) (b2 := 37) (zkb3 zk_cX2_init zn_cX2_init rfl) rfl
theorem dX2_init_89 : decode cX2_init 89 = .ok (.return_, 1) := zo_177 (zkb zk_cX2_init zn_cX2_init rfl)
set_option maxRecDepth 20000 in
set_option maxHeartbeats 4000000 in
theorem cX2_init_met (st : Nat → Nat) (l : Launch) (D : va_G) (h0 : Nat)   (sz : Nat) : zN st l yX2_init wzX2_init rmX2_init [.ref h0] D [(h0, .inr (4, [.null, .null, .int 0, .int 0, .int 0, .int 0, .int 0, .int 0, .null, .null, .null, .null, .null, .null]))] sz (fun ad cy => wN1 ad cy (zsi (zsi (zsi (zsi (zsi (zsi zS0 1 1 1) 1 7 (-1)) 19 0 0) 19 1 1) 19 2 2) 19 3 0)) tN1 (fun f => h0 = f 1) 8 607240 := by
  refine zN.of (cc := cX2_init) (maxL := 1) (by decide) rfl rfl (Nat.le_of_ble_eq_true rfl) (fun p e s m args below meth c hC hnm A hI ls hl => ?_)
  have hx := hC.1
  have hb := hC.2.1
  refine lv_aload_n hx hb dX2_init_0 rfl (lv_at hl 0 rfl) ?_
  refine z_objInit hC hl (List.mem_cons_of_mem _ zw3_13) (List.mem_cons_of_mem _ zw1_16) (List.mem_cons_of_mem _ zw1_17) dX2_init_1 (Nat.le_of_ble_eq_true rfl) (Nat.le_of_ble_eq_true rfl) ?_
  refine lv_aload_n hx hb dX2_init_4 rfl (lv_at hl 0 rfl) ?_
  refine lv_ldc (v := 262656) hx hb hC.2.2.2.1 (hC.2.2.2.2.1 _ (List.mem_cons_of_mem _ zw3_14)) dX2_init_5 ?_
  refine z_newi hC hI (List.mem_cons_of_mem _ zw3_15) 262656 (by decide +kernel) (by decide +kernel) (by decide +kernel) (Nat.le_of_ble_eq_true rfl) (Nat.le_of_ble_eq_true rfl) dX2_init_7 (fun q1 c1 H hI => ?_)
  have hI : zI st D [(c1, .int)] [(h0, .inr (4, [.null, .null, .int 0, .int 0, .int 0, .int 0, .int 0, .int 0, .null, .null, .null, .null, .null, .null])), (q1, .inl (c1, 262656, .inl (fun _ => 0)))] A s H _ := hI
  refine z_put hC hI (w1 := [(h0, .inr (4, [.ref q1, .null, .int 0, .int 0, .int 0, .int 0, .int 0, .int 0, .null, .null, .null, .null, .null, .null])), (q1, .inl (c1, 262656, .inl (fun _ => 0)))]) (fun w h => List.mem_cons_of_mem _ (inlX2 w h)) tyX2_ok nmX2 0 rfl rfl 0 (by decide) (List.mem_cons_of_mem _ zw3_16) rfl rfl rfl (Nat.le_of_ble_eq_true rfl) rfl dX2_init_9 (fun H locs hI => ?_)
  refine lv_aload_n hx hb dX2_init_12 rfl (lv_at hl 0 rfl) ?_
  refine lv_ldc (v := 262656) hx hb hC.2.2.2.1 (hC.2.2.2.2.1 _ (List.mem_cons_of_mem _ zw3_14)) dX2_init_13 ?_
  refine z_newi hC hI (List.mem_cons_of_mem _ zw3_15) 262656 (by decide +kernel) (by decide +kernel) (by decide +kernel) (Nat.le_of_ble_eq_true rfl) (Nat.le_of_ble_eq_true rfl) dX2_init_15 (fun q2 c2 H hI => ?_)
  have hI : zI st D [(c1, .int), (c2, .int)] [(h0, .inr (4, [.ref q1, .null, .int 0, .int 0, .int 0, .int 0, .int 0, .int 0, .null, .null, .null, .null, .null, .null])), (q1, .inl (c1, 262656, .inl (fun _ => 0))), (q2, .inl (c2, 262656, .inl (fun _ => 0)))] A s H _ := hI
  refine z_put hC hI (w1 := [(h0, .inr (4, [.ref q1, .ref q2, .int 0, .int 0, .int 0, .int 0, .int 0, .int 0, .null, .null, .null, .null, .null, .null])), (q1, .inl (c1, 262656, .inl (fun _ => 0))), (q2, .inl (c2, 262656, .inl (fun _ => 0)))]) (fun w h => List.mem_cons_of_mem _ (inlX2 w h)) tyX2_ok nmX2 0 rfl rfl 1 (by decide) (List.mem_cons_of_mem _ zw3_17) rfl rfl rfl (Nat.le_of_ble_eq_true rfl) rfl dX2_init_17 (fun H locs hI => ?_)
  refine lv_aload_n hx hb dX2_init_20 rfl (lv_at hl 0 rfl) ?_
  refine lv_iconst (v := (-1)) hx hb dX2_init_21 (by decide) ?_
  refine z_put hC hI (w1 := [(h0, .inr (4, [.ref q1, .ref q2, .int 0, .int 0, .int 0, .int 0, .int 0, .int (-1), .null, .null, .null, .null, .null, .null])), (q1, .inl (c1, 262656, .inl (fun _ => 0))), (q2, .inl (c2, 262656, .inl (fun _ => 0)))]) (fun w h => List.mem_cons_of_mem _ (inlX2 w h)) tyX2_ok nmX2 0 rfl rfl 7 (by decide) (List.mem_cons_of_mem _ zw3_18) rfl rfl rfl (Nat.le_of_ble_eq_true rfl) rfl dX2_init_22 (fun H locs hI => ?_)
  refine lv_aload_n hx hb dX2_init_25 rfl (lv_at hl 0 rfl) ?_
  refine lv_sipush (v := 8192) hx hb dX2_init_26 (by decide) ?_
  refine z_newi hC hI (List.mem_cons_of_mem _ zw3_15) 8192 (by decide +kernel) (by decide +kernel) (by decide +kernel) (Nat.le_of_ble_eq_true rfl) (Nat.le_of_ble_eq_true rfl) dX2_init_29 (fun q3 c3 H hI => ?_)
  have hI : zI st D [(c1, .int), (c2, .int), (c3, .int)] [(h0, .inr (4, [.ref q1, .ref q2, .int 0, .int 0, .int 0, .int 0, .int 0, .int (-1), .null, .null, .null, .null, .null, .null])), (q1, .inl (c1, 262656, .inl (fun _ => 0))), (q2, .inl (c2, 262656, .inl (fun _ => 0))), (q3, .inl (c3, 8192, .inl (fun _ => 0)))] A s H _ := hI
  refine z_putF hC hnm hI (w1 := [(h0, .inr (4, [.ref q1, .ref q2, .int 0, .int 0, .int 0, .int 0, .int 0, .int (-1), .ref q3, .null, .null, .null, .null, .null])), (q1, .inl (c1, 262656, .inl (fun _ => 0))), (q2, .inl (c2, 262656, .inl (fun _ => 0))), (q3, .inl (c3, 8192, .inl (fun _ => 0)))]) (fun w h => List.mem_cons_of_mem _ (inlX2 w h)) tyX2_ok nmX2 0 rfl rfl 8 (by decide) (List.mem_cons_of_mem _ zw3_19) rfl rfl rfl rfl (Nat.le_of_ble_eq_true rfl) rfl dX2_init_31 (fun H locs hI => ?_)
  refine lv_aload_n hx hb dX2_init_34 rfl (lv_at hl 0 rfl) ?_
  refine lv_sipush (v := 8192) hx hb dX2_init_35 (by decide) ?_
  refine z_newi hC hI (List.mem_cons_of_mem _ zw3_15) 8192 (by decide +kernel) (by decide +kernel) (by decide +kernel) (Nat.le_of_ble_eq_true rfl) (Nat.le_of_ble_eq_true rfl) dX2_init_38 (fun q4 c4 H hI => ?_)
  have hI : zI st D [(c1, .int), (c2, .int), (c3, .int), (c4, .int)] [(h0, .inr (4, [.ref q1, .ref q2, .int 0, .int 0, .int 0, .int 0, .int 0, .int (-1), .ref q3, .null, .null, .null, .null, .null])), (q1, .inl (c1, 262656, .inl (fun _ => 0))), (q2, .inl (c2, 262656, .inl (fun _ => 0))), (q3, .inl (c3, 8192, .inl (fun _ => 0))), (q4, .inl (c4, 8192, .inl (fun _ => 0)))] A s H _ := hI
  refine z_putF hC hnm hI (w1 := [(h0, .inr (4, [.ref q1, .ref q2, .int 0, .int 0, .int 0, .int 0, .int 0, .int (-1), .ref q3, .ref q4, .null, .null, .null, .null])), (q1, .inl (c1, 262656, .inl (fun _ => 0))), (q2, .inl (c2, 262656, .inl (fun _ => 0))), (q3, .inl (c3, 8192, .inl (fun _ => 0))), (q4, .inl (c4, 8192, .inl (fun _ => 0)))]) (fun w h => List.mem_cons_of_mem _ (inlX2 w h)) tyX2_ok nmX2 0 rfl rfl 9 (by decide) (List.mem_cons_of_mem _ zw3_20) rfl rfl rfl rfl (Nat.le_of_ble_eq_true rfl) rfl dX2_init_40 (fun H locs hI => ?_)
  refine lv_aload_n hx hb dX2_init_43 rfl (lv_at hl 0 rfl) ?_
  refine lv_ldc (v := 32768) hx hb hC.2.2.2.1 (hC.2.2.2.2.1 _ (List.mem_cons_of_mem _ zw3_21)) dX2_init_44 ?_
  refine z_newi hC hI (List.mem_cons_of_mem _ zw3_15) 32768 (by decide +kernel) (by decide +kernel) (by decide +kernel) (Nat.le_of_ble_eq_true rfl) (Nat.le_of_ble_eq_true rfl) dX2_init_46 (fun q5 c5 H hI => ?_)
  have hI : zI st D [(c1, .int), (c2, .int), (c3, .int), (c4, .int), (c5, .int)] [(h0, .inr (4, [.ref q1, .ref q2, .int 0, .int 0, .int 0, .int 0, .int 0, .int (-1), .ref q3, .ref q4, .null, .null, .null, .null])), (q1, .inl (c1, 262656, .inl (fun _ => 0))), (q2, .inl (c2, 262656, .inl (fun _ => 0))), (q3, .inl (c3, 8192, .inl (fun _ => 0))), (q4, .inl (c4, 8192, .inl (fun _ => 0))), (q5, .inl (c5, 32768, .inl (fun _ => 0)))] A s H _ := hI
  refine z_putF hC hnm hI (w1 := [(h0, .inr (4, [.ref q1, .ref q2, .int 0, .int 0, .int 0, .int 0, .int 0, .int (-1), .ref q3, .ref q4, .ref q5, .null, .null, .null])), (q1, .inl (c1, 262656, .inl (fun _ => 0))), (q2, .inl (c2, 262656, .inl (fun _ => 0))), (q3, .inl (c3, 8192, .inl (fun _ => 0))), (q4, .inl (c4, 8192, .inl (fun _ => 0))), (q5, .inl (c5, 32768, .inl (fun _ => 0)))]) (fun w h => List.mem_cons_of_mem _ (inlX2 w h)) tyX2_ok nmX2 0 rfl rfl 10 (by decide) (List.mem_cons_of_mem _ zw3_22) rfl rfl rfl rfl (Nat.le_of_ble_eq_true rfl) rfl dX2_init_48 (fun H locs hI => ?_)
  refine lv_aload_n hx hb dX2_init_51 rfl (lv_at hl 0 rfl) ?_
  refine lv_ldc (v := 32768) hx hb hC.2.2.2.1 (hC.2.2.2.2.1 _ (List.mem_cons_of_mem _ zw3_21)) dX2_init_52 ?_
  refine z_newi hC hI (List.mem_cons_of_mem _ zw3_15) 32768 (by decide +kernel) (by decide +kernel) (by decide +kernel) (Nat.le_of_ble_eq_true rfl) (Nat.le_of_ble_eq_true rfl) dX2_init_54 (fun q6 c6 H hI => ?_)
  have hI : zI st D [(c1, .int), (c2, .int), (c3, .int), (c4, .int), (c5, .int), (c6, .int)] [(h0, .inr (4, [.ref q1, .ref q2, .int 0, .int 0, .int 0, .int 0, .int 0, .int (-1), .ref q3, .ref q4, .ref q5, .null, .null, .null])), (q1, .inl (c1, 262656, .inl (fun _ => 0))), (q2, .inl (c2, 262656, .inl (fun _ => 0))), (q3, .inl (c3, 8192, .inl (fun _ => 0))), (q4, .inl (c4, 8192, .inl (fun _ => 0))), (q5, .inl (c5, 32768, .inl (fun _ => 0))), (q6, .inl (c6, 32768, .inl (fun _ => 0)))] A s H _ := hI
  refine z_putF hC hnm hI (w1 := [(h0, .inr (4, [.ref q1, .ref q2, .int 0, .int 0, .int 0, .int 0, .int 0, .int (-1), .ref q3, .ref q4, .ref q5, .ref q6, .null, .null])), (q1, .inl (c1, 262656, .inl (fun _ => 0))), (q2, .inl (c2, 262656, .inl (fun _ => 0))), (q3, .inl (c3, 8192, .inl (fun _ => 0))), (q4, .inl (c4, 8192, .inl (fun _ => 0))), (q5, .inl (c5, 32768, .inl (fun _ => 0))), (q6, .inl (c6, 32768, .inl (fun _ => 0)))]) (fun w h => List.mem_cons_of_mem _ (inlX2 w h)) tyX2_ok nmX2 0 rfl rfl 11 (by decide) (List.mem_cons_of_mem _ zw3_23) rfl rfl rfl rfl (Nat.le_of_ble_eq_true rfl) rfl dX2_init_56 (fun H locs hI => ?_)
  refine lv_aload_n hx hb dX2_init_59 rfl (lv_at hl 0 rfl) ?_
  refine lv_iconst (v := 4) hx hb dX2_init_60 (by decide) ?_
  refine z_newi hC hI (List.mem_cons_of_mem _ zw3_15) 4 (by decide +kernel) (by decide +kernel) (by decide +kernel) (Nat.le_of_ble_eq_true rfl) (Nat.le_of_ble_eq_true rfl) dX2_init_61 (fun q7 c7 H hI => ?_)
  have hI : zI st D [(c1, .int), (c2, .int), (c3, .int), (c4, .int), (c5, .int), (c6, .int), (c7, .int)] [(h0, .inr (4, [.ref q1, .ref q2, .int 0, .int 0, .int 0, .int 0, .int 0, .int (-1), .ref q3, .ref q4, .ref q5, .ref q6, .null, .null])), (q1, .inl (c1, 262656, .inl (fun _ => 0))), (q2, .inl (c2, 262656, .inl (fun _ => 0))), (q3, .inl (c3, 8192, .inl (fun _ => 0))), (q4, .inl (c4, 8192, .inl (fun _ => 0))), (q5, .inl (c5, 32768, .inl (fun _ => 0))), (q6, .inl (c6, 32768, .inl (fun _ => 0))), (q7, .inl (c7, 4, .inl (fun _ => 0)))] A s H _ := hI
  refine lv_dup hx hb dX2_init_63 rfl ?_
  refine lv_iconst (v := 0) hx hb dX2_init_64 (by decide) ?_
  refine lv_iconst (v := 0) hx hb dX2_init_65 (by decide) ?_
  refine z_iast (w1 := [(h0, .inr (4, [.ref q1, .ref q2, .int 0, .int 0, .int 0, .int 0, .int 0, .int (-1), .ref q3, .ref q4, .ref q5, .ref q6, .null, .null])), (q1, .inl (c1, 262656, .inl (fun _ => 0))), (q2, .inl (c2, 262656, .inl (fun _ => 0))), (q3, .inl (c3, 8192, .inl (fun _ => 0))), (q4, .inl (c4, 8192, .inl (fun _ => 0))), (q5, .inl (c5, 32768, .inl (fun _ => 0))), (q6, .inl (c6, 32768, .inl (fun _ => 0))), (q7, .inl (c7, 4, .inl (upd (fun _ => 0) 0 0)))]) hC hI 7 6 rfl rfl (by decide) rfl dX2_init_66 (fun H locs hI => ?_)
  refine lv_dup hx hb dX2_init_67 rfl ?_
  refine lv_iconst (v := 1) hx hb dX2_init_68 (by decide) ?_
  refine lv_iconst (v := 1) hx hb dX2_init_69 (by decide) ?_
  refine z_iast (w1 := [(h0, .inr (4, [.ref q1, .ref q2, .int 0, .int 0, .int 0, .int 0, .int 0, .int (-1), .ref q3, .ref q4, .ref q5, .ref q6, .null, .null])), (q1, .inl (c1, 262656, .inl (fun _ => 0))), (q2, .inl (c2, 262656, .inl (fun _ => 0))), (q3, .inl (c3, 8192, .inl (fun _ => 0))), (q4, .inl (c4, 8192, .inl (fun _ => 0))), (q5, .inl (c5, 32768, .inl (fun _ => 0))), (q6, .inl (c6, 32768, .inl (fun _ => 0))), (q7, .inl (c7, 4, .inl (upd (upd (fun _ => 0) 0 0) 1 1)))]) hC hI 7 6 rfl rfl (by decide) rfl dX2_init_70 (fun H locs hI => ?_)
  refine lv_dup hx hb dX2_init_71 rfl ?_
  refine lv_iconst (v := 2) hx hb dX2_init_72 (by decide) ?_
  refine lv_iconst (v := 2) hx hb dX2_init_73 (by decide) ?_
  refine z_iast (w1 := [(h0, .inr (4, [.ref q1, .ref q2, .int 0, .int 0, .int 0, .int 0, .int 0, .int (-1), .ref q3, .ref q4, .ref q5, .ref q6, .null, .null])), (q1, .inl (c1, 262656, .inl (fun _ => 0))), (q2, .inl (c2, 262656, .inl (fun _ => 0))), (q3, .inl (c3, 8192, .inl (fun _ => 0))), (q4, .inl (c4, 8192, .inl (fun _ => 0))), (q5, .inl (c5, 32768, .inl (fun _ => 0))), (q6, .inl (c6, 32768, .inl (fun _ => 0))), (q7, .inl (c7, 4, .inl (upd (upd (upd (fun _ => 0) 0 0) 1 1) 2 2)))]) hC hI 7 6 rfl rfl (by decide) rfl dX2_init_74 (fun H locs hI => ?_)
  refine lv_dup hx hb dX2_init_75 rfl ?_
  refine lv_iconst (v := 3) hx hb dX2_init_76 (by decide) ?_
  refine lv_iconst (v := 0) hx hb dX2_init_77 (by decide) ?_
  refine z_iast (w1 := [(h0, .inr (4, [.ref q1, .ref q2, .int 0, .int 0, .int 0, .int 0, .int 0, .int (-1), .ref q3, .ref q4, .ref q5, .ref q6, .null, .null])), (q1, .inl (c1, 262656, .inl (fun _ => 0))), (q2, .inl (c2, 262656, .inl (fun _ => 0))), (q3, .inl (c3, 8192, .inl (fun _ => 0))), (q4, .inl (c4, 8192, .inl (fun _ => 0))), (q5, .inl (c5, 32768, .inl (fun _ => 0))), (q6, .inl (c6, 32768, .inl (fun _ => 0))), (q7, .inl (c7, 4, .inl (upd (upd (upd (upd (fun _ => 0) 0 0) 1 1) 2 2) 3 0)))]) hC hI 7 6 rfl rfl (by decide) rfl dX2_init_78 (fun H locs hI => ?_)
  refine z_putF hC hnm hI (w1 := [(h0, .inr (4, [.ref q1, .ref q2, .int 0, .int 0, .int 0, .int 0, .int 0, .int (-1), .ref q3, .ref q4, .ref q5, .ref q6, .ref q7, .null])), (q1, .inl (c1, 262656, .inl (fun _ => 0))), (q2, .inl (c2, 262656, .inl (fun _ => 0))), (q3, .inl (c3, 8192, .inl (fun _ => 0))), (q4, .inl (c4, 8192, .inl (fun _ => 0))), (q5, .inl (c5, 32768, .inl (fun _ => 0))), (q6, .inl (c6, 32768, .inl (fun _ => 0))), (q7, .inl (c7, 4, .inl (upd (upd (upd (upd (fun _ => 0) 0 0) 1 1) 2 2) 3 0)))]) (fun w h => List.mem_cons_of_mem _ (inlX2 w h)) tyX2_ok nmX2 0 rfl rfl 12 (by decide) (List.mem_cons_of_mem _ zw4_0) rfl rfl rfl rfl (Nat.le_of_ble_eq_true rfl) rfl dX2_init_79 (fun H locs hI => ?_)
  refine lv_aload_n hx hb dX2_init_82 rfl (lv_at hl 0 rfl) ?_
  refine lv_iconst (v := 4) hx hb dX2_init_83 (by decide) ?_
  refine z_newi hC hI (List.mem_cons_of_mem _ zw3_15) 4 (by decide +kernel) (by decide +kernel) (by decide +kernel) (Nat.le_of_ble_eq_true rfl) (Nat.le_of_ble_eq_true rfl) dX2_init_84 (fun q8 c8 H hI => ?_)
  have hI : zI st D [(c1, .int), (c2, .int), (c3, .int), (c4, .int), (c5, .int), (c6, .int), (c7, .int), (c8, .int)] [(h0, .inr (4, [.ref q1, .ref q2, .int 0, .int 0, .int 0, .int 0, .int 0, .int (-1), .ref q3, .ref q4, .ref q5, .ref q6, .ref q7, .null])), (q1, .inl (c1, 262656, .inl (fun _ => 0))), (q2, .inl (c2, 262656, .inl (fun _ => 0))), (q3, .inl (c3, 8192, .inl (fun _ => 0))), (q4, .inl (c4, 8192, .inl (fun _ => 0))), (q5, .inl (c5, 32768, .inl (fun _ => 0))), (q6, .inl (c6, 32768, .inl (fun _ => 0))), (q7, .inl (c7, 4, .inl (upd (upd (upd (upd (fun _ => 0) 0 0) 1 1) 2 2) 3 0))), (q8, .inl (c8, 4, .inl (fun _ => 0)))] A s H _ := hI
  refine z_putF hC hnm hI (w1 := [(h0, .inr (4, [.ref q1, .ref q2, .int 0, .int 0, .int 0, .int 0, .int 0, .int (-1), .ref q3, .ref q4, .ref q5, .ref q6, .ref q7, .ref q8])), (q1, .inl (c1, 262656, .inl (fun _ => 0))), (q2, .inl (c2, 262656, .inl (fun _ => 0))), (q3, .inl (c3, 8192, .inl (fun _ => 0))), (q4, .inl (c4, 8192, .inl (fun _ => 0))), (q5, .inl (c5, 32768, .inl (fun _ => 0))), (q6, .inl (c6, 32768, .inl (fun _ => 0))), (q7, .inl (c7, 4, .inl (upd (upd (upd (upd (fun _ => 0) 0 0) 1 1) 2 2) 3 0))), (q8, .inl (c8, 4, .inl (fun _ => 0)))]) (fun w h => List.mem_cons_of_mem _ (inlX2 w h)) tyX2_ok nmX2 0 rfl rfl 13 (by decide) (List.mem_cons_of_mem _ zw4_1) rfl rfl rfl rfl (Nat.le_of_ble_eq_true rfl) rfl dX2_init_86 (fun H locs hI => ?_)
  obtain ⟨ad, had⟩ : ∃ f : Nat → Nat, f = (fun j => if j = 1 then h0 else if j = 13 then q1 else if j = 14 then q2 else if j = 15 then q3 else if j = 16 then q4 else if j = 17 then q5 else if j = 18 then q6 else if j = 19 then q7 else if j = 20 then q8 else 0) := ⟨_, rfl⟩
  obtain ⟨cy, hcy⟩ : ∃ f : Nat → ClassId, f = (fun j => if j = 13 then c1 else if j = 14 then c2 else if j = 15 then c3 else if j = 16 then c4 else if j = 17 then c5 else if j = 18 then c6 else if j = 19 then c7 else if j = 20 then c8 else 0) := ⟨_, rfl⟩
  have e1 : h0 = ad 1 := by rw [had]; rfl
  have e13 : q1 = ad 13 := by rw [had]; rfl
  have e14 : q2 = ad 14 := by rw [had]; rfl
  have e15 : q3 = ad 15 := by rw [had]; rfl
  have e16 : q4 = ad 16 := by rw [had]; rfl
  have e17 : q5 = ad 17 := by rw [had]; rfl
  have e18 : q6 = ad 18 := by rw [had]; rfl
  have e19 : q7 = ad 19 := by rw [had]; rfl
  have e20 : q8 = ad 20 := by rw [had]; rfl
  have hI : zI st D (tN1 cy) (wN1 ad cy (zsi (zsi (zsi (zsi (zsi (zsi zS0 1 1 1) 1 7 (-1)) 19 0 0) 19 1 1) 19 2 2) 19 3 0)) A s H locs := by rw [had, hcy]; exact hI
  exact z_nreturn0 (wn := fun ad cy => wN1 ad cy (zsi (zsi (zsi (zsi (zsi (zsi zS0 1 1 1) 1 7 (-1)) 19 0 0) 19 1 1) 19 2 2) 19 3 0)) (tn := tN1) (ex := fun f => h0 = f 1) hC ad cy hI e1 (Nat.le_refl _) (Nat.le_refl _) dX2_init_89
theorem hdX2_init : yX2_init.cls ≠ "java/lang/invoke/MethodHandle" ∧ yX2_init.cls ≠ "java/lang/invoke/VarHandle" ∧ (parseMethodDescriptor yX2_init.desc).map (fun d => d.parameters.length) = some 0 := by decide +kernel
noncomputable def rmX9_init : Room := { frames := 1, cells := 4, slots := 32960, locals := 20 }
noncomputable def wzX9_init : List Cond := .code yX9_init cX9_init 3 none :: wsL_law
noncomputable def kn_cX9_init : Nat := 0xb11a00b51c2a1600b51b2a1300b50abc60102a1000b50abc60102a0d00b50abc0040112a0900b50abc0040112a0100b72a
theorem zk_cX9_init : zkd cX9_init.data.toList kn_cX9_init = true := by decide +kernel
theorem zn_cX9_init : cX9_init.data.toList.length = 49 := by decide +kernel
theorem dX9_init_0 : decode cX9_init 0 = .ok (.aload_n 0, 1) := zo_42 (zkb zk_cX9_init zn_cX9_init rfl)
theorem dX9_init_1 : decode cX9_init 1 = .ok (.invokespecial 1, 3) := zo_183 (b1 := 0) (b2 := 1) (zkb3 zk_cX9_init zn_cX9_init rfl) rfl
theorem dX9_init_4 : decode cX9_init 4 = .ok (.aload_n 0, 1) := zo_42 (zkb zk_cX9_init zn_cX9_init rfl)
theorem dX9_init_5 : decode cX9_init 5 = .ok (.sipush 16384, 3) := zo_17 (b1 := 64) (b2 := 0) (zkb3 zk_cX9_init zn_cX9_init rfl) rfl
theorem dX9_init_8 : decode cX9_init 8 = .ok (.newarray .int, 2) := by decide +kernel
theorem dX9_init_10 : decode cX9_init 10 = .ok (.putfield 9, 3) := zo_181 (b1 := 0) (b2 := 9) (zkb3 zk_cX9_init zn_cX9_init rfl) rfl
theorem dX9_init_13 : decode cX9_init 13 = .ok (.aload_n 0, 1) := zo_42 (zkb zk_cX9_init zn_cX9_init rfl)
theorem dX9_init_14 : decode cX9_init 14 = .ok (.sipush 16384, 3) := zo_17 (b1 := 64) (b2 := 0) (zkb3 zk_cX9_init zn_cX9_init rfl) rfl
theorem dX9_init_17 : decode cX9_init 17 = .ok (.newarray .int, 2) := by decide +kernel
theorem dX9_init_19 : decode cX9_init 19 = .ok (.putfield 13, 3) := zo_181 (b1 := 0) (b2 := 13) (zkb3 zk_cX9_init zn_cX9_init rfl) rfl
theorem dX9_init_22 : decode cX9_init 22 = .ok (.aload_n 0, 1) := zo_42 (zkb zk_cX9_init zn_cX9_init rfl)
theorem dX9_init_23 : decode cX9_init 23 = .ok (.bipush 96, 2) := zo_16 (b1 := 96) (zkb2 zk_cX9_init zn_cX9_init rfl) rfl
theorem dX9_init_25 : decode cX9_init 25 = .ok (.newarray .int, 2) := by decide +kernel
theorem dX9_init_27 : decode cX9_init 27 = .ok (.putfield 16, 3) := zo_181 (b1 := 0) (b2 := 16) (zkb3 zk_cX9_init zn_cX9_init rfl) rfl
theorem dX9_init_30 : decode cX9_init 30 = .ok (.aload_n 0, 1) := zo_42 (zkb zk_cX9_init zn_cX9_init rfl)
theorem dX9_init_31 : decode cX9_init 31 = .ok (.bipush 96, 2) := zo_16 (b1 := 96) (zkb2 zk_cX9_init zn_cX9_init rfl) rfl
theorem dX9_init_33 : decode cX9_init 33 = .ok (.newarray .int, 2) := by decide +kernel
theorem dX9_init_35 : decode cX9_init 35 = .ok (.putfield 19, 3) := zo_181 (b1 := 0) (b2 := 19) (zkb3 zk_cX9_init zn_cX9_init rfl) rfl
theorem dX9_init_38 : decode cX9_init 38 = .ok (.aload_n 0, 1) := zo_42 (zkb zk_cX9_init zn_cX9_init rfl)
theorem dX9_init_39 : decode cX9_init 39 = .ok (.iload_n 1, 1) := zo_27 (zkb zk_cX9_init zn_cX9_init rfl)
theorem dX9_init_40 : decode cX9_init 40 = .ok (.putfield 22, 3) := zo_181 (b1 := 0) (b2 := 22) (zkb3 zk_cX9_init zn_cX9_init rfl) rfl
theorem dX9_init_43 : decode cX9_init 43 = .ok (.aload_n 0, 1) := zo_42 (zkb zk_cX9_init zn_cX9_init rfl)
theorem dX9_init_44 : decode cX9_init 44 = .ok (.iload_n 2, 1) := zo_28 (zkb zk_cX9_init zn_cX9_init rfl)
theorem dX9_init_45 : decode cX9_init 45 = .ok (.putfield 26, 3) := zo_181 (b1 := 0) (b2 := 26) (zkb3 zk_cX9_init zn_cX9_init rfl) rfl
theorem dX9_init_48 : decode cX9_init 48 = .ok (.return_, 1) := zo_177 (zkb zk_cX9_init zn_cX9_init rfl)
set_option maxRecDepth 20000 in
set_option maxHeartbeats 4000000 in
theorem cX9_init_met (st : Nat → Nat) (l : Launch) (D : va_G) (h0 : Nat) (x1 : Int32) (x2 : Int32) (hz1 : zbo x1 = true) (sz : Nat) : zN st l yX9_init wzX9_init rmX9_init [.ref h0, .int x1, .int x2] D [(h0, .inr (11, [.int 0, .int 0, .null, .null, .null, .null]))] sz (fun ad cy => wN2 ad cy (zsi (zsi zS0 2 0 x1) 2 1 x2)) tN2 (fun f => h0 = f 2) 4 32960 := by
  refine zN.of (cc := cX9_init) (maxL := 3) (by decide) rfl rfl (Nat.le_of_ble_eq_true rfl) (fun p e s m args below meth c hC hnm A hI ls hl => ?_)
  have hx := hC.1
  have hb := hC.2.1
  refine lv_aload_n hx hb dX9_init_0 rfl (lv_at hl 0 rfl) ?_
  refine z_objInit hC hl (List.mem_cons_of_mem _ zw4_5) (List.mem_cons_of_mem _ zw1_16) (List.mem_cons_of_mem _ zw1_17) dX9_init_1 (Nat.le_of_ble_eq_true rfl) (Nat.le_of_ble_eq_true rfl) ?_
  refine lv_aload_n hx hb dX9_init_4 rfl (lv_at hl 0 rfl) ?_
  refine lv_sipush (v := 16384) hx hb dX9_init_5 (by decide) ?_
  refine z_newi hC hI (List.mem_cons_of_mem _ zw3_15) 16384 (by decide +kernel) (by decide +kernel) (by decide +kernel) (Nat.le_of_ble_eq_true rfl) (Nat.le_of_ble_eq_true rfl) dX9_init_8 (fun q1 c1 H hI => ?_)
  have hI : zI st D [(c1, .int)] [(h0, .inr (11, [.int 0, .int 0, .null, .null, .null, .null])), (q1, .inl (c1, 16384, .inl (fun _ => 0)))] A s H _ := hI
  refine z_putF hC hnm hI (w1 := [(h0, .inr (11, [.int 0, .int 0, .ref q1, .null, .null, .null])), (q1, .inl (c1, 16384, .inl (fun _ => 0)))]) (fun w h => List.mem_cons_of_mem _ (inlX9 w h)) tyX9_ok nmX9 0 rfl rfl 2 (by decide) (List.mem_cons_of_mem _ zw4_6) rfl rfl rfl rfl (Nat.le_of_ble_eq_true rfl) rfl dX9_init_10 (fun H locs hI => ?_)
  refine lv_aload_n hx hb dX9_init_13 rfl (lv_at hl 0 rfl) ?_
  refine lv_sipush (v := 16384) hx hb dX9_init_14 (by decide) ?_
  refine z_newi hC hI (List.mem_cons_of_mem _ zw3_15) 16384 (by decide +kernel) (by decide +kernel) (by decide +kernel) (Nat.le_of_ble_eq_true rfl) (Nat.le_of_ble_eq_true rfl) dX9_init_17 (fun q2 c2 H hI => ?_)
  have hI : zI st D [(c1, .int), (c2, .int)] [(h0, .inr (11, [.int 0, .int 0, .ref q1, .null, .null, .null])), (q1, .inl (c1, 16384, .inl (fun _ => 0))), (q2, .inl (c2, 16384, .inl (fun _ => 0)))] A s H _ := hI
  refine z_putF hC hnm hI (w1 := [(h0, .inr (11, [.int 0, .int 0, .ref q1, .ref q2, .null, .null])), (q1, .inl (c1, 16384, .inl (fun _ => 0))), (q2, .inl (c2, 16384, .inl (fun _ => 0)))]) (fun w h => List.mem_cons_of_mem _ (inlX9 w h)) tyX9_ok nmX9 0 rfl rfl 3 (by decide) (List.mem_cons_of_mem _ zw4_7) rfl rfl rfl rfl (Nat.le_of_ble_eq_true rfl) rfl dX9_init_19 (fun H locs hI => ?_)
  refine lv_aload_n hx hb dX9_init_22 rfl (lv_at hl 0 rfl) ?_
  refine lv_bipush (v := 96) hx hb dX9_init_23 (by decide) ?_
  refine z_newi hC hI (List.mem_cons_of_mem _ zw3_15) 96 (by decide +kernel) (by decide +kernel) (by decide +kernel) (Nat.le_of_ble_eq_true rfl) (Nat.le_of_ble_eq_true rfl) dX9_init_25 (fun q3 c3 H hI => ?_)
  have hI : zI st D [(c1, .int), (c2, .int), (c3, .int)] [(h0, .inr (11, [.int 0, .int 0, .ref q1, .ref q2, .null, .null])), (q1, .inl (c1, 16384, .inl (fun _ => 0))), (q2, .inl (c2, 16384, .inl (fun _ => 0))), (q3, .inl (c3, 96, .inl (fun _ => 0)))] A s H _ := hI
  refine z_putF hC hnm hI (w1 := [(h0, .inr (11, [.int 0, .int 0, .ref q1, .ref q2, .ref q3, .null])), (q1, .inl (c1, 16384, .inl (fun _ => 0))), (q2, .inl (c2, 16384, .inl (fun _ => 0))), (q3, .inl (c3, 96, .inl (fun _ => 0)))]) (fun w h => List.mem_cons_of_mem _ (inlX9 w h)) tyX9_ok nmX9 0 rfl rfl 4 (by decide) (List.mem_cons_of_mem _ zw4_8) rfl rfl rfl rfl (Nat.le_of_ble_eq_true rfl) rfl dX9_init_27 (fun H locs hI => ?_)
  refine lv_aload_n hx hb dX9_init_30 rfl (lv_at hl 0 rfl) ?_
  refine lv_bipush (v := 96) hx hb dX9_init_31 (by decide) ?_
  refine z_newi hC hI (List.mem_cons_of_mem _ zw3_15) 96 (by decide +kernel) (by decide +kernel) (by decide +kernel) (Nat.le_of_ble_eq_true rfl) (Nat.le_of_ble_eq_true rfl) dX9_init_33 (fun q4 c4 H hI => ?_)
  have hI : zI st D [(c1, .int), (c2, .int), (c3, .int), (c4, .int)] [(h0, .inr (11, [.int 0, .int 0, .ref q1, .ref q2, .ref q3, .null])), (q1, .inl (c1, 16384, .inl (fun _ => 0))), (q2, .inl (c2, 16384, .inl (fun _ => 0))), (q3, .inl (c3, 96, .inl (fun _ => 0))), (q4, .inl (c4, 96, .inl (fun _ => 0)))] A s H _ := hI
  refine z_putF hC hnm hI (w1 := [(h0, .inr (11, [.int 0, .int 0, .ref q1, .ref q2, .ref q3, .ref q4])), (q1, .inl (c1, 16384, .inl (fun _ => 0))), (q2, .inl (c2, 16384, .inl (fun _ => 0))), (q3, .inl (c3, 96, .inl (fun _ => 0))), (q4, .inl (c4, 96, .inl (fun _ => 0)))]) (fun w h => List.mem_cons_of_mem _ (inlX9 w h)) tyX9_ok nmX9 0 rfl rfl 5 (by decide) (List.mem_cons_of_mem _ zw4_9) rfl rfl rfl rfl (Nat.le_of_ble_eq_true rfl) rfl dX9_init_35 (fun H locs hI => ?_)
  refine lv_aload_n hx hb dX9_init_38 rfl (lv_at hl 0 rfl) ?_
  refine lv_iload_n hx hb dX9_init_39 rfl (lv_at hl 1 rfl) ?_
  refine z_putF hC hnm hI (w1 := [(h0, .inr (11, [.int x1, .int 0, .ref q1, .ref q2, .ref q3, .ref q4])), (q1, .inl (c1, 16384, .inl (fun _ => 0))), (q2, .inl (c2, 16384, .inl (fun _ => 0))), (q3, .inl (c3, 96, .inl (fun _ => 0))), (q4, .inl (c4, 96, .inl (fun _ => 0)))]) (fun w h => List.mem_cons_of_mem _ (inlX9 w h)) tyX9_ok nmX9 0 rfl rfl 0 (by decide) (List.mem_cons_of_mem _ zw4_10) rfl rfl (zbo_n hz1) (zbo_f hz1) (Nat.le_of_ble_eq_true rfl) rfl dX9_init_40 (fun H locs hI => ?_)
  refine lv_aload_n hx hb dX9_init_43 rfl (lv_at hl 0 rfl) ?_
  refine lv_iload_n hx hb dX9_init_44 rfl (lv_at hl 2 rfl) ?_
  refine z_putF hC hnm hI (w1 := [(h0, .inr (11, [.int x1, .int x2, .ref q1, .ref q2, .ref q3, .ref q4])), (q1, .inl (c1, 16384, .inl (fun _ => 0))), (q2, .inl (c2, 16384, .inl (fun _ => 0))), (q3, .inl (c3, 96, .inl (fun _ => 0))), (q4, .inl (c4, 96, .inl (fun _ => 0)))]) (fun w h => List.mem_cons_of_mem _ (inlX9 w h)) tyX9_ok nmX9 0 rfl rfl 1 (by decide) (List.mem_cons_of_mem _ zw4_11) rfl rfl rfl rfl (Nat.le_of_ble_eq_true rfl) rfl dX9_init_45 (fun H locs hI => ?_)
  obtain ⟨ad, had⟩ : ∃ f : Nat → Nat, f = (fun j => if j = 2 then h0 else if j = 21 then q1 else if j = 22 then q2 else if j = 23 then q3 else if j = 24 then q4 else 0) := ⟨_, rfl⟩
  obtain ⟨cy, hcy⟩ : ∃ f : Nat → ClassId, f = (fun j => if j = 21 then c1 else if j = 22 then c2 else if j = 23 then c3 else if j = 24 then c4 else 0) := ⟨_, rfl⟩
  have e2 : h0 = ad 2 := by rw [had]; rfl
  have e21 : q1 = ad 21 := by rw [had]; rfl
  have e22 : q2 = ad 22 := by rw [had]; rfl
  have e23 : q3 = ad 23 := by rw [had]; rfl
  have e24 : q4 = ad 24 := by rw [had]; rfl
  have hI : zI st D (tN2 cy) (wN2 ad cy (zsi (zsi zS0 2 0 x1) 2 1 x2)) A s H locs := by rw [had, hcy]; exact hI
  exact z_nreturn0 (wn := fun ad cy => wN2 ad cy (zsi (zsi zS0 2 0 x1) 2 1 x2)) (tn := tN2) (ex := fun f => h0 = f 2) hC ad cy hI e2 (Nat.le_refl _) (Nat.le_refl _) dX9_init_48
theorem hdX9_init : yX9_init.cls ≠ "java/lang/invoke/MethodHandle" ∧ yX9_init.cls ≠ "java/lang/invoke/VarHandle" ∧ (parseMethodDescriptor yX9_init.desc).map (fun d => d.parameters.length) = some 2 := by decide +kernel
noncomputable def rmX3_init : Room := { frames := 1, cells := 5, slots := 123424, locals := 20 }
noncomputable def wzX3_init : List Cond := .code yX3_init cX3_init 3 none :: wsL_law
noncomputable def kn_cX3_init : Nat := 0xb11e00b51c2a1a00b52b2a1700b50abc20102a1400b50abc0001112a1100b50abc0001112a0e00b50abc09122a0a00b50abc09122a0100b72a
theorem zk_cX3_init : zkd cX3_init.data.toList kn_cX3_init = true := by decide +kernel
theorem zn_cX3_init : cX3_init.data.toList.length = 57 := by decide +kernel
theorem dX3_init_0 : decode cX3_init 0 = .ok (.aload_n 0, 1) := zo_42 (zkb zk_cX3_init zn_cX3_init rfl)
theorem dX3_init_1 : decode cX3_init 1 = .ok (.invokespecial 1, 3) := zo_183 (b1 := 0) (b2 := 1) (zkb3 zk_cX3_init zn_cX3_init rfl) rfl
theorem dX3_init_4 : decode cX3_init 4 = .ok (.aload_n 0, 1) := zo_42 (zkb zk_cX3_init zn_cX3_init rfl)
theorem dX3_init_5 : decode cX3_init 5 = .ok (.ldc 9, 2) := zo_18 (b1 := 9) (zkb2 zk_cX3_init zn_cX3_init rfl)
theorem dX3_init_7 : decode cX3_init 7 = .ok (.newarray .int, 2) := by decide +kernel
theorem dX3_init_9 : decode cX3_init 9 = .ok (.putfield 10, 3) := zo_181 (b1 := 0) (b2 := 10) (zkb3 zk_cX3_init zn_cX3_init rfl) rfl
theorem dX3_init_12 : decode cX3_init 12 = .ok (.aload_n 0, 1) := zo_42 (zkb zk_cX3_init zn_cX3_init rfl)
theorem dX3_init_13 : decode cX3_init 13 = .ok (.ldc 9, 2) := zo_18 (b1 := 9) (zkb2 zk_cX3_init zn_cX3_init rfl)
theorem dX3_init_15 : decode cX3_init 15 = .ok (.newarray .int, 2) := by decide +kernel
theorem dX3_init_17 : decode cX3_init 17 = .ok (.putfield 14, 3) := zo_181 (b1 := 0) (b2 := 14) (zkb3 zk_cX3_init zn_cX3_init rfl) rfl
theorem dX3_init_20 : decode cX3_init 20 = .ok (.aload_n 0, 1) := zo_42 (zkb zk_cX3_init zn_cX3_init rfl)
theorem dX3_init_21 : decode cX3_init 21 = .ok (.sipush 256, 3) := zo_17 (b1 := 1) (b2 := 0) (zkb3 zk_cX3_init zn_cX3_init rfl) rfl
theorem dX3_init_24 : decode cX3_init 24 = .ok (.newarray .int, 2) := by decide +kernel
theorem dX3_init_26 : decode cX3_init 26 = .ok (.putfield 17, 3) := zo_181 (b1 := 0) (b2 := 17) (zkb3 zk_cX3_init zn_cX3_init rfl) rfl
theorem dX3_init_29 : decode cX3_init 29 = .ok (.aload_n 0, 1) := zo_42 (zkb zk_cX3_init zn_cX3_init rfl)
theorem dX3_init_30 : decode cX3_init 30 = .ok (.sipush 256, 3) := zo_17 (b1 := 1) (b2 := 0) (zkb3 zk_cX3_init zn_cX3_init rfl) rfl
theorem dX3_init_33 : decode cX3_init 33 = .ok (.newarray .int, 2) := by decide +kernel
theorem dX3_init_35 : decode cX3_init 35 = .ok (.putfield 20, 3) := zo_181 (b1 := 0) (b2 := 20) (zkb3 zk_cX3_init zn_cX3_init rfl) rfl
theorem dX3_init_38 : decode cX3_init 38 = .ok (.aload_n 0, 1) := zo_42 (zkb zk_cX3_init zn_cX3_init rfl)
theorem dX3_init_39 : decode cX3_init 39 = .ok (.bipush 32, 2) := zo_16 (b1 := 32) (zkb2 zk_cX3_init zn_cX3_init rfl) rfl
theorem dX3_init_41 : decode cX3_init 41 = .ok (.newarray .int, 2) := by decide +kernel
theorem dX3_init_43 : decode cX3_init 43 = .ok (.putfield 23, 3) := zo_181 (b1 := 0) (b2 := 23) (zkb3 zk_cX3_init zn_cX3_init rfl) rfl
theorem dX3_init_46 : decode cX3_init 46 = .ok (.aload_n 0, 1) := zo_42 (zkb zk_cX3_init zn_cX3_init rfl)
theorem dX3_init_47 : decode cX3_init 47 = .ok (.aload_n 1, 1) := zo_43 (zkb zk_cX3_init zn_cX3_init rfl)
theorem dX3_init_48 : decode cX3_init 48 = .ok (.putfield 26, 3) := zo_181 (b1 := 0) (b2 := 26) (zkb3 zk_cX3_init zn_cX3_init rfl) rfl
theorem dX3_init_51 : decode cX3_init 51 = .ok (.aload_n 0, 1) := zo_42 (zkb zk_cX3_init zn_cX3_init rfl)
theorem dX3_init_52 : decode cX3_init 52 = .ok (.iload_n 2, 1) := zo_28 (zkb zk_cX3_init zn_cX3_init rfl)
theorem dX3_init_53 : decode cX3_init 53 = .ok (.putfield 30, 3) := zo_181 (b1 := 0) (b2 := 30) (zkb3 zk_cX3_init zn_cX3_init rfl) rfl
theorem dX3_init_56 : decode cX3_init 56 = .ok (.return_, 1) := zo_177 (zkb zk_cX3_init zn_cX3_init rfl)
set_option maxRecDepth 20000 in
set_option maxHeartbeats 4000000 in
theorem cX3_init_met (st : Nat → Nat) (l : Launch) (D : va_G) (h0 : Nat) (a2 : Nat) (x2 : Int32) (hz2 : zbo x2 = true) (sz : Nat) : zN st l yX3_init wzX3_init rmX3_init [.ref h0, .ref a2, .int x2] D [(h0, .inr (5, [.null, .int 0, .null, .null, .null, .null, .null, .int 0, .int 0]))] sz (fun ad cy => wN3 ad cy (zsi zS0 3 1 x2)) tN3 (fun f => h0 = f 3 ∧ a2 = f 2) 5 123424 := by
  refine zN.of (cc := cX3_init) (maxL := 3) (by decide) rfl rfl (Nat.le_of_ble_eq_true rfl) (fun p e s m args below meth c hC hnm A hI ls hl => ?_)
  have hx := hC.1
  have hb := hC.2.1
  refine lv_aload_n hx hb dX3_init_0 rfl (lv_at hl 0 rfl) ?_
  refine z_objInit hC hl (List.mem_cons_of_mem _ zw4_15) (List.mem_cons_of_mem _ zw1_16) (List.mem_cons_of_mem _ zw1_17) dX3_init_1 (Nat.le_of_ble_eq_true rfl) (Nat.le_of_ble_eq_true rfl) ?_
  refine lv_aload_n hx hb dX3_init_4 rfl (lv_at hl 0 rfl) ?_
  refine lv_ldc (v := 61440) hx hb hC.2.2.2.1 (hC.2.2.2.2.1 _ (List.mem_cons_of_mem _ zw4_16)) dX3_init_5 ?_
  refine z_newi hC hI (List.mem_cons_of_mem _ zw3_15) 61440 (by decide +kernel) (by decide +kernel) (by decide +kernel) (Nat.le_of_ble_eq_true rfl) (Nat.le_of_ble_eq_true rfl) dX3_init_7 (fun q1 c1 H hI => ?_)
  have hI : zI st D [(c1, .int)] [(h0, .inr (5, [.null, .int 0, .null, .null, .null, .null, .null, .int 0, .int 0])), (q1, .inl (c1, 61440, .inl (fun _ => 0)))] A s H _ := hI
  refine z_putF hC hnm hI (w1 := [(h0, .inr (5, [.null, .int 0, .ref q1, .null, .null, .null, .null, .int 0, .int 0])), (q1, .inl (c1, 61440, .inl (fun _ => 0)))]) (fun w h => List.mem_cons_of_mem _ (inlX3 w h)) tyX3_ok nmX3 0 rfl rfl 2 (by decide) (List.mem_cons_of_mem _ zw4_17) rfl rfl rfl rfl (Nat.le_of_ble_eq_true rfl) rfl dX3_init_9 (fun H locs hI => ?_)
  refine lv_aload_n hx hb dX3_init_12 rfl (lv_at hl 0 rfl) ?_
  refine lv_ldc (v := 61440) hx hb hC.2.2.2.1 (hC.2.2.2.2.1 _ (List.mem_cons_of_mem _ zw4_16)) dX3_init_13 ?_
  refine z_newi hC hI (List.mem_cons_of_mem _ zw3_15) 61440 (by decide +kernel) (by decide +kernel) (by decide +kernel) (Nat.le_of_ble_eq_true rfl) (Nat.le_of_ble_eq_true rfl) dX3_init_15 (fun q2 c2 H hI => ?_)
  have hI : zI st D [(c1, .int), (c2, .int)] [(h0, .inr (5, [.null, .int 0, .ref q1, .null, .null, .null, .null, .int 0, .int 0])), (q1, .inl (c1, 61440, .inl (fun _ => 0))), (q2, .inl (c2, 61440, .inl (fun _ => 0)))] A s H _ := hI
  refine z_putF hC hnm hI (w1 := [(h0, .inr (5, [.null, .int 0, .ref q1, .ref q2, .null, .null, .null, .int 0, .int 0])), (q1, .inl (c1, 61440, .inl (fun _ => 0))), (q2, .inl (c2, 61440, .inl (fun _ => 0)))]) (fun w h => List.mem_cons_of_mem _ (inlX3 w h)) tyX3_ok nmX3 0 rfl rfl 3 (by decide) (List.mem_cons_of_mem _ zw4_18) rfl rfl rfl rfl (Nat.le_of_ble_eq_true rfl) rfl dX3_init_17 (fun H locs hI => ?_)
  refine lv_aload_n hx hb dX3_init_20 rfl (lv_at hl 0 rfl) ?_
  refine lv_sipush (v := 256) hx hb dX3_init_21 (by decide) ?_
  refine z_newi hC hI (List.mem_cons_of_mem _ zw3_15) 256 (by decide +kernel) (by decide +kernel) (by decide +kernel) (Nat.le_of_ble_eq_true rfl) (Nat.le_of_ble_eq_true rfl) dX3_init_24 (fun q3 c3 H hI => ?_)
  have hI : zI st D [(c1, .int), (c2, .int), (c3, .int)] [(h0, .inr (5, [.null, .int 0, .ref q1, .ref q2, .null, .null, .null, .int 0, .int 0])), (q1, .inl (c1, 61440, .inl (fun _ => 0))), (q2, .inl (c2, 61440, .inl (fun _ => 0))), (q3, .inl (c3, 256, .inl (fun _ => 0)))] A s H _ := hI
  refine z_putF hC hnm hI (w1 := [(h0, .inr (5, [.null, .int 0, .ref q1, .ref q2, .ref q3, .null, .null, .int 0, .int 0])), (q1, .inl (c1, 61440, .inl (fun _ => 0))), (q2, .inl (c2, 61440, .inl (fun _ => 0))), (q3, .inl (c3, 256, .inl (fun _ => 0)))]) (fun w h => List.mem_cons_of_mem _ (inlX3 w h)) tyX3_ok nmX3 0 rfl rfl 4 (by decide) (List.mem_cons_of_mem _ zw4_19) rfl rfl rfl rfl (Nat.le_of_ble_eq_true rfl) rfl dX3_init_26 (fun H locs hI => ?_)
  refine lv_aload_n hx hb dX3_init_29 rfl (lv_at hl 0 rfl) ?_
  refine lv_sipush (v := 256) hx hb dX3_init_30 (by decide) ?_
  refine z_newi hC hI (List.mem_cons_of_mem _ zw3_15) 256 (by decide +kernel) (by decide +kernel) (by decide +kernel) (Nat.le_of_ble_eq_true rfl) (Nat.le_of_ble_eq_true rfl) dX3_init_33 (fun q4 c4 H hI => ?_)
  have hI : zI st D [(c1, .int), (c2, .int), (c3, .int), (c4, .int)] [(h0, .inr (5, [.null, .int 0, .ref q1, .ref q2, .ref q3, .null, .null, .int 0, .int 0])), (q1, .inl (c1, 61440, .inl (fun _ => 0))), (q2, .inl (c2, 61440, .inl (fun _ => 0))), (q3, .inl (c3, 256, .inl (fun _ => 0))), (q4, .inl (c4, 256, .inl (fun _ => 0)))] A s H _ := hI
  refine z_putF hC hnm hI (w1 := [(h0, .inr (5, [.null, .int 0, .ref q1, .ref q2, .ref q3, .ref q4, .null, .int 0, .int 0])), (q1, .inl (c1, 61440, .inl (fun _ => 0))), (q2, .inl (c2, 61440, .inl (fun _ => 0))), (q3, .inl (c3, 256, .inl (fun _ => 0))), (q4, .inl (c4, 256, .inl (fun _ => 0)))]) (fun w h => List.mem_cons_of_mem _ (inlX3 w h)) tyX3_ok nmX3 0 rfl rfl 5 (by decide) (List.mem_cons_of_mem _ zw4_20) rfl rfl rfl rfl (Nat.le_of_ble_eq_true rfl) rfl dX3_init_35 (fun H locs hI => ?_)
  refine lv_aload_n hx hb dX3_init_38 rfl (lv_at hl 0 rfl) ?_
  refine lv_bipush (v := 32) hx hb dX3_init_39 (by decide) ?_
  refine z_newi hC hI (List.mem_cons_of_mem _ zw3_15) 32 (by decide +kernel) (by decide +kernel) (by decide +kernel) (Nat.le_of_ble_eq_true rfl) (Nat.le_of_ble_eq_true rfl) dX3_init_41 (fun q5 c5 H hI => ?_)
  have hI : zI st D [(c1, .int), (c2, .int), (c3, .int), (c4, .int), (c5, .int)] [(h0, .inr (5, [.null, .int 0, .ref q1, .ref q2, .ref q3, .ref q4, .null, .int 0, .int 0])), (q1, .inl (c1, 61440, .inl (fun _ => 0))), (q2, .inl (c2, 61440, .inl (fun _ => 0))), (q3, .inl (c3, 256, .inl (fun _ => 0))), (q4, .inl (c4, 256, .inl (fun _ => 0))), (q5, .inl (c5, 32, .inl (fun _ => 0)))] A s H _ := hI
  refine z_putF hC hnm hI (w1 := [(h0, .inr (5, [.null, .int 0, .ref q1, .ref q2, .ref q3, .ref q4, .ref q5, .int 0, .int 0])), (q1, .inl (c1, 61440, .inl (fun _ => 0))), (q2, .inl (c2, 61440, .inl (fun _ => 0))), (q3, .inl (c3, 256, .inl (fun _ => 0))), (q4, .inl (c4, 256, .inl (fun _ => 0))), (q5, .inl (c5, 32, .inl (fun _ => 0)))]) (fun w h => List.mem_cons_of_mem _ (inlX3 w h)) tyX3_ok nmX3 0 rfl rfl 6 (by decide) (List.mem_cons_of_mem _ zw4_21) rfl rfl rfl rfl (Nat.le_of_ble_eq_true rfl) rfl dX3_init_43 (fun H locs hI => ?_)
  refine lv_aload_n hx hb dX3_init_46 rfl (lv_at hl 0 rfl) ?_
  refine lv_aload_n hx hb dX3_init_47 rfl (lv_at hl 1 rfl) ?_
  refine z_putF hC hnm hI (w1 := [(h0, .inr (5, [.ref a2, .int 0, .ref q1, .ref q2, .ref q3, .ref q4, .ref q5, .int 0, .int 0])), (q1, .inl (c1, 61440, .inl (fun _ => 0))), (q2, .inl (c2, 61440, .inl (fun _ => 0))), (q3, .inl (c3, 256, .inl (fun _ => 0))), (q4, .inl (c4, 256, .inl (fun _ => 0))), (q5, .inl (c5, 32, .inl (fun _ => 0)))]) (fun w h => List.mem_cons_of_mem _ (inlX3 w h)) tyX3_ok nmX3 0 rfl rfl 0 (by decide) (List.mem_cons_of_mem _ zw4_22) rfl rfl rfl rfl (Nat.le_of_ble_eq_true rfl) rfl dX3_init_48 (fun H locs hI => ?_)
  refine lv_aload_n hx hb dX3_init_51 rfl (lv_at hl 0 rfl) ?_
  refine lv_iload_n hx hb dX3_init_52 rfl (lv_at hl 2 rfl) ?_
  refine z_putF hC hnm hI (w1 := [(h0, .inr (5, [.ref a2, .int x2, .ref q1, .ref q2, .ref q3, .ref q4, .ref q5, .int 0, .int 0])), (q1, .inl (c1, 61440, .inl (fun _ => 0))), (q2, .inl (c2, 61440, .inl (fun _ => 0))), (q3, .inl (c3, 256, .inl (fun _ => 0))), (q4, .inl (c4, 256, .inl (fun _ => 0))), (q5, .inl (c5, 32, .inl (fun _ => 0)))]) (fun w h => List.mem_cons_of_mem _ (inlX3 w h)) tyX3_ok nmX3 0 rfl rfl 1 (by decide) (List.mem_cons_of_mem _ zw4_23) rfl rfl (zbo_n hz2) (zbo_f hz2) (Nat.le_of_ble_eq_true rfl) rfl dX3_init_53 (fun H locs hI => ?_)
  obtain ⟨ad, had⟩ : ∃ f : Nat → Nat, f = (fun j => if j = 3 then h0 else if j = 25 then q1 else if j = 26 then q2 else if j = 27 then q3 else if j = 28 then q4 else if j = 29 then q5 else if j = 2 then a2 else 0) := ⟨_, rfl⟩
  obtain ⟨cy, hcy⟩ : ∃ f : Nat → ClassId, f = (fun j => if j = 25 then c1 else if j = 26 then c2 else if j = 27 then c3 else if j = 28 then c4 else if j = 29 then c5 else 0) := ⟨_, rfl⟩
  have e3 : h0 = ad 3 := by rw [had]; rfl
  have e25 : q1 = ad 25 := by rw [had]; rfl
  have e26 : q2 = ad 26 := by rw [had]; rfl
  have e27 : q3 = ad 27 := by rw [had]; rfl
  have e28 : q4 = ad 28 := by rw [had]; rfl
  have e29 : q5 = ad 29 := by rw [had]; rfl
  have e2 : a2 = ad 2 := by rw [had]; rfl
  have hI : zI st D (tN3 cy) (wN3 ad cy (zsi zS0 3 1 x2)) A s H locs := by rw [had, hcy]; exact hI
  exact z_nreturn0 (wn := fun ad cy => wN3 ad cy (zsi zS0 3 1 x2)) (tn := tN3) (ex := fun f => h0 = f 3 ∧ a2 = f 2) hC ad cy hI ⟨e3, e2⟩ (Nat.le_refl _) (Nat.le_refl _) dX3_init_56
theorem hdX3_init : yX3_init.cls ≠ "java/lang/invoke/MethodHandle" ∧ yX3_init.cls ≠ "java/lang/invoke/VarHandle" ∧ (parseMethodDescriptor yX3_init.desc).map (fun d => d.parameters.length) = some 2 := by decide +kernel
noncomputable def rmX7_init : Room := { frames := 3, cells := 2, slots := 38, locals := 66 }
noncomputable def wzX7_init : List Cond := .code yX7_init cX7_init 1 none :: wsL_law
noncomputable def kn_cX7_init : Nat := 0xb11000b62a0d00b50abc13102a0900b50abc13102a0100b72a
theorem zk_cX7_init : zkd cX7_init.data.toList kn_cX7_init = true := by decide +kernel
theorem zn_cX7_init : cX7_init.data.toList.length = 25 := by decide +kernel
theorem dX7_init_0 : decode cX7_init 0 = .ok (.aload_n 0, 1) := zo_42 (zkb zk_cX7_init zn_cX7_init rfl)
theorem dX7_init_1 : decode cX7_init 1 = .ok (.invokespecial 1, 3) := zo_183 (b1 := 0) (b2 := 1) (zkb3 zk_cX7_init zn_cX7_init rfl) rfl
theorem dX7_init_4 : decode cX7_init 4 = .ok (.aload_n 0, 1) := zo_42 (zkb zk_cX7_init zn_cX7_init rfl)
theorem dX7_init_5 : decode cX7_init 5 = .ok (.bipush 19, 2) := zo_16 (b1 := 19) (zkb2 zk_cX7_init zn_cX7_init rfl) rfl
theorem dX7_init_7 : decode cX7_init 7 = .ok (.newarray .int, 2) := by decide +kernel
theorem dX7_init_9 : decode cX7_init 9 = .ok (.putfield 9, 3) := zo_181 (b1 := 0) (b2 := 9) (zkb3 zk_cX7_init zn_cX7_init rfl) rfl
theorem dX7_init_12 : decode cX7_init 12 = .ok (.aload_n 0, 1) := zo_42 (zkb zk_cX7_init zn_cX7_init rfl)
theorem dX7_init_13 : decode cX7_init 13 = .ok (.bipush 19, 2) := zo_16 (b1 := 19) (zkb2 zk_cX7_init zn_cX7_init rfl) rfl
theorem dX7_init_15 : decode cX7_init 15 = .ok (.newarray .int, 2) := by decide +kernel
theorem dX7_init_17 : decode cX7_init 17 = .ok (.putfield 13, 3) := zo_181 (b1 := 0) (b2 := 13) (zkb3 zk_cX7_init zn_cX7_init rfl) rfl
theorem dX7_init_20 : decode cX7_init 20 = .ok (.aload_n 0, 1) := zo_42 (zkb zk_cX7_init zn_cX7_init rfl)
theorem dX7_init_21 : decode cX7_init 21 = .ok (.invokevirtual 16, 3) := zo_182 (b1 := 0) (b2 := 16) (zkb3 zk_cX7_init zn_cX7_init rfl) rfl
theorem dX7_init_24 : decode cX7_init 24 = .ok (.return_, 1) := zo_177 (zkb zk_cX7_init zn_cX7_init rfl)
set_option maxRecDepth 20000 in
set_option maxHeartbeats 4000000 in
theorem cX7_init_met (st : Nat → Nat) (l : Launch) (D : va_G) (h0 : Nat)  (σ1 : zSt) (hf : fX7_clear zS0 = some σ1) (sz : Nat) : zN st l yX7_init wzX7_init rmX7_init [.ref h0] D [(h0, .inr (9, [.null, .null]))] sz (fun ad cy => wN4 ad cy σ1) tN4 (fun f => h0 = f 4) 2 38 := by
  refine zN.of (cc := cX7_init) (maxL := 1) (by decide) rfl rfl (Nat.le_of_ble_eq_true rfl) (fun p e s m args below meth c hC hnm A hI ls hl => ?_)
  have hx := hC.1
  have hb := hC.2.1
  refine lv_aload_n hx hb dX7_init_0 rfl (lv_at hl 0 rfl) ?_
  refine z_objInit hC hl (List.mem_cons_of_mem _ zw5_3) (List.mem_cons_of_mem _ zw1_16) (List.mem_cons_of_mem _ zw1_17) dX7_init_1 (Nat.le_of_ble_eq_true rfl) (Nat.le_of_ble_eq_true rfl) ?_
  refine lv_aload_n hx hb dX7_init_4 rfl (lv_at hl 0 rfl) ?_
  refine lv_bipush (v := 19) hx hb dX7_init_5 (by decide) ?_
  refine z_newi hC hI (List.mem_cons_of_mem _ zw3_15) 19 (by decide +kernel) (by decide +kernel) (by decide +kernel) (Nat.le_of_ble_eq_true rfl) (Nat.le_of_ble_eq_true rfl) dX7_init_7 (fun q1 c1 H hI => ?_)
  have hI : zI st D [(c1, .int)] [(h0, .inr (9, [.null, .null])), (q1, .inl (c1, 19, .inl (fun _ => 0)))] A s H _ := hI
  refine z_putF hC hnm hI (w1 := [(h0, .inr (9, [.ref q1, .null])), (q1, .inl (c1, 19, .inl (fun _ => 0)))]) (fun w h => List.mem_cons_of_mem _ (inlX7 w h)) tyX7_ok nmX7 0 rfl rfl 0 (by decide) (List.mem_cons_of_mem _ zw5_4) rfl rfl rfl rfl (Nat.le_of_ble_eq_true rfl) rfl dX7_init_9 (fun H locs hI => ?_)
  refine lv_aload_n hx hb dX7_init_12 rfl (lv_at hl 0 rfl) ?_
  refine lv_bipush (v := 19) hx hb dX7_init_13 (by decide) ?_
  refine z_newi hC hI (List.mem_cons_of_mem _ zw3_15) 19 (by decide +kernel) (by decide +kernel) (by decide +kernel) (Nat.le_of_ble_eq_true rfl) (Nat.le_of_ble_eq_true rfl) dX7_init_15 (fun q2 c2 H hI => ?_)
  have hI : zI st D [(c1, .int), (c2, .int)] [(h0, .inr (9, [.ref q1, .null])), (q1, .inl (c1, 19, .inl (fun _ => 0))), (q2, .inl (c2, 19, .inl (fun _ => 0)))] A s H _ := hI
  refine z_putF hC hnm hI (w1 := [(h0, .inr (9, [.ref q1, .ref q2])), (q1, .inl (c1, 19, .inl (fun _ => 0))), (q2, .inl (c2, 19, .inl (fun _ => 0)))]) (fun w h => List.mem_cons_of_mem _ (inlX7 w h)) tyX7_ok nmX7 0 rfl rfl 1 (by decide) (List.mem_cons_of_mem _ zw5_5) rfl rfl rfl rfl (Nat.le_of_ble_eq_true rfl) rfl dX7_init_17 (fun H locs hI => ?_)
  refine lv_aload_n hx hb dX7_init_20 rfl (lv_at hl 0 rfl) ?_
  obtain ⟨ad, had⟩ : ∃ f : Nat → Nat, f = (fun j => if j = 4 then h0 else if j = 30 then q1 else if j = 31 then q2 else 0) := ⟨_, rfl⟩
  obtain ⟨cy, hcy⟩ : ∃ f : Nat → ClassId, f = (fun j => if j = 30 then c1 else if j = 31 then c2 else 0) := ⟨_, rfl⟩
  have e4 : h0 = ad 4 := by rw [had]; rfl
  have e30 : q1 = ad 30 := by rw [had]; rfl
  have e31 : q2 = ad 31 := by rw [had]; rfl
  have hI : zI st D (tN4 cy) (wN4 ad cy zS0) A s H locs := by rw [had, hcy]; exact hI
  refine z_callVu (As := []) (rest := []) hC hI (cX7_clear_w4_met st l D ad cy zS0 σ1 hf) (zgV zw5_6 zw5_7 zw5_8 zw2_9 zw5_9) rfl ⟨rfl, rfl⟩ 0 hdX7_clear_w4 ⟨Nat.le_of_ble_eq_true rfl, Nat.le_of_ble_eq_true rfl⟩ rfl rfl (wN4_e4 ad cy zS0) rfl hl (by rw [e4]; rfl) (Nat.le_of_ble_eq_true rfl) dX7_init_21 ⟨Nat.le_of_ble_eq_true rfl, Nat.le_of_ble_eq_true rfl⟩ (fun H locs hI => ?_)
  exact z_nreturn0 (wn := fun ad cy => wN4 ad cy σ1) (tn := tN4) (ex := fun f => h0 = f 4) hC ad cy hI e4 (Nat.le_refl _) (Nat.le_refl _) dX7_init_24
theorem hdX7_init : yX7_init.cls ≠ "java/lang/invoke/MethodHandle" ∧ yX7_init.cls ≠ "java/lang/invoke/VarHandle" ∧ (parseMethodDescriptor yX7_init.desc).map (fun d => d.parameters.length) = some 0 := by decide +kernel
noncomputable def rmX10_init : Room := { frames := 2, cells := 2, slots := 544, locals := 45 }
noncomputable def wzX10_init : List Cond := .code yX10_init cX10_init 1 none :: wsL_law
noncomputable def kn_cX10_init : Nat := 0xb11000b62a0d00b50abc1001112a0900b50abc1001112a0100b72a
theorem zk_cX10_init : zkd cX10_init.data.toList kn_cX10_init = true := by decide +kernel
theorem zn_cX10_init : cX10_init.data.toList.length = 27 := by decide +kernel
theorem dX10_init_0 : decode cX10_init 0 = .ok (.aload_n 0, 1) := zo_42 (zkb zk_cX10_init zn_cX10_init rfl)
theorem dX10_init_1 : decode cX10_init 1 = .ok (.invokespecial 1, 3) := zo_183 (b1 := 0) (b2 := 1) (zkb3 zk_cX10_init zn_cX10_init rfl) rfl
theorem dX10_init_4 : decode cX10_init 4 = .ok (.aload_n 0, 1) := zo_42 (zkb zk_cX10_init zn_cX10_init rfl)
theorem dX10_init_5 : decode cX10_init 5 = .ok (.sipush 272, 3) := zo_17 (b1 := 1) (b2 := 16) (zkb3 zk_cX10_init zn_cX10_init rfl) rfl
theorem dX10_init_8 : decode cX10_init 8 = .ok (.newarray .int, 2) := by decide +kernel
theorem dX10_init_10 : decode cX10_init 10 = .ok (.putfield 9, 3) := zo_181 (b1 := 0) (b2 := 9) (zkb3 zk_cX10_init zn_cX10_init rfl) rfl
theorem dX10_init_13 : decode cX10_init 13 = .ok (.aload_n 0, 1) := zo_42 (zkb zk_cX10_init zn_cX10_init rfl)
theorem dX10_init_14 : decode cX10_init 14 = .ok (.sipush 272, 3) := zo_17 (b1 := 1) (b2 := 16) (zkb3 zk_cX10_init zn_cX10_init rfl) rfl
theorem dX10_init_17 : decode cX10_init 17 = .ok (.newarray .int, 2) := by decide +kernel
theorem dX10_init_19 : decode cX10_init 19 = .ok (.putfield 13, 3) := zo_181 (b1 := 0) (b2 := 13) (zkb3 zk_cX10_init zn_cX10_init rfl) rfl
theorem dX10_init_22 : decode cX10_init 22 = .ok (.aload_n 0, 1) := zo_42 (zkb zk_cX10_init zn_cX10_init rfl)
theorem dX10_init_23 : decode cX10_init 23 = .ok (.invokevirtual 16, 3) := zo_182 (b1 := 0) (b2 := 16) (zkb3 zk_cX10_init zn_cX10_init rfl) rfl
theorem dX10_init_26 : decode cX10_init 26 = .ok (.return_, 1) := zo_177 (zkb zk_cX10_init zn_cX10_init rfl)
set_option maxRecDepth 20000 in
set_option maxHeartbeats 4000000 in
theorem cX10_init_met (st : Nat → Nat) (l : Launch) (D : va_G) (h0 : Nat)  (σ1 : zSt) (hf : fX10_clear zS0 = some σ1) (sz : Nat) : zN st l yX10_init wzX10_init rmX10_init [.ref h0] D [(h0, .inr (12, [.null, .null, .int 0, .int 0, .int 0, .int 0, .long 0, .long 0]))] sz (fun ad cy => wN5 ad cy σ1) tN5 (fun f => h0 = f 5) 2 544 := by
  refine zN.of (cc := cX10_init) (maxL := 1) (by decide) rfl rfl (Nat.le_of_ble_eq_true rfl) (fun p e s m args below meth c hC hnm A hI ls hl => ?_)
  have hx := hC.1
  have hb := hC.2.1
  refine lv_aload_n hx hb dX10_init_0 rfl (lv_at hl 0 rfl) ?_
  refine z_objInit hC hl (List.mem_cons_of_mem _ zw6_3) (List.mem_cons_of_mem _ zw1_16) (List.mem_cons_of_mem _ zw1_17) dX10_init_1 (Nat.le_of_ble_eq_true rfl) (Nat.le_of_ble_eq_true rfl) ?_
  refine lv_aload_n hx hb dX10_init_4 rfl (lv_at hl 0 rfl) ?_
  refine lv_sipush (v := 272) hx hb dX10_init_5 (by decide) ?_
  refine z_newi hC hI (List.mem_cons_of_mem _ zw3_15) 272 (by decide +kernel) (by decide +kernel) (by decide +kernel) (Nat.le_of_ble_eq_true rfl) (Nat.le_of_ble_eq_true rfl) dX10_init_8 (fun q1 c1 H hI => ?_)
  have hI : zI st D [(c1, .int)] [(h0, .inr (12, [.null, .null, .int 0, .int 0, .int 0, .int 0, .long 0, .long 0])), (q1, .inl (c1, 272, .inl (fun _ => 0)))] A s H _ := hI
  refine z_putF hC hnm hI (w1 := [(h0, .inr (12, [.ref q1, .null, .int 0, .int 0, .int 0, .int 0, .long 0, .long 0])), (q1, .inl (c1, 272, .inl (fun _ => 0)))]) (fun w h => List.mem_cons_of_mem _ (inlX10 w h)) tyX10_ok nmX10 0 rfl rfl 0 (by decide) (List.mem_cons_of_mem _ zw6_4) rfl rfl rfl rfl (Nat.le_of_ble_eq_true rfl) rfl dX10_init_10 (fun H locs hI => ?_)
  refine lv_aload_n hx hb dX10_init_13 rfl (lv_at hl 0 rfl) ?_
  refine lv_sipush (v := 272) hx hb dX10_init_14 (by decide) ?_
  refine z_newi hC hI (List.mem_cons_of_mem _ zw3_15) 272 (by decide +kernel) (by decide +kernel) (by decide +kernel) (Nat.le_of_ble_eq_true rfl) (Nat.le_of_ble_eq_true rfl) dX10_init_17 (fun q2 c2 H hI => ?_)
  have hI : zI st D [(c1, .int), (c2, .int)] [(h0, .inr (12, [.ref q1, .null, .int 0, .int 0, .int 0, .int 0, .long 0, .long 0])), (q1, .inl (c1, 272, .inl (fun _ => 0))), (q2, .inl (c2, 272, .inl (fun _ => 0)))] A s H _ := hI
  refine z_putF hC hnm hI (w1 := [(h0, .inr (12, [.ref q1, .ref q2, .int 0, .int 0, .int 0, .int 0, .long 0, .long 0])), (q1, .inl (c1, 272, .inl (fun _ => 0))), (q2, .inl (c2, 272, .inl (fun _ => 0)))]) (fun w h => List.mem_cons_of_mem _ (inlX10 w h)) tyX10_ok nmX10 0 rfl rfl 1 (by decide) (List.mem_cons_of_mem _ zw6_5) rfl rfl rfl rfl (Nat.le_of_ble_eq_true rfl) rfl dX10_init_19 (fun H locs hI => ?_)
  refine lv_aload_n hx hb dX10_init_22 rfl (lv_at hl 0 rfl) ?_
  obtain ⟨ad, had⟩ : ∃ f : Nat → Nat, f = (fun j => if j = 5 then h0 else if j = 32 then q1 else if j = 33 then q2 else 0) := ⟨_, rfl⟩
  obtain ⟨cy, hcy⟩ : ∃ f : Nat → ClassId, f = (fun j => if j = 32 then c1 else if j = 33 then c2 else 0) := ⟨_, rfl⟩
  have e5 : h0 = ad 5 := by rw [had]; rfl
  have e32 : q1 = ad 32 := by rw [had]; rfl
  have e33 : q2 = ad 33 := by rw [had]; rfl
  have hI : zI st D (tN5 cy) (wN5 ad cy zS0) A s H locs := by rw [had, hcy]; exact hI
  refine z_callVu (As := []) (rest := []) hC hI (cX10_clear_w5_met st l D ad cy zS0 σ1 hf) (zgV zw6_6 zw6_7 zw6_8 zw2_13 zw6_9) rfl ⟨rfl, rfl⟩ 0 hdX10_clear_w5 ⟨Nat.le_of_ble_eq_true rfl, Nat.le_of_ble_eq_true rfl⟩ rfl rfl (wN5_e5 ad cy zS0) rfl hl (by rw [e5]; rfl) (Nat.le_of_ble_eq_true rfl) dX10_init_23 ⟨Nat.le_of_ble_eq_true rfl, Nat.le_of_ble_eq_true rfl⟩ (fun H locs hI => ?_)
  exact z_nreturn0 (wn := fun ad cy => wN5 ad cy σ1) (tn := tN5) (ex := fun f => h0 = f 5) hC ad cy hI e5 (Nat.le_refl _) (Nat.le_refl _) dX10_init_26
theorem hdX10_init : yX10_init.cls ≠ "java/lang/invoke/MethodHandle" ∧ yX10_init.cls ≠ "java/lang/invoke/VarHandle" ∧ (parseMethodDescriptor yX10_init.desc).map (fun d => d.parameters.length) = some 0 := by decide +kernel
noncomputable def rmX4_init : Room := { frames := 1, cells := 2, slots := 24, locals := 20 }
noncomputable def wzX4_init : List Cond := .code yX4_init cX4_init 5 none :: wsL_law
noncomputable def kn_cX4_init : Nat := 0xb12000b62a4f040b100900b42a4f040a100900b42a1c00b504192a1800b52d2a1400b52c2a1000b51b2a0d00b50abc0c102a0900b50abc0c102a0100b72a
theorem zk_cX4_init : zkd cX4_init.data.toList kn_cX4_init = true := by decide +kernel
theorem zn_cX4_init : cX4_init.data.toList.length = 62 := by decide +kernel
theorem dX4_init_0 : decode cX4_init 0 = .ok (.aload_n 0, 1) := zo_42 (zkb zk_cX4_init zn_cX4_init rfl)
theorem dX4_init_1 : decode cX4_init 1 = .ok (.invokespecial 1, 3) := zo_183 (b1 := 0) (b2 := 1) (zkb3 zk_cX4_init zn_cX4_init rfl) rfl
theorem dX4_init_4 : decode cX4_init 4 = .ok (.aload_n 0, 1) := zo_42 (zkb zk_cX4_init zn_cX4_init rfl)
theorem dX4_init_5 : decode cX4_init 5 = .ok (.bipush 12, 2) := zo_16 (b1 := 12) (zkb2 zk_cX4_init zn_cX4_init rfl) rfl
theorem dX4_init_7 : decode cX4_init 7 = .ok (.newarray .int, 2) := by decide +kernel
theorem dX4_init_9 : decode cX4_init 9 = .ok (.putfield 9, 3) := zo_181 (b1 := 0) (b2 := 9) (zkb3 zk_cX4_init zn_cX4_init rfl) rfl
theorem dX4_init_12 : decode cX4_init 12 = .ok (.aload_n 0, 1) := zo_42 (zkb zk_cX4_init zn_cX4_init rfl)
theorem dX4_init_13 : decode cX4_init 13 = .ok (.bipush 12, 2) := zo_16 (b1 := 12) (zkb2 zk_cX4_init zn_cX4_init rfl) rfl
theorem dX4_init_15 : decode cX4_init 15 = .ok (.newarray .int, 2) := by decide +kernel
theorem dX4_init_17 : decode cX4_init 17 = .ok (.putfield 13, 3) := zo_181 (b1 := 0) (b2 := 13) (zkb3 zk_cX4_init zn_cX4_init rfl) rfl
theorem dX4_init_20 : decode cX4_init 20 = .ok (.aload_n 0, 1) := zo_42 (zkb zk_cX4_init zn_cX4_init rfl)
theorem dX4_init_21 : decode cX4_init 21 = .ok (.iload_n 1, 1) := zo_27 (zkb zk_cX4_init zn_cX4_init rfl)
theorem dX4_init_22 : decode cX4_init 22 = .ok (.putfield 16, 3) := zo_181 (b1 := 0) (b2 := 16) (zkb3 zk_cX4_init zn_cX4_init rfl) rfl
theorem dX4_init_25 : decode cX4_init 25 = .ok (.aload_n 0, 1) := zo_42 (zkb zk_cX4_init zn_cX4_init rfl)
theorem dX4_init_26 : decode cX4_init 26 = .ok (.aload_n 2, 1) := zo_44 (zkb zk_cX4_init zn_cX4_init rfl)
theorem dX4_init_27 : decode cX4_init 27 = .ok (.putfield 20, 3) := zo_181 (b1 := 0) (b2 := 20) (zkb3 zk_cX4_init zn_cX4_init rfl) rfl
theorem dX4_init_30 : decode cX4_init 30 = .ok (.aload_n 0, 1) := zo_42 (zkb zk_cX4_init zn_cX4_init rfl)
theorem dX4_init_31 : decode cX4_init 31 = .ok (.aload_n 3, 1) := zo_45 (zkb zk_cX4_init zn_cX4_init rfl)
theorem dX4_init_32 : decode cX4_init 32 = .ok (.putfield 24, 3) := zo_181 (b1 := 0) (b2 := 24) (zkb3 zk_cX4_init zn_cX4_init rfl) rfl
theorem dX4_init_35 : decode cX4_init 35 = .ok (.aload_n 0, 1) := zo_42 (zkb zk_cX4_init zn_cX4_init rfl)
theorem dX4_init_36 : decode cX4_init 36 = .ok (.aload 4, 2) := zo_25 (b1 := 4) (zkb2 zk_cX4_init zn_cX4_init rfl)
theorem dX4_init_38 : decode cX4_init 38 = .ok (.putfield 28, 3) := zo_181 (b1 := 0) (b2 := 28) (zkb3 zk_cX4_init zn_cX4_init rfl) rfl
theorem dX4_init_41 : decode cX4_init 41 = .ok (.aload_n 0, 1) := zo_42 (zkb zk_cX4_init zn_cX4_init rfl)
theorem dX4_init_42 : decode cX4_init 42 = .ok (.getfield 9, 3) := zo_180 (b1 := 0) (b2 := 9) (zkb3 zk_cX4_init zn_cX4_init rfl) rfl
theorem dX4_init_45 : decode cX4_init 45 = .ok (.bipush 10, 2) := zo_16 (b1 := 10) (zkb2 zk_cX4_init zn_cX4_init rfl) rfl
theorem dX4_init_47 : decode cX4_init 47 = .ok (.iconst 1, 1) := zo_4 (zkb zk_cX4_init zn_cX4_init rfl)
theorem dX4_init_48 : decode cX4_init 48 = .ok (.iastore, 1) := zo_79 (zkb zk_cX4_init zn_cX4_init rfl)
theorem dX4_init_49 : decode cX4_init 49 = .ok (.aload_n 0, 1) := zo_42 (zkb zk_cX4_init zn_cX4_init rfl)
theorem dX4_init_50 : decode cX4_init 50 = .ok (.getfield 9, 3) := zo_180 (b1 := 0) (b2 := 9) (zkb3 zk_cX4_init zn_cX4_init rfl) rfl
theorem dX4_init_53 : decode cX4_init 53 = .ok (.bipush 11, 2) := zo_16 (b1 := 11) (zkb2 zk_cX4_init zn_cX4_init rfl) rfl
theorem dX4_init_55 : decode cX4_init 55 = .ok (.iconst 1, 1) := zo_4 (zkb zk_cX4_init zn_cX4_init rfl)
theorem dX4_init_56 : decode cX4_init 56 = .ok (.iastore, 1) := zo_79 (zkb zk_cX4_init zn_cX4_init rfl)
theorem dX4_init_57 : decode cX4_init 57 = .ok (.aload_n 0, 1) := zo_42 (zkb zk_cX4_init zn_cX4_init rfl)
theorem dX4_init_58 : decode cX4_init 58 = .ok (.invokevirtual 32, 3) := zo_182 (b1 := 0) (b2 := 32) (zkb3 zk_cX4_init zn_cX4_init rfl) rfl
theorem dX4_init_61 : decode cX4_init 61 = .ok (.return_, 1) := zo_177 (zkb zk_cX4_init zn_cX4_init rfl)
set_option maxRecDepth 20000 in
set_option maxHeartbeats 4000000 in
theorem cX4_init_met (st : Nat → Nat) (l : Launch) (D : va_G) (h0 : Nat) (x1 : Int32) (a2 : Nat) (a4 : Nat) (a5 : Nat) (hz1 : zbo x1 = true) (σ1 : zSt) (hf : fX4_clear (zsi (zsi (zsi zS0 6 0 x1) 34 10 1) 34 11 1) = some σ1) (sz : Nat) : zN st l yX4_init wzX4_init rmX4_init [.ref h0, .int x1, .ref a2, .ref a4, .ref a5] D [(h0, .inr (6, [.int 0, .null, .null, .null, .null, .null]))] sz (fun ad cy => wN6 ad cy σ1) tN6 (fun f => h0 = f 6 ∧ a2 = f 2 ∧ a4 = f 4 ∧ a5 = f 5) 2 24 := by
  refine zN.of (cc := cX4_init) (maxL := 5) (by decide) rfl rfl (Nat.le_of_ble_eq_true rfl) (fun p e s m args below meth c hC hnm A hI ls hl => ?_)
  have hx := hC.1
  have hb := hC.2.1
  refine lv_aload_n hx hb dX4_init_0 rfl (lv_at hl 0 rfl) ?_
  refine z_objInit hC hl (List.mem_cons_of_mem _ zw6_14) (List.mem_cons_of_mem _ zw1_16) (List.mem_cons_of_mem _ zw1_17) dX4_init_1 (Nat.le_of_ble_eq_true rfl) (Nat.le_of_ble_eq_true rfl) ?_
  refine lv_aload_n hx hb dX4_init_4 rfl (lv_at hl 0 rfl) ?_
  refine lv_bipush (v := 12) hx hb dX4_init_5 (by decide) ?_
  refine z_newi hC hI (List.mem_cons_of_mem _ zw3_15) 12 (by decide +kernel) (by decide +kernel) (by decide +kernel) (Nat.le_of_ble_eq_true rfl) (Nat.le_of_ble_eq_true rfl) dX4_init_7 (fun q1 c1 H hI => ?_)
  have hI : zI st D [(c1, .int)] [(h0, .inr (6, [.int 0, .null, .null, .null, .null, .null])), (q1, .inl (c1, 12, .inl (fun _ => 0)))] A s H _ := hI
  refine z_putF hC hnm hI (w1 := [(h0, .inr (6, [.int 0, .null, .null, .null, .ref q1, .null])), (q1, .inl (c1, 12, .inl (fun _ => 0)))]) (fun w h => List.mem_cons_of_mem _ (inlX4 w h)) tyX4_ok nmX4 0 rfl rfl 4 (by decide) (List.mem_cons_of_mem _ zw6_15) rfl rfl rfl rfl (Nat.le_of_ble_eq_true rfl) rfl dX4_init_9 (fun H locs hI => ?_)
  refine lv_aload_n hx hb dX4_init_12 rfl (lv_at hl 0 rfl) ?_
  refine lv_bipush (v := 12) hx hb dX4_init_13 (by decide) ?_
  refine z_newi hC hI (List.mem_cons_of_mem _ zw3_15) 12 (by decide +kernel) (by decide +kernel) (by decide +kernel) (Nat.le_of_ble_eq_true rfl) (Nat.le_of_ble_eq_true rfl) dX4_init_15 (fun q2 c2 H hI => ?_)
  have hI : zI st D [(c1, .int), (c2, .int)] [(h0, .inr (6, [.int 0, .null, .null, .null, .ref q1, .null])), (q1, .inl (c1, 12, .inl (fun _ => 0))), (q2, .inl (c2, 12, .inl (fun _ => 0)))] A s H _ := hI
  refine z_putF hC hnm hI (w1 := [(h0, .inr (6, [.int 0, .null, .null, .null, .ref q1, .ref q2])), (q1, .inl (c1, 12, .inl (fun _ => 0))), (q2, .inl (c2, 12, .inl (fun _ => 0)))]) (fun w h => List.mem_cons_of_mem _ (inlX4 w h)) tyX4_ok nmX4 0 rfl rfl 5 (by decide) (List.mem_cons_of_mem _ zw6_16) rfl rfl rfl rfl (Nat.le_of_ble_eq_true rfl) rfl dX4_init_17 (fun H locs hI => ?_)
  refine lv_aload_n hx hb dX4_init_20 rfl (lv_at hl 0 rfl) ?_
  refine lv_iload_n hx hb dX4_init_21 rfl (lv_at hl 1 rfl) ?_
  refine z_putF hC hnm hI (w1 := [(h0, .inr (6, [.int x1, .null, .null, .null, .ref q1, .ref q2])), (q1, .inl (c1, 12, .inl (fun _ => 0))), (q2, .inl (c2, 12, .inl (fun _ => 0)))]) (fun w h => List.mem_cons_of_mem _ (inlX4 w h)) tyX4_ok nmX4 0 rfl rfl 0 (by decide) (List.mem_cons_of_mem _ zw6_17) rfl rfl (zbo_n hz1) (zbo_f hz1) (Nat.le_of_ble_eq_true rfl) rfl dX4_init_22 (fun H locs hI => ?_)
  refine lv_aload_n hx hb dX4_init_25 rfl (lv_at hl 0 rfl) ?_
  refine lv_aload_n hx hb dX4_init_26 rfl (lv_at hl 2 rfl) ?_
  refine z_putF hC hnm hI (w1 := [(h0, .inr (6, [.int x1, .ref a2, .null, .null, .ref q1, .ref q2])), (q1, .inl (c1, 12, .inl (fun _ => 0))), (q2, .inl (c2, 12, .inl (fun _ => 0)))]) (fun w h => List.mem_cons_of_mem _ (inlX4 w h)) tyX4_ok nmX4 0 rfl rfl 1 (by decide) (List.mem_cons_of_mem _ zw6_18) rfl rfl rfl rfl (Nat.le_of_ble_eq_true rfl) rfl dX4_init_27 (fun H locs hI => ?_)
  refine lv_aload_n hx hb dX4_init_30 rfl (lv_at hl 0 rfl) ?_
  refine lv_aload_n hx hb dX4_init_31 rfl (lv_at hl 3 rfl) ?_
  refine z_putF hC hnm hI (w1 := [(h0, .inr (6, [.int x1, .ref a2, .ref a4, .null, .ref q1, .ref q2])), (q1, .inl (c1, 12, .inl (fun _ => 0))), (q2, .inl (c2, 12, .inl (fun _ => 0)))]) (fun w h => List.mem_cons_of_mem _ (inlX4 w h)) tyX4_ok nmX4 0 rfl rfl 2 (by decide) (List.mem_cons_of_mem _ zw6_19) rfl rfl rfl rfl (Nat.le_of_ble_eq_true rfl) rfl dX4_init_32 (fun H locs hI => ?_)
  refine lv_aload_n hx hb dX4_init_35 rfl (lv_at hl 0 rfl) ?_
  refine lv_aload hx hb dX4_init_36 (lv_at hl 4 rfl) ?_
  refine z_putF hC hnm hI (w1 := [(h0, .inr (6, [.int x1, .ref a2, .ref a4, .ref a5, .ref q1, .ref q2])), (q1, .inl (c1, 12, .inl (fun _ => 0))), (q2, .inl (c2, 12, .inl (fun _ => 0)))]) (fun w h => List.mem_cons_of_mem _ (inlX4 w h)) tyX4_ok nmX4 0 rfl rfl 3 (by decide) (List.mem_cons_of_mem _ zw6_20) rfl rfl rfl rfl (Nat.le_of_ble_eq_true rfl) rfl dX4_init_38 (fun H locs hI => ?_)
  refine lv_aload_n hx hb dX4_init_41 rfl (lv_at hl 0 rfl) ?_
  refine z_get (v := .ref q1) hC hI (fun w h => List.mem_cons_of_mem _ (inlX4 w h)) 0 rfl rfl 4 (by decide) (List.mem_cons_of_mem _ zw6_15) rfl dX4_init_42 ?_
  refine lv_bipush (v := 10) hx hb dX4_init_45 (by decide) ?_
  refine lv_iconst (v := 1) hx hb dX4_init_47 (by decide) ?_
  refine z_iast (w1 := [(h0, .inr (6, [.int x1, .ref a2, .ref a4, .ref a5, .ref q1, .ref q2])), (q1, .inl (c1, 12, .inl (upd (fun _ => 0) 10 1))), (q2, .inl (c2, 12, .inl (fun _ => 0)))]) hC hI 1 0 rfl rfl (by decide) rfl dX4_init_48 (fun H locs hI => ?_)
  refine lv_aload_n hx hb dX4_init_49 rfl (lv_at hl 0 rfl) ?_
  refine z_get (v := .ref q1) hC hI (fun w h => List.mem_cons_of_mem _ (inlX4 w h)) 0 rfl rfl 4 (by decide) (List.mem_cons_of_mem _ zw6_15) rfl dX4_init_50 ?_
  refine lv_bipush (v := 11) hx hb dX4_init_53 (by decide) ?_
  refine lv_iconst (v := 1) hx hb dX4_init_55 (by decide) ?_
  refine z_iast (w1 := [(h0, .inr (6, [.int x1, .ref a2, .ref a4, .ref a5, .ref q1, .ref q2])), (q1, .inl (c1, 12, .inl (upd (upd (fun _ => 0) 10 1) 11 1))), (q2, .inl (c2, 12, .inl (fun _ => 0)))]) hC hI 1 0 rfl rfl (by decide) rfl dX4_init_56 (fun H locs hI => ?_)
  refine lv_aload_n hx hb dX4_init_57 rfl (lv_at hl 0 rfl) ?_
  obtain ⟨ad, had⟩ : ∃ f : Nat → Nat, f = (fun j => if j = 6 then h0 else if j = 34 then q1 else if j = 35 then q2 else if j = 2 then a2 else if j = 4 then a4 else if j = 5 then a5 else 0) := ⟨_, rfl⟩
  obtain ⟨cy, hcy⟩ : ∃ f : Nat → ClassId, f = (fun j => if j = 34 then c1 else if j = 35 then c2 else 0) := ⟨_, rfl⟩
  have e6 : h0 = ad 6 := by rw [had]; rfl
  have e34 : q1 = ad 34 := by rw [had]; rfl
  have e35 : q2 = ad 35 := by rw [had]; rfl
  have e2 : a2 = ad 2 := by rw [had]; rfl
  have e4 : a4 = ad 4 := by rw [had]; rfl
  have e5 : a5 = ad 5 := by rw [had]; rfl
  have hI : zI st D (tN6 cy) (wN6 ad cy (zsi (zsi (zsi zS0 6 0 x1) 34 10 1) 34 11 1)) A s H locs := by rw [had, hcy]; exact hI
  refine z_callVu (As := []) (rest := []) hC hI (cX4_clear_w6_met st l D ad cy (zsi (zsi (zsi zS0 6 0 x1) 34 10 1) 34 11 1) σ1 hf) (zgV zw6_21 zw6_22 zw6_23 zw2_17 zw7_0) rfl ⟨rfl, rfl⟩ 0 hdX4_clear_w6 ⟨Nat.le_of_ble_eq_true rfl, Nat.le_of_ble_eq_true rfl⟩ rfl rfl (wN6_e6 ad cy (zsi (zsi (zsi zS0 6 0 x1) 34 10 1) 34 11 1)) rfl hl (by rw [e6]; rfl) (Nat.le_of_ble_eq_true rfl) dX4_init_58 ⟨Nat.le_of_ble_eq_true rfl, Nat.le_of_ble_eq_true rfl⟩ (fun H locs hI => ?_)
  exact z_nreturn0 (wn := fun ad cy => wN6 ad cy σ1) (tn := tN6) (ex := fun f => h0 = f 6 ∧ a2 = f 2 ∧ a4 = f 4 ∧ a5 = f 5) hC ad cy hI ⟨e6, e2, e4, e5⟩ (Nat.le_refl _) (Nat.le_refl _) dX4_init_61
theorem hdX4_init : yX4_init.cls ≠ "java/lang/invoke/MethodHandle" ∧ yX4_init.cls ≠ "java/lang/invoke/VarHandle" ∧ (parseMethodDescriptor yX4_init.desc).map (fun d => d.parameters.length) = some 4 := by decide +kernel
noncomputable def rmX5_init : Room := { frames := 1, cells := 2, slots := 58, locals := 20 }
noncomputable def wzX5_init : List Cond := .code yX5_init cX5_init 3 none :: wsL_law
noncomputable def kn_cX5_init : Nat := 0xb14f1c1212100900b42a1800b52c2a1400b52b2a1000b506102a0d00b50abc1d102a0900b50abc1d102a0100b72a
theorem zk_cX5_init : zkd cX5_init.data.toList kn_cX5_init = true := by decide +kernel
theorem zn_cX5_init : cX5_init.data.toList.length = 46 := by decide +kernel
theorem dX5_init_0 : decode cX5_init 0 = .ok (.aload_n 0, 1) := zo_42 (zkb zk_cX5_init zn_cX5_init rfl)
theorem dX5_init_1 : decode cX5_init 1 = .ok (.invokespecial 1, 3) := zo_183 (b1 := 0) (b2 := 1) (zkb3 zk_cX5_init zn_cX5_init rfl) rfl
theorem dX5_init_4 : decode cX5_init 4 = .ok (.aload_n 0, 1) := zo_42 (zkb zk_cX5_init zn_cX5_init rfl)
theorem dX5_init_5 : decode cX5_init 5 = .ok (.bipush 29, 2) := zo_16 (b1 := 29) (zkb2 zk_cX5_init zn_cX5_init rfl) rfl
theorem dX5_init_7 : decode cX5_init 7 = .ok (.newarray .int, 2) := by decide +kernel
theorem dX5_init_9 : decode cX5_init 9 = .ok (.putfield 9, 3) := zo_181 (b1 := 0) (b2 := 9) (zkb3 zk_cX5_init zn_cX5_init rfl) rfl
theorem dX5_init_12 : decode cX5_init 12 = .ok (.aload_n 0, 1) := zo_42 (zkb zk_cX5_init zn_cX5_init rfl)
theorem dX5_init_13 : decode cX5_init 13 = .ok (.bipush 29, 2) := zo_16 (b1 := 29) (zkb2 zk_cX5_init zn_cX5_init rfl) rfl
theorem dX5_init_15 : decode cX5_init 15 = .ok (.newarray .int, 2) := by decide +kernel
theorem dX5_init_17 : decode cX5_init 17 = .ok (.putfield 13, 3) := zo_181 (b1 := 0) (b2 := 13) (zkb3 zk_cX5_init zn_cX5_init rfl) rfl
theorem dX5_init_20 : decode cX5_init 20 = .ok (.aload_n 0, 1) := zo_42 (zkb zk_cX5_init zn_cX5_init rfl)
theorem dX5_init_21 : decode cX5_init 21 = .ok (.bipush 6, 2) := zo_16 (b1 := 6) (zkb2 zk_cX5_init zn_cX5_init rfl) rfl
theorem dX5_init_23 : decode cX5_init 23 = .ok (.putfield 16, 3) := zo_181 (b1 := 0) (b2 := 16) (zkb3 zk_cX5_init zn_cX5_init rfl) rfl
theorem dX5_init_26 : decode cX5_init 26 = .ok (.aload_n 0, 1) := zo_42 (zkb zk_cX5_init zn_cX5_init rfl)
theorem dX5_init_27 : decode cX5_init 27 = .ok (.aload_n 1, 1) := zo_43 (zkb zk_cX5_init zn_cX5_init rfl)
theorem dX5_init_28 : decode cX5_init 28 = .ok (.putfield 20, 3) := zo_181 (b1 := 0) (b2 := 20) (zkb3 zk_cX5_init zn_cX5_init rfl) rfl
theorem dX5_init_31 : decode cX5_init 31 = .ok (.aload_n 0, 1) := zo_42 (zkb zk_cX5_init zn_cX5_init rfl)
theorem dX5_init_32 : decode cX5_init 32 = .ok (.aload_n 2, 1) := zo_44 (zkb zk_cX5_init zn_cX5_init rfl)
theorem dX5_init_33 : decode cX5_init 33 = .ok (.putfield 24, 3) := zo_181 (b1 := 0) (b2 := 24) (zkb3 zk_cX5_init zn_cX5_init rfl) rfl
theorem dX5_init_36 : decode cX5_init 36 = .ok (.aload_n 0, 1) := zo_42 (zkb zk_cX5_init zn_cX5_init rfl)
theorem dX5_init_37 : decode cX5_init 37 = .ok (.getfield 9, 3) := zo_180 (b1 := 0) (b2 := 9) (zkb3 zk_cX5_init zn_cX5_init rfl) rfl
theorem dX5_init_40 : decode cX5_init 40 = .ok (.bipush 18, 2) := zo_16 (b1 := 18) (zkb2 zk_cX5_init zn_cX5_init rfl) rfl
theorem dX5_init_42 : decode cX5_init 42 = .ok (.ldc 28, 2) := zo_18 (b1 := 28) (zkb2 zk_cX5_init zn_cX5_init rfl)
theorem dX5_init_44 : decode cX5_init 44 = .ok (.iastore, 1) := zo_79 (zkb zk_cX5_init zn_cX5_init rfl)
theorem dX5_init_45 : decode cX5_init 45 = .ok (.return_, 1) := zo_177 (zkb zk_cX5_init zn_cX5_init rfl)
set_option maxRecDepth 20000 in
set_option maxHeartbeats 4000000 in
theorem cX5_init_met (st : Nat → Nat) (l : Launch) (D : va_G) (h0 : Nat) (a1 : Nat) (a6 : Nat)  (sz : Nat) : zN st l yX5_init wzX5_init rmX5_init [.ref h0, .ref a1, .ref a6] D [(h0, .inr (7, [.null, .null, .null, .null, .int 0, .int 0]))] sz (fun ad cy => wN7 ad cy (zsi (zsi zS0 7 4 6) 36 18 57328)) tN7 (fun f => h0 = f 7 ∧ a1 = f 1 ∧ a6 = f 6) 2 58 := by
  refine zN.of (cc := cX5_init) (maxL := 3) (by decide) rfl rfl (Nat.le_of_ble_eq_true rfl) (fun p e s m args below meth c hC hnm A hI ls hl => ?_)
  have hx := hC.1
  have hb := hC.2.1
  refine lv_aload_n hx hb dX5_init_0 rfl (lv_at hl 0 rfl) ?_
  refine z_objInit hC hl (List.mem_cons_of_mem _ zw7_4) (List.mem_cons_of_mem _ zw1_16) (List.mem_cons_of_mem _ zw1_17) dX5_init_1 (Nat.le_of_ble_eq_true rfl) (Nat.le_of_ble_eq_true rfl) ?_
  refine lv_aload_n hx hb dX5_init_4 rfl (lv_at hl 0 rfl) ?_
  refine lv_bipush (v := 29) hx hb dX5_init_5 (by decide) ?_
  refine z_newi hC hI (List.mem_cons_of_mem _ zw3_15) 29 (by decide +kernel) (by decide +kernel) (by decide +kernel) (Nat.le_of_ble_eq_true rfl) (Nat.le_of_ble_eq_true rfl) dX5_init_7 (fun q1 c1 H hI => ?_)
  have hI : zI st D [(c1, .int)] [(h0, .inr (7, [.null, .null, .null, .null, .int 0, .int 0])), (q1, .inl (c1, 29, .inl (fun _ => 0)))] A s H _ := hI
  refine z_putF hC hnm hI (w1 := [(h0, .inr (7, [.null, .null, .ref q1, .null, .int 0, .int 0])), (q1, .inl (c1, 29, .inl (fun _ => 0)))]) (fun w h => List.mem_cons_of_mem _ (inlX5 w h)) tyX5_ok nmX5 0 rfl rfl 2 (by decide) (List.mem_cons_of_mem _ zw7_5) rfl rfl rfl rfl (Nat.le_of_ble_eq_true rfl) rfl dX5_init_9 (fun H locs hI => ?_)
  refine lv_aload_n hx hb dX5_init_12 rfl (lv_at hl 0 rfl) ?_
  refine lv_bipush (v := 29) hx hb dX5_init_13 (by decide) ?_
  refine z_newi hC hI (List.mem_cons_of_mem _ zw3_15) 29 (by decide +kernel) (by decide +kernel) (by decide +kernel) (Nat.le_of_ble_eq_true rfl) (Nat.le_of_ble_eq_true rfl) dX5_init_15 (fun q2 c2 H hI => ?_)
  have hI : zI st D [(c1, .int), (c2, .int)] [(h0, .inr (7, [.null, .null, .ref q1, .null, .int 0, .int 0])), (q1, .inl (c1, 29, .inl (fun _ => 0))), (q2, .inl (c2, 29, .inl (fun _ => 0)))] A s H _ := hI
  refine z_putF hC hnm hI (w1 := [(h0, .inr (7, [.null, .null, .ref q1, .ref q2, .int 0, .int 0])), (q1, .inl (c1, 29, .inl (fun _ => 0))), (q2, .inl (c2, 29, .inl (fun _ => 0)))]) (fun w h => List.mem_cons_of_mem _ (inlX5 w h)) tyX5_ok nmX5 0 rfl rfl 3 (by decide) (List.mem_cons_of_mem _ zw7_6) rfl rfl rfl rfl (Nat.le_of_ble_eq_true rfl) rfl dX5_init_17 (fun H locs hI => ?_)
  refine lv_aload_n hx hb dX5_init_20 rfl (lv_at hl 0 rfl) ?_
  refine lv_bipush (v := 6) hx hb dX5_init_21 (by decide) ?_
  refine z_put hC hI (w1 := [(h0, .inr (7, [.null, .null, .ref q1, .ref q2, .int 6, .int 0])), (q1, .inl (c1, 29, .inl (fun _ => 0))), (q2, .inl (c2, 29, .inl (fun _ => 0)))]) (fun w h => List.mem_cons_of_mem _ (inlX5 w h)) tyX5_ok nmX5 0 rfl rfl 4 (by decide) (List.mem_cons_of_mem _ zw7_7) rfl rfl rfl (Nat.le_of_ble_eq_true rfl) rfl dX5_init_23 (fun H locs hI => ?_)
  refine lv_aload_n hx hb dX5_init_26 rfl (lv_at hl 0 rfl) ?_
  refine lv_aload_n hx hb dX5_init_27 rfl (lv_at hl 1 rfl) ?_
  refine z_putF hC hnm hI (w1 := [(h0, .inr (7, [.ref a1, .null, .ref q1, .ref q2, .int 6, .int 0])), (q1, .inl (c1, 29, .inl (fun _ => 0))), (q2, .inl (c2, 29, .inl (fun _ => 0)))]) (fun w h => List.mem_cons_of_mem _ (inlX5 w h)) tyX5_ok nmX5 0 rfl rfl 0 (by decide) (List.mem_cons_of_mem _ zw7_8) rfl rfl rfl rfl (Nat.le_of_ble_eq_true rfl) rfl dX5_init_28 (fun H locs hI => ?_)
  refine lv_aload_n hx hb dX5_init_31 rfl (lv_at hl 0 rfl) ?_
  refine lv_aload_n hx hb dX5_init_32 rfl (lv_at hl 2 rfl) ?_
  refine z_putF hC hnm hI (w1 := [(h0, .inr (7, [.ref a1, .ref a6, .ref q1, .ref q2, .int 6, .int 0])), (q1, .inl (c1, 29, .inl (fun _ => 0))), (q2, .inl (c2, 29, .inl (fun _ => 0)))]) (fun w h => List.mem_cons_of_mem _ (inlX5 w h)) tyX5_ok nmX5 0 rfl rfl 1 (by decide) (List.mem_cons_of_mem _ zw7_9) rfl rfl rfl rfl (Nat.le_of_ble_eq_true rfl) rfl dX5_init_33 (fun H locs hI => ?_)
  refine lv_aload_n hx hb dX5_init_36 rfl (lv_at hl 0 rfl) ?_
  refine z_get (v := .ref q1) hC hI (fun w h => List.mem_cons_of_mem _ (inlX5 w h)) 0 rfl rfl 2 (by decide) (List.mem_cons_of_mem _ zw7_5) rfl dX5_init_37 ?_
  refine lv_bipush (v := 18) hx hb dX5_init_40 (by decide) ?_
  refine lv_ldc (v := 57328) hx hb hC.2.2.2.1 (hC.2.2.2.2.1 _ (List.mem_cons_of_mem _ zw7_10)) dX5_init_42 ?_
  refine z_iast (w1 := [(h0, .inr (7, [.ref a1, .ref a6, .ref q1, .ref q2, .int 6, .int 0])), (q1, .inl (c1, 29, .inl (upd (fun _ => 0) 18 57328))), (q2, .inl (c2, 29, .inl (fun _ => 0)))]) hC hI 1 0 rfl rfl (by decide) rfl dX5_init_44 (fun H locs hI => ?_)
  obtain ⟨ad, had⟩ : ∃ f : Nat → Nat, f = (fun j => if j = 7 then h0 else if j = 36 then q1 else if j = 37 then q2 else if j = 1 then a1 else if j = 6 then a6 else 0) := ⟨_, rfl⟩
  obtain ⟨cy, hcy⟩ : ∃ f : Nat → ClassId, f = (fun j => if j = 36 then c1 else if j = 37 then c2 else 0) := ⟨_, rfl⟩
  have e7 : h0 = ad 7 := by rw [had]; rfl
  have e36 : q1 = ad 36 := by rw [had]; rfl
  have e37 : q2 = ad 37 := by rw [had]; rfl
  have e1 : a1 = ad 1 := by rw [had]; rfl
  have e6 : a6 = ad 6 := by rw [had]; rfl
  have hI : zI st D (tN7 cy) (wN7 ad cy (zsi (zsi zS0 7 4 6) 36 18 57328)) A s H locs := by rw [had, hcy]; exact hI
  exact z_nreturn0 (wn := fun ad cy => wN7 ad cy (zsi (zsi zS0 7 4 6) 36 18 57328)) (tn := tN7) (ex := fun f => h0 = f 7 ∧ a1 = f 1 ∧ a6 = f 6) hC ad cy hI ⟨e7, e1, e6⟩ (Nat.le_refl _) (Nat.le_refl _) dX5_init_45
theorem hdX5_init : yX5_init.cls ≠ "java/lang/invoke/MethodHandle" ∧ yX5_init.cls ≠ "java/lang/invoke/VarHandle" ∧ (parseMethodDescriptor yX5_init.desc).map (fun d => d.parameters.length) = some 2 := by decide +kernel
noncomputable def rmX1_init : Room := { frames := 1, cells := 5, slots := 1590, locals := 23 }
noncomputable def wzX1_init : List Cond := .code yX1_init cX1_init 1 none :: wsL_law
noncomputable def kn_cX1_init : Nat := 0xb11900b8021600b42a1600b50abc20102a1300b50abc0203112a1000b50abc0203112a0d00b50abc09102a0900b50abc09102a0100b72a
theorem zk_cX1_init : zkd cX1_init.data.toList kn_cX1_init = true := by decide +kernel
theorem zn_cX1_init : cX1_init.data.toList.length = 55 := by decide +kernel
theorem dX1_init_0 : decode cX1_init 0 = .ok (.aload_n 0, 1) := zo_42 (zkb zk_cX1_init zn_cX1_init rfl)
theorem dX1_init_1 : decode cX1_init 1 = .ok (.invokespecial 1, 3) := zo_183 (b1 := 0) (b2 := 1) (zkb3 zk_cX1_init zn_cX1_init rfl) rfl
theorem dX1_init_4 : decode cX1_init 4 = .ok (.aload_n 0, 1) := zo_42 (zkb zk_cX1_init zn_cX1_init rfl)
theorem dX1_init_5 : decode cX1_init 5 = .ok (.bipush 9, 2) := zo_16 (b1 := 9) (zkb2 zk_cX1_init zn_cX1_init rfl) rfl
theorem dX1_init_7 : decode cX1_init 7 = .ok (.newarray .int, 2) := by decide +kernel
theorem dX1_init_9 : decode cX1_init 9 = .ok (.putfield 9, 3) := zo_181 (b1 := 0) (b2 := 9) (zkb3 zk_cX1_init zn_cX1_init rfl) rfl
theorem dX1_init_12 : decode cX1_init 12 = .ok (.aload_n 0, 1) := zo_42 (zkb zk_cX1_init zn_cX1_init rfl)
theorem dX1_init_13 : decode cX1_init 13 = .ok (.bipush 9, 2) := zo_16 (b1 := 9) (zkb2 zk_cX1_init zn_cX1_init rfl) rfl
theorem dX1_init_15 : decode cX1_init 15 = .ok (.newarray .int, 2) := by decide +kernel
theorem dX1_init_17 : decode cX1_init 17 = .ok (.putfield 13, 3) := zo_181 (b1 := 0) (b2 := 13) (zkb3 zk_cX1_init zn_cX1_init rfl) rfl
theorem dX1_init_20 : decode cX1_init 20 = .ok (.aload_n 0, 1) := zo_42 (zkb zk_cX1_init zn_cX1_init rfl)
theorem dX1_init_21 : decode cX1_init 21 = .ok (.sipush 770, 3) := zo_17 (b1 := 3) (b2 := 2) (zkb3 zk_cX1_init zn_cX1_init rfl) rfl
theorem dX1_init_24 : decode cX1_init 24 = .ok (.newarray .int, 2) := by decide +kernel
theorem dX1_init_26 : decode cX1_init 26 = .ok (.putfield 16, 3) := zo_181 (b1 := 0) (b2 := 16) (zkb3 zk_cX1_init zn_cX1_init rfl) rfl
theorem dX1_init_29 : decode cX1_init 29 = .ok (.aload_n 0, 1) := zo_42 (zkb zk_cX1_init zn_cX1_init rfl)
theorem dX1_init_30 : decode cX1_init 30 = .ok (.sipush 770, 3) := zo_17 (b1 := 3) (b2 := 2) (zkb3 zk_cX1_init zn_cX1_init rfl) rfl
theorem dX1_init_33 : decode cX1_init 33 = .ok (.newarray .int, 2) := by decide +kernel
theorem dX1_init_35 : decode cX1_init 35 = .ok (.putfield 19, 3) := zo_181 (b1 := 0) (b2 := 19) (zkb3 zk_cX1_init zn_cX1_init rfl) rfl
theorem dX1_init_38 : decode cX1_init 38 = .ok (.aload_n 0, 1) := zo_42 (zkb zk_cX1_init zn_cX1_init rfl)
theorem dX1_init_39 : decode cX1_init 39 = .ok (.bipush 32, 2) := zo_16 (b1 := 32) (zkb2 zk_cX1_init zn_cX1_init rfl) rfl
theorem dX1_init_41 : decode cX1_init 41 = .ok (.newarray .int, 2) := by decide +kernel
theorem dX1_init_43 : decode cX1_init 43 = .ok (.putfield 22, 3) := zo_181 (b1 := 0) (b2 := 22) (zkb3 zk_cX1_init zn_cX1_init rfl) rfl
theorem dX1_init_46 : decode cX1_init 46 = .ok (.aload_n 0, 1) := zo_42 (zkb zk_cX1_init zn_cX1_init rfl)
theorem dX1_init_47 : decode cX1_init 47 = .ok (.getfield 22, 3) := zo_180 (b1 := 0) (b2 := 22) (zkb3 zk_cX1_init zn_cX1_init rfl) rfl
theorem dX1_init_50 : decode cX1_init 50 = .ok (.iconst (-1), 1) := zo_2 (zkb zk_cX1_init zn_cX1_init rfl)
theorem dX1_init_51 : decode cX1_init 51 = .ok (.invokestatic 25, 3) := zo_184 (b1 := 0) (b2 := 25) (zkb3 zk_cX1_init zn_cX1_init rfl) rfl
theorem dX1_init_54 : decode cX1_init 54 = .ok (.return_, 1) := zo_177 (zkb zk_cX1_init zn_cX1_init rfl)
set_option maxRecDepth 20000 in
set_option maxHeartbeats 4000000 in
theorem cX1_init_met (st : Nat → Nat) (l : Launch) (D : va_G) (h0 : Nat)  (σ1 : zSt) (hf : fJ7_fill_53178_k44 zS0 (-1) = some σ1) (sz : Nat) : zN st l yX1_init wzX1_init rmX1_init [.ref h0] D [(h0, .inr (3, [.null, .null, .null, .null, .null, .int 0]))] sz (fun ad cy => wN9 ad cy σ1) tN9 (fun f => h0 = f 9) 5 1590 := by
  refine zN.of (cc := cX1_init) (maxL := 1) (by decide) rfl rfl (Nat.le_of_ble_eq_true rfl) (fun p e s m args below meth c hC hnm A hI ls hl => ?_)
  have hx := hC.1
  have hb := hC.2.1
  refine lv_aload_n hx hb dX1_init_0 rfl (lv_at hl 0 rfl) ?_
  refine z_objInit hC hl (List.mem_cons_of_mem _ zw8_8) (List.mem_cons_of_mem _ zw1_16) (List.mem_cons_of_mem _ zw1_17) dX1_init_1 (Nat.le_of_ble_eq_true rfl) (Nat.le_of_ble_eq_true rfl) ?_
  refine lv_aload_n hx hb dX1_init_4 rfl (lv_at hl 0 rfl) ?_
  refine lv_bipush (v := 9) hx hb dX1_init_5 (by decide) ?_
  refine z_newi hC hI (List.mem_cons_of_mem _ zw3_15) 9 (by decide +kernel) (by decide +kernel) (by decide +kernel) (Nat.le_of_ble_eq_true rfl) (Nat.le_of_ble_eq_true rfl) dX1_init_7 (fun q1 c1 H hI => ?_)
  have hI : zI st D [(c1, .int)] [(h0, .inr (3, [.null, .null, .null, .null, .null, .int 0])), (q1, .inl (c1, 9, .inl (fun _ => 0)))] A s H _ := hI
  refine z_putF hC hnm hI (w1 := [(h0, .inr (3, [.ref q1, .null, .null, .null, .null, .int 0])), (q1, .inl (c1, 9, .inl (fun _ => 0)))]) (fun w h => List.mem_cons_of_mem _ (inlX1 w h)) tyX1_ok nmX1 0 rfl rfl 0 (by decide) (List.mem_cons_of_mem _ zw8_9) rfl rfl rfl rfl (Nat.le_of_ble_eq_true rfl) rfl dX1_init_9 (fun H locs hI => ?_)
  refine lv_aload_n hx hb dX1_init_12 rfl (lv_at hl 0 rfl) ?_
  refine lv_bipush (v := 9) hx hb dX1_init_13 (by decide) ?_
  refine z_newi hC hI (List.mem_cons_of_mem _ zw3_15) 9 (by decide +kernel) (by decide +kernel) (by decide +kernel) (Nat.le_of_ble_eq_true rfl) (Nat.le_of_ble_eq_true rfl) dX1_init_15 (fun q2 c2 H hI => ?_)
  have hI : zI st D [(c1, .int), (c2, .int)] [(h0, .inr (3, [.ref q1, .null, .null, .null, .null, .int 0])), (q1, .inl (c1, 9, .inl (fun _ => 0))), (q2, .inl (c2, 9, .inl (fun _ => 0)))] A s H _ := hI
  refine z_putF hC hnm hI (w1 := [(h0, .inr (3, [.ref q1, .ref q2, .null, .null, .null, .int 0])), (q1, .inl (c1, 9, .inl (fun _ => 0))), (q2, .inl (c2, 9, .inl (fun _ => 0)))]) (fun w h => List.mem_cons_of_mem _ (inlX1 w h)) tyX1_ok nmX1 0 rfl rfl 1 (by decide) (List.mem_cons_of_mem _ zw8_10) rfl rfl rfl rfl (Nat.le_of_ble_eq_true rfl) rfl dX1_init_17 (fun H locs hI => ?_)
  refine lv_aload_n hx hb dX1_init_20 rfl (lv_at hl 0 rfl) ?_
  refine lv_sipush (v := 770) hx hb dX1_init_21 (by decide) ?_
  refine z_newi hC hI (List.mem_cons_of_mem _ zw3_15) 770 (by decide +kernel) (by decide +kernel) (by decide +kernel) (Nat.le_of_ble_eq_true rfl) (Nat.le_of_ble_eq_true rfl) dX1_init_24 (fun q3 c3 H hI => ?_)
  have hI : zI st D [(c1, .int), (c2, .int), (c3, .int)] [(h0, .inr (3, [.ref q1, .ref q2, .null, .null, .null, .int 0])), (q1, .inl (c1, 9, .inl (fun _ => 0))), (q2, .inl (c2, 9, .inl (fun _ => 0))), (q3, .inl (c3, 770, .inl (fun _ => 0)))] A s H _ := hI
  refine z_putF hC hnm hI (w1 := [(h0, .inr (3, [.ref q1, .ref q2, .ref q3, .null, .null, .int 0])), (q1, .inl (c1, 9, .inl (fun _ => 0))), (q2, .inl (c2, 9, .inl (fun _ => 0))), (q3, .inl (c3, 770, .inl (fun _ => 0)))]) (fun w h => List.mem_cons_of_mem _ (inlX1 w h)) tyX1_ok nmX1 0 rfl rfl 2 (by decide) (List.mem_cons_of_mem _ zw8_11) rfl rfl rfl rfl (Nat.le_of_ble_eq_true rfl) rfl dX1_init_26 (fun H locs hI => ?_)
  refine lv_aload_n hx hb dX1_init_29 rfl (lv_at hl 0 rfl) ?_
  refine lv_sipush (v := 770) hx hb dX1_init_30 (by decide) ?_
  refine z_newi hC hI (List.mem_cons_of_mem _ zw3_15) 770 (by decide +kernel) (by decide +kernel) (by decide +kernel) (Nat.le_of_ble_eq_true rfl) (Nat.le_of_ble_eq_true rfl) dX1_init_33 (fun q4 c4 H hI => ?_)
  have hI : zI st D [(c1, .int), (c2, .int), (c3, .int), (c4, .int)] [(h0, .inr (3, [.ref q1, .ref q2, .ref q3, .null, .null, .int 0])), (q1, .inl (c1, 9, .inl (fun _ => 0))), (q2, .inl (c2, 9, .inl (fun _ => 0))), (q3, .inl (c3, 770, .inl (fun _ => 0))), (q4, .inl (c4, 770, .inl (fun _ => 0)))] A s H _ := hI
  refine z_putF hC hnm hI (w1 := [(h0, .inr (3, [.ref q1, .ref q2, .ref q3, .ref q4, .null, .int 0])), (q1, .inl (c1, 9, .inl (fun _ => 0))), (q2, .inl (c2, 9, .inl (fun _ => 0))), (q3, .inl (c3, 770, .inl (fun _ => 0))), (q4, .inl (c4, 770, .inl (fun _ => 0)))]) (fun w h => List.mem_cons_of_mem _ (inlX1 w h)) tyX1_ok nmX1 0 rfl rfl 3 (by decide) (List.mem_cons_of_mem _ zw8_12) rfl rfl rfl rfl (Nat.le_of_ble_eq_true rfl) rfl dX1_init_35 (fun H locs hI => ?_)
  refine lv_aload_n hx hb dX1_init_38 rfl (lv_at hl 0 rfl) ?_
  refine lv_bipush (v := 32) hx hb dX1_init_39 (by decide) ?_
  refine z_newi hC hI (List.mem_cons_of_mem _ zw3_15) 32 (by decide +kernel) (by decide +kernel) (by decide +kernel) (Nat.le_of_ble_eq_true rfl) (Nat.le_of_ble_eq_true rfl) dX1_init_41 (fun q5 c5 H hI => ?_)
  have hI : zI st D [(c1, .int), (c2, .int), (c3, .int), (c4, .int), (c5, .int)] [(h0, .inr (3, [.ref q1, .ref q2, .ref q3, .ref q4, .null, .int 0])), (q1, .inl (c1, 9, .inl (fun _ => 0))), (q2, .inl (c2, 9, .inl (fun _ => 0))), (q3, .inl (c3, 770, .inl (fun _ => 0))), (q4, .inl (c4, 770, .inl (fun _ => 0))), (q5, .inl (c5, 32, .inl (fun _ => 0)))] A s H _ := hI
  refine z_putF hC hnm hI (w1 := [(h0, .inr (3, [.ref q1, .ref q2, .ref q3, .ref q4, .ref q5, .int 0])), (q1, .inl (c1, 9, .inl (fun _ => 0))), (q2, .inl (c2, 9, .inl (fun _ => 0))), (q3, .inl (c3, 770, .inl (fun _ => 0))), (q4, .inl (c4, 770, .inl (fun _ => 0))), (q5, .inl (c5, 32, .inl (fun _ => 0)))]) (fun w h => List.mem_cons_of_mem _ (inlX1 w h)) tyX1_ok nmX1 0 rfl rfl 4 (by decide) (List.mem_cons_of_mem _ zw8_13) rfl rfl rfl rfl (Nat.le_of_ble_eq_true rfl) rfl dX1_init_43 (fun H locs hI => ?_)
  refine lv_aload_n hx hb dX1_init_46 rfl (lv_at hl 0 rfl) ?_
  refine z_get (v := .ref q5) hC hI (fun w h => List.mem_cons_of_mem _ (inlX1 w h)) 0 rfl rfl 4 (by decide) (List.mem_cons_of_mem _ zw8_13) rfl dX1_init_47 ?_
  refine lv_iconst (v := (-1)) hx hb dX1_init_50 (by decide) ?_
  obtain ⟨ad, had⟩ : ∃ f : Nat → Nat, f = (fun j => if j = 9 then h0 else if j = 40 then q1 else if j = 41 then q2 else if j = 42 then q3 else if j = 43 then q4 else if j = 44 then q5 else 0) := ⟨_, rfl⟩
  obtain ⟨cy, hcy⟩ : ∃ f : Nat → ClassId, f = (fun j => if j = 40 then c1 else if j = 41 then c2 else if j = 42 then c3 else if j = 43 then c4 else if j = 44 then c5 else 0) := ⟨_, rfl⟩
  have e9 : h0 = ad 9 := by rw [had]; rfl
  have e40 : q1 = ad 40 := by rw [had]; rfl
  have e41 : q2 = ad 41 := by rw [had]; rfl
  have e42 : q3 = ad 42 := by rw [had]; rfl
  have e43 : q4 = ad 43 := by rw [had]; rfl
  have e44 : q5 = ad 44 := by rw [had]; rfl
  have hI : zI st D (tN9 cy) (wN9 ad cy zS0) A s H locs := by rw [had, hcy]; exact hI
  refine z_callSu (As := [.ref (ad 44), .int (-1)]) (rest := []) hC hI (cJ7_fill_53178_k44_w9_met st l D ad cy zS0 (-1) σ1 hf) (zgS zw8_14 zw5_12 zw5_13 zw5_14) rfl ⟨rfl, rfl⟩ 2 hdJ7_fill_53178_k44_w9 ⟨Nat.le_of_ble_eq_true rfl, Nat.le_of_ble_eq_true rfl⟩ rfl hl (by rw [← e44]; rfl) (Nat.le_of_ble_eq_true rfl) dX1_init_51 ⟨Nat.le_of_ble_eq_true rfl, Nat.le_of_ble_eq_true rfl⟩ (fun H locs hI => ?_)
  exact z_nreturn0 (wn := fun ad cy => wN9 ad cy σ1) (tn := tN9) (ex := fun f => h0 = f 9) hC ad cy hI e9 (Nat.le_refl _) (Nat.le_refl _) dX1_init_54
theorem hdX1_init : yX1_init.cls ≠ "java/lang/invoke/MethodHandle" ∧ yX1_init.cls ≠ "java/lang/invoke/VarHandle" ∧ (parseMethodDescriptor yX1_init.desc).map (fun d => d.parameters.length) = some 0 := by decide +kernel
noncomputable def rmX8_init : Room := { frames := 1, cells := 1, slots := 32, locals := 20 }
noncomputable def wzX8_init : List Cond := .code yX8_init cX8_init 2 none :: wsL_law
noncomputable def kn_cX8_init : Nat := 0xb10d00b52b2a0900b50abc20102a0100b72a
theorem zk_cX8_init : zkd cX8_init.data.toList kn_cX8_init = true := by decide +kernel
theorem zn_cX8_init : cX8_init.data.toList.length = 18 := by decide +kernel
theorem dX8_init_0 : decode cX8_init 0 = .ok (.aload_n 0, 1) := zo_42 (zkb zk_cX8_init zn_cX8_init rfl)
theorem dX8_init_1 : decode cX8_init 1 = .ok (.invokespecial 1, 3) := zo_183 (b1 := 0) (b2 := 1) (zkb3 zk_cX8_init zn_cX8_init rfl) rfl
theorem dX8_init_4 : decode cX8_init 4 = .ok (.aload_n 0, 1) := zo_42 (zkb zk_cX8_init zn_cX8_init rfl)
theorem dX8_init_5 : decode cX8_init 5 = .ok (.bipush 32, 2) := zo_16 (b1 := 32) (zkb2 zk_cX8_init zn_cX8_init rfl) rfl
theorem dX8_init_7 : decode cX8_init 7 = .ok (.newarray .int, 2) := by decide +kernel
theorem dX8_init_9 : decode cX8_init 9 = .ok (.putfield 9, 3) := zo_181 (b1 := 0) (b2 := 9) (zkb3 zk_cX8_init zn_cX8_init rfl) rfl
theorem dX8_init_12 : decode cX8_init 12 = .ok (.aload_n 0, 1) := zo_42 (zkb zk_cX8_init zn_cX8_init rfl)
theorem dX8_init_13 : decode cX8_init 13 = .ok (.aload_n 1, 1) := zo_43 (zkb zk_cX8_init zn_cX8_init rfl)
theorem dX8_init_14 : decode cX8_init 14 = .ok (.putfield 13, 3) := zo_181 (b1 := 0) (b2 := 13) (zkb3 zk_cX8_init zn_cX8_init rfl) rfl
theorem dX8_init_17 : decode cX8_init 17 = .ok (.return_, 1) := zo_177 (zkb zk_cX8_init zn_cX8_init rfl)
set_option maxRecDepth 20000 in
set_option maxHeartbeats 4000000 in
theorem cX8_init_met (st : Nat → Nat) (l : Launch) (D : va_G) (h0 : Nat) (a1 : Nat)  (sz : Nat) : zN st l yX8_init wzX8_init rmX8_init [.ref h0, .ref a1] D [(h0, .inr (10, [.null, .null, .int 0, .int 0, .int 0, .int 0, .int 0, .int 0, .int 0, .int 0, .int 0]))] sz (fun ad cy => wN10 ad cy zS0) tN10 (fun f => h0 = f 10 ∧ a1 = f 1) 1 32 := by
  refine zN.of (cc := cX8_init) (maxL := 2) (by decide) rfl rfl (Nat.le_of_ble_eq_true rfl) (fun p e s m args below meth c hC hnm A hI ls hl => ?_)
  have hx := hC.1
  have hb := hC.2.1
  refine lv_aload_n hx hb dX8_init_0 rfl (lv_at hl 0 rfl) ?_
  refine z_objInit hC hl (List.mem_cons_of_mem _ zw8_18) (List.mem_cons_of_mem _ zw1_16) (List.mem_cons_of_mem _ zw1_17) dX8_init_1 (Nat.le_of_ble_eq_true rfl) (Nat.le_of_ble_eq_true rfl) ?_
  refine lv_aload_n hx hb dX8_init_4 rfl (lv_at hl 0 rfl) ?_
  refine lv_bipush (v := 32) hx hb dX8_init_5 (by decide) ?_
  refine z_newi hC hI (List.mem_cons_of_mem _ zw3_15) 32 (by decide +kernel) (by decide +kernel) (by decide +kernel) (Nat.le_of_ble_eq_true rfl) (Nat.le_of_ble_eq_true rfl) dX8_init_7 (fun q1 c1 H hI => ?_)
  have hI : zI st D [(c1, .int)] [(h0, .inr (10, [.null, .null, .int 0, .int 0, .int 0, .int 0, .int 0, .int 0, .int 0, .int 0, .int 0])), (q1, .inl (c1, 32, .inl (fun _ => 0)))] A s H _ := hI
  refine z_putF hC hnm hI (w1 := [(h0, .inr (10, [.null, .ref q1, .int 0, .int 0, .int 0, .int 0, .int 0, .int 0, .int 0, .int 0, .int 0])), (q1, .inl (c1, 32, .inl (fun _ => 0)))]) (fun w h => List.mem_cons_of_mem _ (inlX8 w h)) tyX8_ok nmX8 0 rfl rfl 1 (by decide) (List.mem_cons_of_mem _ zw8_19) rfl rfl rfl rfl (Nat.le_of_ble_eq_true rfl) rfl dX8_init_9 (fun H locs hI => ?_)
  refine lv_aload_n hx hb dX8_init_12 rfl (lv_at hl 0 rfl) ?_
  refine lv_aload_n hx hb dX8_init_13 rfl (lv_at hl 1 rfl) ?_
  refine z_putF hC hnm hI (w1 := [(h0, .inr (10, [.ref a1, .ref q1, .int 0, .int 0, .int 0, .int 0, .int 0, .int 0, .int 0, .int 0, .int 0])), (q1, .inl (c1, 32, .inl (fun _ => 0)))]) (fun w h => List.mem_cons_of_mem _ (inlX8 w h)) tyX8_ok nmX8 0 rfl rfl 0 (by decide) (List.mem_cons_of_mem _ zw8_20) rfl rfl rfl rfl (Nat.le_of_ble_eq_true rfl) rfl dX8_init_14 (fun H locs hI => ?_)
  obtain ⟨ad, had⟩ : ∃ f : Nat → Nat, f = (fun j => if j = 10 then h0 else if j = 45 then q1 else if j = 1 then a1 else 0) := ⟨_, rfl⟩
  obtain ⟨cy, hcy⟩ : ∃ f : Nat → ClassId, f = (fun j => if j = 45 then c1 else 0) := ⟨_, rfl⟩
  have e10 : h0 = ad 10 := by rw [had]; rfl
  have e45 : q1 = ad 45 := by rw [had]; rfl
  have e1 : a1 = ad 1 := by rw [had]; rfl
  have hI : zI st D (tN10 cy) (wN10 ad cy zS0) A s H locs := by rw [had, hcy]; exact hI
  exact z_nreturn0 (wn := fun ad cy => wN10 ad cy zS0) (tn := tN10) (ex := fun f => h0 = f 10 ∧ a1 = f 1) hC ad cy hI ⟨e10, e1⟩ (Nat.le_refl _) (Nat.le_refl _) dX8_init_17
theorem hdX8_init : yX8_init.cls ≠ "java/lang/invoke/MethodHandle" ∧ yX8_init.cls ≠ "java/lang/invoke/VarHandle" ∧ (parseMethodDescriptor yX8_init.desc).map (fun d => d.parameters.length) = some 1 := by decide +kernel
noncomputable def rmX6_init_k11 : Room := { frames := 1, cells := 2, slots := 8192, locals := 20 }
noncomputable def wzX6_init : List Cond := .code yX6_init cX6_init 1 none :: wsL_law
noncomputable def kn_cX6_init : Nat := 0xb10d00b50bbc0010112a0900b50bbc0010112a0100b72a
theorem zk_cX6_init : zkd cX6_init.data.toList kn_cX6_init = true := by decide +kernel
theorem zn_cX6_init : cX6_init.data.toList.length = 23 := by decide +kernel
theorem dX6_init_0 : decode cX6_init 0 = .ok (.aload_n 0, 1) := zo_42 (zkb zk_cX6_init zn_cX6_init rfl)
theorem dX6_init_1 : decode cX6_init 1 = .ok (.invokespecial 1, 3) := zo_183 (b1 := 0) (b2 := 1) (zkb3 zk_cX6_init zn_cX6_init rfl) rfl
theorem dX6_init_4 : decode cX6_init 4 = .ok (.aload_n 0, 1) := zo_42 (zkb zk_cX6_init zn_cX6_init rfl)
theorem dX6_init_5 : decode cX6_init 5 = .ok (.sipush 4096, 3) := zo_17 (b1 := 16) (b2 := 0) (zkb3 zk_cX6_init zn_cX6_init rfl) rfl
theorem dX6_init_8 : decode cX6_init 8 = .ok (.newarray .long, 2) := by decide +kernel
theorem dX6_init_10 : decode cX6_init 10 = .ok (.putfield 9, 3) := zo_181 (b1 := 0) (b2 := 9) (zkb3 zk_cX6_init zn_cX6_init rfl) rfl
theorem dX6_init_13 : decode cX6_init 13 = .ok (.aload_n 0, 1) := zo_42 (zkb zk_cX6_init zn_cX6_init rfl)
theorem dX6_init_14 : decode cX6_init 14 = .ok (.sipush 4096, 3) := zo_17 (b1 := 16) (b2 := 0) (zkb3 zk_cX6_init zn_cX6_init rfl) rfl
theorem dX6_init_17 : decode cX6_init 17 = .ok (.newarray .long, 2) := by decide +kernel
theorem dX6_init_19 : decode cX6_init 19 = .ok (.putfield 13, 3) := zo_181 (b1 := 0) (b2 := 13) (zkb3 zk_cX6_init zn_cX6_init rfl) rfl
theorem dX6_init_22 : decode cX6_init 22 = .ok (.return_, 1) := zo_177 (zkb zk_cX6_init zn_cX6_init rfl)
set_option maxRecDepth 20000 in
set_option maxHeartbeats 4000000 in
theorem cX6_init_k11_met (st : Nat → Nat) (l : Launch) (D : va_G) (h0 : Nat)   (sz : Nat) : zN st l yX6_init wzX6_init rmX6_init_k11 [.ref h0] D [(h0, .inr (8, [.null, .null, .int 0, .int 0, .int 0, .int 0]))] sz (fun ad cy => wN11 ad cy zS0) tN11 (fun f => h0 = f 11) 2 8192 := by
  refine zN.of (cc := cX6_init) (maxL := 1) (by decide) rfl rfl (Nat.le_of_ble_eq_true rfl) (fun p e s m args below meth c hC hnm A hI ls hl => ?_)
  have hx := hC.1
  have hb := hC.2.1
  refine lv_aload_n hx hb dX6_init_0 rfl (lv_at hl 0 rfl) ?_
  refine z_objInit hC hl (List.mem_cons_of_mem _ zw8_2) (List.mem_cons_of_mem _ zw1_16) (List.mem_cons_of_mem _ zw1_17) dX6_init_1 (Nat.le_of_ble_eq_true rfl) (Nat.le_of_ble_eq_true rfl) ?_
  refine lv_aload_n hx hb dX6_init_4 rfl (lv_at hl 0 rfl) ?_
  refine lv_sipush (v := 4096) hx hb dX6_init_5 (by decide) ?_
  refine z_newl hC hI (List.mem_cons_of_mem _ zw1_6) 4096 (by decide +kernel) (by decide +kernel) (by decide +kernel) (Nat.le_of_ble_eq_true rfl) (Nat.le_of_ble_eq_true rfl) dX6_init_8 (fun q1 c1 H hI => ?_)
  have hI : zI st D [(c1, .long)] [(h0, .inr (8, [.null, .null, .int 0, .int 0, .int 0, .int 0])), (q1, .inl (c1, 4096, .inr (.inl (fun _ => 0))))] A s H _ := hI
  refine z_putF hC hnm hI (w1 := [(h0, .inr (8, [.ref q1, .null, .int 0, .int 0, .int 0, .int 0])), (q1, .inl (c1, 4096, .inr (.inl (fun _ => 0))))]) (fun w h => List.mem_cons_of_mem _ (inlX6 w h)) tyX6_ok nmX6 0 rfl rfl 0 (by decide) (List.mem_cons_of_mem _ zw8_3) rfl rfl rfl rfl (Nat.le_of_ble_eq_true rfl) rfl dX6_init_10 (fun H locs hI => ?_)
  refine lv_aload_n hx hb dX6_init_13 rfl (lv_at hl 0 rfl) ?_
  refine lv_sipush (v := 4096) hx hb dX6_init_14 (by decide) ?_
  refine z_newl hC hI (List.mem_cons_of_mem _ zw1_6) 4096 (by decide +kernel) (by decide +kernel) (by decide +kernel) (Nat.le_of_ble_eq_true rfl) (Nat.le_of_ble_eq_true rfl) dX6_init_17 (fun q2 c2 H hI => ?_)
  have hI : zI st D [(c1, .long), (c2, .long)] [(h0, .inr (8, [.ref q1, .null, .int 0, .int 0, .int 0, .int 0])), (q1, .inl (c1, 4096, .inr (.inl (fun _ => 0)))), (q2, .inl (c2, 4096, .inr (.inl (fun _ => 0))))] A s H _ := hI
  refine z_putF hC hnm hI (w1 := [(h0, .inr (8, [.ref q1, .ref q2, .int 0, .int 0, .int 0, .int 0])), (q1, .inl (c1, 4096, .inr (.inl (fun _ => 0)))), (q2, .inl (c2, 4096, .inr (.inl (fun _ => 0))))]) (fun w h => List.mem_cons_of_mem _ (inlX6 w h)) tyX6_ok nmX6 0 rfl rfl 1 (by decide) (List.mem_cons_of_mem _ zw8_4) rfl rfl rfl rfl (Nat.le_of_ble_eq_true rfl) rfl dX6_init_19 (fun H locs hI => ?_)
  obtain ⟨ad, had⟩ : ∃ f : Nat → Nat, f = (fun j => if j = 11 then h0 else if j = 46 then q1 else if j = 47 then q2 else 0) := ⟨_, rfl⟩
  obtain ⟨cy, hcy⟩ : ∃ f : Nat → ClassId, f = (fun j => if j = 46 then c1 else if j = 47 then c2 else 0) := ⟨_, rfl⟩
  have e11 : h0 = ad 11 := by rw [had]; rfl
  have e46 : q1 = ad 46 := by rw [had]; rfl
  have e47 : q2 = ad 47 := by rw [had]; rfl
  have hI : zI st D (tN11 cy) (wN11 ad cy zS0) A s H locs := by rw [had, hcy]; exact hI
  exact z_nreturn0 (wn := fun ad cy => wN11 ad cy zS0) (tn := tN11) (ex := fun f => h0 = f 11) hC ad cy hI e11 (Nat.le_refl _) (Nat.le_refl _) dX6_init_22
theorem hdX6_init : yX6_init.cls ≠ "java/lang/invoke/MethodHandle" ∧ yX6_init.cls ≠ "java/lang/invoke/VarHandle" ∧ (parseMethodDescriptor yX6_init.desc).map (fun d => d.parameters.length) = some 0 := by decide +kernel
noncomputable def rmX6_init_k12 : Room := { frames := 1, cells := 2, slots := 8192, locals := 20 }
set_option maxRecDepth 20000 in
set_option maxHeartbeats 4000000 in
theorem cX6_init_k12_met (st : Nat → Nat) (l : Launch) (D : va_G) (h0 : Nat)   (sz : Nat) : zN st l yX6_init wzX6_init rmX6_init_k12 [.ref h0] D [(h0, .inr (8, [.null, .null, .int 0, .int 0, .int 0, .int 0]))] sz (fun ad cy => wN12 ad cy zS0) tN12 (fun f => h0 = f 12) 2 8192 := by
  refine zN.of (cc := cX6_init) (maxL := 1) (by decide) rfl rfl (Nat.le_of_ble_eq_true rfl) (fun p e s m args below meth c hC hnm A hI ls hl => ?_)
  have hx := hC.1
  have hb := hC.2.1
  refine lv_aload_n hx hb dX6_init_0 rfl (lv_at hl 0 rfl) ?_
  refine z_objInit hC hl (List.mem_cons_of_mem _ zw8_2) (List.mem_cons_of_mem _ zw1_16) (List.mem_cons_of_mem _ zw1_17) dX6_init_1 (Nat.le_of_ble_eq_true rfl) (Nat.le_of_ble_eq_true rfl) ?_
  refine lv_aload_n hx hb dX6_init_4 rfl (lv_at hl 0 rfl) ?_
  refine lv_sipush (v := 4096) hx hb dX6_init_5 (by decide) ?_
  refine z_newl hC hI (List.mem_cons_of_mem _ zw1_6) 4096 (by decide +kernel) (by decide +kernel) (by decide +kernel) (Nat.le_of_ble_eq_true rfl) (Nat.le_of_ble_eq_true rfl) dX6_init_8 (fun q1 c1 H hI => ?_)
  have hI : zI st D [(c1, .long)] [(h0, .inr (8, [.null, .null, .int 0, .int 0, .int 0, .int 0])), (q1, .inl (c1, 4096, .inr (.inl (fun _ => 0))))] A s H _ := hI
  refine z_putF hC hnm hI (w1 := [(h0, .inr (8, [.ref q1, .null, .int 0, .int 0, .int 0, .int 0])), (q1, .inl (c1, 4096, .inr (.inl (fun _ => 0))))]) (fun w h => List.mem_cons_of_mem _ (inlX6 w h)) tyX6_ok nmX6 0 rfl rfl 0 (by decide) (List.mem_cons_of_mem _ zw8_3) rfl rfl rfl rfl (Nat.le_of_ble_eq_true rfl) rfl dX6_init_10 (fun H locs hI => ?_)
  refine lv_aload_n hx hb dX6_init_13 rfl (lv_at hl 0 rfl) ?_
  refine lv_sipush (v := 4096) hx hb dX6_init_14 (by decide) ?_
  refine z_newl hC hI (List.mem_cons_of_mem _ zw1_6) 4096 (by decide +kernel) (by decide +kernel) (by decide +kernel) (Nat.le_of_ble_eq_true rfl) (Nat.le_of_ble_eq_true rfl) dX6_init_17 (fun q2 c2 H hI => ?_)
  have hI : zI st D [(c1, .long), (c2, .long)] [(h0, .inr (8, [.ref q1, .null, .int 0, .int 0, .int 0, .int 0])), (q1, .inl (c1, 4096, .inr (.inl (fun _ => 0)))), (q2, .inl (c2, 4096, .inr (.inl (fun _ => 0))))] A s H _ := hI
  refine z_putF hC hnm hI (w1 := [(h0, .inr (8, [.ref q1, .ref q2, .int 0, .int 0, .int 0, .int 0])), (q1, .inl (c1, 4096, .inr (.inl (fun _ => 0)))), (q2, .inl (c2, 4096, .inr (.inl (fun _ => 0))))]) (fun w h => List.mem_cons_of_mem _ (inlX6 w h)) tyX6_ok nmX6 0 rfl rfl 1 (by decide) (List.mem_cons_of_mem _ zw8_4) rfl rfl rfl rfl (Nat.le_of_ble_eq_true rfl) rfl dX6_init_19 (fun H locs hI => ?_)
  obtain ⟨ad, had⟩ : ∃ f : Nat → Nat, f = (fun j => if j = 12 then h0 else if j = 48 then q1 else if j = 49 then q2 else 0) := ⟨_, rfl⟩
  obtain ⟨cy, hcy⟩ : ∃ f : Nat → ClassId, f = (fun j => if j = 48 then c1 else if j = 49 then c2 else 0) := ⟨_, rfl⟩
  have e12 : h0 = ad 12 := by rw [had]; rfl
  have e48 : q1 = ad 48 := by rw [had]; rfl
  have e49 : q2 = ad 49 := by rw [had]; rfl
  have hI : zI st D (tN12 cy) (wN12 ad cy zS0) A s H locs := by rw [had, hcy]; exact hI
  exact z_nreturn0 (wn := fun ad cy => wN12 ad cy zS0) (tn := tN12) (ex := fun f => h0 = f 12) hC ad cy hI e12 (Nat.le_refl _) (Nat.le_refl _) dX6_init_22
noncomputable def rmX0_init : Room := { frames := 2, cells := 8, slots := 16410, locals := 40 }
noncomputable def wzX0_init : List Cond := .code yX0_init cX0_init 3 none :: wsL_law
noncomputable def kn_cX0_init : Nat := 0xb11e00b52c2a1a00b52b2a1700b50bbc07102a1300b50bbc07102a1000b50900b7590700bb2a0a00b50900b7590700bb2a0100b72a
theorem zk_cX0_init : zkd cX0_init.data.toList kn_cX0_init = true := by decide +kernel
theorem zn_cX0_init : cX0_init.data.toList.length = 53 := by decide +kernel
theorem dX0_init_0 : decode cX0_init 0 = .ok (.aload_n 0, 1) := zo_42 (zkb zk_cX0_init zn_cX0_init rfl)
theorem dX0_init_1 : decode cX0_init 1 = .ok (.invokespecial 1, 3) := zo_183 (b1 := 0) (b2 := 1) (zkb3 zk_cX0_init zn_cX0_init rfl) rfl
theorem dX0_init_4 : decode cX0_init 4 = .ok (.aload_n 0, 1) := zo_42 (zkb zk_cX0_init zn_cX0_init rfl)
theorem dX0_init_5 : decode cX0_init 5 = .ok (.new 7, 3) := zo_187 (b1 := 0) (b2 := 7) (zkb3 zk_cX0_init zn_cX0_init rfl) rfl
theorem dX0_init_8 : decode cX0_init 8 = .ok (.dup, 1) := zo_89 (zkb zk_cX0_init zn_cX0_init rfl)
theorem dX0_init_9 : decode cX0_init 9 = .ok (.invokespecial 9, 3) := zo_183 (b1 := 0) (b2 := 9) (zkb3 zk_cX0_init zn_cX0_init rfl) rfl
theorem dX0_init_12 : decode cX0_init 12 = .ok (.putfield 10, 3) := zo_181 (b1 := 0) (b2 := 10) (zkb3 zk_cX0_init zn_cX0_init rfl) rfl
theorem dX0_init_15 : decode cX0_init 15 = .ok (.aload_n 0, 1) := zo_42 (zkb zk_cX0_init zn_cX0_init rfl)
theorem dX0_init_16 : decode cX0_init 16 = .ok (.new 7, 3) := zo_187 (b1 := 0) (b2 := 7) (zkb3 zk_cX0_init zn_cX0_init rfl) rfl
theorem dX0_init_19 : decode cX0_init 19 = .ok (.dup, 1) := zo_89 (zkb zk_cX0_init zn_cX0_init rfl)
theorem dX0_init_20 : decode cX0_init 20 = .ok (.invokespecial 9, 3) := zo_183 (b1 := 0) (b2 := 9) (zkb3 zk_cX0_init zn_cX0_init rfl) rfl
theorem dX0_init_23 : decode cX0_init 23 = .ok (.putfield 16, 3) := zo_181 (b1 := 0) (b2 := 16) (zkb3 zk_cX0_init zn_cX0_init rfl) rfl
theorem dX0_init_26 : decode cX0_init 26 = .ok (.aload_n 0, 1) := zo_42 (zkb zk_cX0_init zn_cX0_init rfl)
theorem dX0_init_27 : decode cX0_init 27 = .ok (.bipush 7, 2) := zo_16 (b1 := 7) (zkb2 zk_cX0_init zn_cX0_init rfl) rfl
theorem dX0_init_29 : decode cX0_init 29 = .ok (.newarray .long, 2) := by decide +kernel
theorem dX0_init_31 : decode cX0_init 31 = .ok (.putfield 19, 3) := zo_181 (b1 := 0) (b2 := 19) (zkb3 zk_cX0_init zn_cX0_init rfl) rfl
theorem dX0_init_34 : decode cX0_init 34 = .ok (.aload_n 0, 1) := zo_42 (zkb zk_cX0_init zn_cX0_init rfl)
theorem dX0_init_35 : decode cX0_init 35 = .ok (.bipush 7, 2) := zo_16 (b1 := 7) (zkb2 zk_cX0_init zn_cX0_init rfl) rfl
theorem dX0_init_37 : decode cX0_init 37 = .ok (.newarray .long, 2) := by decide +kernel
theorem dX0_init_39 : decode cX0_init 39 = .ok (.putfield 23, 3) := zo_181 (b1 := 0) (b2 := 23) (zkb3 zk_cX0_init zn_cX0_init rfl) rfl
theorem dX0_init_42 : decode cX0_init 42 = .ok (.aload_n 0, 1) := zo_42 (zkb zk_cX0_init zn_cX0_init rfl)
theorem dX0_init_43 : decode cX0_init 43 = .ok (.aload_n 1, 1) := zo_43 (zkb zk_cX0_init zn_cX0_init rfl)
theorem dX0_init_44 : decode cX0_init 44 = .ok (.putfield 26, 3) := zo_181 (b1 := 0) (b2 := 26) (zkb3 zk_cX0_init zn_cX0_init rfl) rfl
theorem dX0_init_47 : decode cX0_init 47 = .ok (.aload_n 0, 1) := zo_42 (zkb zk_cX0_init zn_cX0_init rfl)
theorem dX0_init_48 : decode cX0_init 48 = .ok (.aload_n 2, 1) := zo_44 (zkb zk_cX0_init zn_cX0_init rfl)
theorem dX0_init_49 : decode cX0_init 49 = .ok (.putfield 30, 3) := zo_181 (b1 := 0) (b2 := 30) (zkb3 zk_cX0_init zn_cX0_init rfl) rfl
theorem dX0_init_52 : decode cX0_init 52 = .ok (.return_, 1) := zo_177 (zkb zk_cX0_init zn_cX0_init rfl)
set_option maxRecDepth 20000 in
set_option maxHeartbeats 4000000 in
theorem cX0_init_met (st : Nat → Nat) (l : Launch) (D : va_G) (h0 : Nat) (a4 : Nat) (a5 : Nat)  (sz : Nat) : zN st l yX0_init wzX0_init rmX0_init [.ref h0, .ref a4, .ref a5] D [(h0, .inr (2, [.null, .null, .null, .null, .null, .null]))] sz (fun ad cy => wN8 ad cy zS0) tN8 (fun f => h0 = f 8 ∧ a4 = f 4 ∧ a5 = f 5) 8 16410 := by
  refine zN.of (cc := cX0_init) (maxL := 3) (by decide) rfl rfl (Nat.le_of_ble_eq_true rfl) (fun p e s m args below meth c hC hnm A hI ls hl => ?_)
  have hx := hC.1
  have hb := hC.2.1
  refine lv_aload_n hx hb dX0_init_0 rfl (lv_at hl 0 rfl) ?_
  refine z_objInit hC hl (List.mem_cons_of_mem _ zw7_14) (List.mem_cons_of_mem _ zw1_16) (List.mem_cons_of_mem _ zw1_17) dX0_init_1 (Nat.le_of_ble_eq_true rfl) (Nat.le_of_ble_eq_true rfl) ?_
  refine lv_aload_n hx hb dX0_init_4 rfl (lv_at hl 0 rfl) ?_
  refine z_new (ci := 8) hC hI (fun w h => List.mem_cons_of_mem _ (inlX6 w h)) tyX6_ok (List.mem_cons_of_mem _ zw7_15) (List.mem_cons_of_mem _ zw7_16) (List.mem_cons_of_mem _ zw7_17) rfl [.null, .null, .int 0, .int 0, .int 0, .int 0] (fun j hj => by rcases (show j = 0 ∨ j = 1 ∨ j = 2 ∨ j = 3 ∨ j = 4 ∨ j = 5 by omega) with rfl | rfl | rfl | rfl | rfl | rfl <;> rfl) (Nat.le_of_ble_eq_true rfl) (Nat.le_of_ble_eq_true rfl) dX0_init_5 (fun q1 H hI => ?_)
  have hI : zI st D [] ([(h0, .inr (2, [.null, .null, .null, .null, .null, .null]))] ++ [(q1, .inr (8, [.null, .null, .int 0, .int 0, .int 0, .int 0]))]) A s H _ := hI
  refine lv_dup hx hb dX0_init_8 rfl ?_
  refine z_callIN (As := []) (rest := [.ref q1, .ref h0]) (host := "PadConsole") hC hI (cX6_init_k11_met st l D q1  ) (zgI zw8_1) rfl rfl rfl (List.mem_cons_of_mem _ zw7_17) (by decide) (List.mem_cons_of_mem _ zw8_0) rfl 0 hdX6_init ⟨Nat.le_of_ble_eq_true rfl, Nat.le_of_ble_eq_true rfl⟩ rfl hl rfl (Nat.le_of_ble_eq_true rfl) dX0_init_9 ⟨Nat.le_of_ble_eq_true rfl, Nat.le_of_ble_eq_true rfl⟩ (fun ad11 cy11 H locs hex hI2 => ?_)
  have hq11 : q1 = ad11 11 := hex
  subst hq11
  have hI : zI st D (tN11 cy11) ([(h0, .inr (2, [.null, .null, .null, .null, .null, .null]))] ++ wN11 ad11 cy11 zS0) A s H _ := hI2
  refine z_putF hC hnm hI (w1 := ([(h0, .inr (2, [.null, .null, .ref (ad11 11), .null, .null, .null]))] ++ wN11 ad11 cy11 zS0)) (fun w h => List.mem_cons_of_mem _ (inlX0 w h)) tyX0_ok nmX0 0 rfl rfl 2 (by decide) (List.mem_cons_of_mem _ zw7_18) rfl rfl rfl rfl (Nat.le_of_ble_eq_true rfl) rfl dX0_init_12 (fun H locs hI => ?_)
  refine lv_aload_n hx hb dX0_init_15 rfl (lv_at hl 0 rfl) ?_
  refine z_new (ci := 8) hC hI (fun w h => List.mem_cons_of_mem _ (inlX6 w h)) tyX6_ok (List.mem_cons_of_mem _ zw7_15) (List.mem_cons_of_mem _ zw7_16) (List.mem_cons_of_mem _ zw7_17) rfl [.null, .null, .int 0, .int 0, .int 0, .int 0] (fun j hj => by rcases (show j = 0 ∨ j = 1 ∨ j = 2 ∨ j = 3 ∨ j = 4 ∨ j = 5 by omega) with rfl | rfl | rfl | rfl | rfl | rfl <;> rfl) (Nat.le_of_ble_eq_true rfl) (Nat.le_of_ble_eq_true rfl) dX0_init_16 (fun q2 H hI => ?_)
  have hI : zI st D (tN11 cy11) (([(h0, .inr (2, [.null, .null, .ref (ad11 11), .null, .null, .null]))] ++ wN11 ad11 cy11 zS0) ++ [(q2, .inr (8, [.null, .null, .int 0, .int 0, .int 0, .int 0]))]) A s H _ := hI
  refine lv_dup hx hb dX0_init_19 rfl ?_
  refine z_callIN (As := []) (rest := [.ref q2, .ref h0]) (host := "PadConsole") hC hI (cX6_init_k12_met st l D q2  ) (zgI zw8_1) rfl rfl rfl (List.mem_cons_of_mem _ zw7_17) (by decide) (List.mem_cons_of_mem _ zw8_0) rfl 0 hdX6_init ⟨Nat.le_of_ble_eq_true rfl, Nat.le_of_ble_eq_true rfl⟩ rfl hl rfl (Nat.le_of_ble_eq_true rfl) dX0_init_20 ⟨Nat.le_of_ble_eq_true rfl, Nat.le_of_ble_eq_true rfl⟩ (fun ad12 cy12 H locs hex hI2 => ?_)
  have hq12 : q2 = ad12 12 := hex
  subst hq12
  have hI : zI st D (tN11 cy11 ++ tN12 cy12) (([(h0, .inr (2, [.null, .null, .ref (ad11 11), .null, .null, .null]))] ++ wN11 ad11 cy11 zS0) ++ wN12 ad12 cy12 zS0) A s H _ := hI2
  refine z_putF hC hnm hI (w1 := (([(h0, .inr (2, [.null, .null, .ref (ad11 11), .ref (ad12 12), .null, .null]))] ++ wN11 ad11 cy11 zS0) ++ wN12 ad12 cy12 zS0)) (fun w h => List.mem_cons_of_mem _ (inlX0 w h)) tyX0_ok nmX0 0 rfl rfl 3 (by decide) (List.mem_cons_of_mem _ zw7_19) rfl rfl rfl rfl (Nat.le_of_ble_eq_true rfl) rfl dX0_init_23 (fun H locs hI => ?_)
  refine lv_aload_n hx hb dX0_init_26 rfl (lv_at hl 0 rfl) ?_
  refine lv_bipush (v := 7) hx hb dX0_init_27 (by decide) ?_
  refine z_newl hC hI (List.mem_cons_of_mem _ zw1_6) 7 (by decide +kernel) (by decide +kernel) (by decide +kernel) (Nat.le_of_ble_eq_true rfl) (Nat.le_of_ble_eq_true rfl) dX0_init_29 (fun q3 c3 H hI => ?_)
  have hI : zI st D ((tN11 cy11 ++ tN12 cy12) ++ [(c3, .long)]) ((([(h0, .inr (2, [.null, .null, .ref (ad11 11), .ref (ad12 12), .null, .null]))] ++ wN11 ad11 cy11 zS0) ++ wN12 ad12 cy12 zS0) ++ [(q3, .inl (c3, 7, .inr (.inl (fun _ => 0))))]) A s H _ := hI
  refine z_putF hC hnm hI (w1 := ((([(h0, .inr (2, [.null, .null, .ref (ad11 11), .ref (ad12 12), .ref q3, .null]))] ++ wN11 ad11 cy11 zS0) ++ wN12 ad12 cy12 zS0) ++ [(q3, .inl (c3, 7, .inr (.inl (fun _ => 0))))])) (fun w h => List.mem_cons_of_mem _ (inlX0 w h)) tyX0_ok nmX0 0 rfl rfl 4 (by decide) (List.mem_cons_of_mem _ zw7_20) rfl rfl rfl rfl (Nat.le_of_ble_eq_true rfl) rfl dX0_init_31 (fun H locs hI => ?_)
  refine lv_aload_n hx hb dX0_init_34 rfl (lv_at hl 0 rfl) ?_
  refine lv_bipush (v := 7) hx hb dX0_init_35 (by decide) ?_
  refine z_newl hC hI (List.mem_cons_of_mem _ zw1_6) 7 (by decide +kernel) (by decide +kernel) (by decide +kernel) (Nat.le_of_ble_eq_true rfl) (Nat.le_of_ble_eq_true rfl) dX0_init_37 (fun q4 c4 H hI => ?_)
  have hI : zI st D ((tN11 cy11 ++ tN12 cy12) ++ [(c3, .long), (c4, .long)]) ((([(h0, .inr (2, [.null, .null, .ref (ad11 11), .ref (ad12 12), .ref q3, .null]))] ++ wN11 ad11 cy11 zS0) ++ wN12 ad12 cy12 zS0) ++ [(q3, .inl (c3, 7, .inr (.inl (fun _ => 0)))), (q4, .inl (c4, 7, .inr (.inl (fun _ => 0))))]) A s H _ := hI
  refine z_putF hC hnm hI (w1 := ((([(h0, .inr (2, [.null, .null, .ref (ad11 11), .ref (ad12 12), .ref q3, .ref q4]))] ++ wN11 ad11 cy11 zS0) ++ wN12 ad12 cy12 zS0) ++ [(q3, .inl (c3, 7, .inr (.inl (fun _ => 0)))), (q4, .inl (c4, 7, .inr (.inl (fun _ => 0))))])) (fun w h => List.mem_cons_of_mem _ (inlX0 w h)) tyX0_ok nmX0 0 rfl rfl 5 (by decide) (List.mem_cons_of_mem _ zw7_21) rfl rfl rfl rfl (Nat.le_of_ble_eq_true rfl) rfl dX0_init_39 (fun H locs hI => ?_)
  refine lv_aload_n hx hb dX0_init_42 rfl (lv_at hl 0 rfl) ?_
  refine lv_aload_n hx hb dX0_init_43 rfl (lv_at hl 1 rfl) ?_
  refine z_putF hC hnm hI (w1 := ((([(h0, .inr (2, [.ref a4, .null, .ref (ad11 11), .ref (ad12 12), .ref q3, .ref q4]))] ++ wN11 ad11 cy11 zS0) ++ wN12 ad12 cy12 zS0) ++ [(q3, .inl (c3, 7, .inr (.inl (fun _ => 0)))), (q4, .inl (c4, 7, .inr (.inl (fun _ => 0))))])) (fun w h => List.mem_cons_of_mem _ (inlX0 w h)) tyX0_ok nmX0 0 rfl rfl 0 (by decide) (List.mem_cons_of_mem _ zw7_22) rfl rfl rfl rfl (Nat.le_of_ble_eq_true rfl) rfl dX0_init_44 (fun H locs hI => ?_)
  refine lv_aload_n hx hb dX0_init_47 rfl (lv_at hl 0 rfl) ?_
  refine lv_aload_n hx hb dX0_init_48 rfl (lv_at hl 2 rfl) ?_
  refine z_putF hC hnm hI (w1 := ((([(h0, .inr (2, [.ref a4, .ref a5, .ref (ad11 11), .ref (ad12 12), .ref q3, .ref q4]))] ++ wN11 ad11 cy11 zS0) ++ wN12 ad12 cy12 zS0) ++ [(q3, .inl (c3, 7, .inr (.inl (fun _ => 0)))), (q4, .inl (c4, 7, .inr (.inl (fun _ => 0))))])) (fun w h => List.mem_cons_of_mem _ (inlX0 w h)) tyX0_ok nmX0 0 rfl rfl 1 (by decide) (List.mem_cons_of_mem _ zw7_23) rfl rfl rfl rfl (Nat.le_of_ble_eq_true rfl) rfl dX0_init_49 (fun H locs hI => ?_)
  obtain ⟨ad, had⟩ : ∃ f : Nat → Nat, f = (fun j => if j = 8 then h0 else if j = 11 then ad11 11 else if j = 46 then ad11 46 else if j = 47 then ad11 47 else if j = 12 then ad12 12 else if j = 48 then ad12 48 else if j = 49 then ad12 49 else if j = 38 then q3 else if j = 39 then q4 else if j = 4 then a4 else if j = 5 then a5 else 0) := ⟨_, rfl⟩
  obtain ⟨cy, hcy⟩ : ∃ f : Nat → ClassId, f = (fun j => if j = 46 then cy11 46 else if j = 47 then cy11 47 else if j = 48 then cy12 48 else if j = 49 then cy12 49 else if j = 38 then c3 else if j = 39 then c4 else 0) := ⟨_, rfl⟩
  have e8 : h0 = ad 8 := by rw [had]; rfl
  have e11 : ad11 11 = ad 11 := by rw [had]; rfl
  have e46 : ad11 46 = ad 46 := by rw [had]; rfl
  have e47 : ad11 47 = ad 47 := by rw [had]; rfl
  have e12 : ad12 12 = ad 12 := by rw [had]; rfl
  have e48 : ad12 48 = ad 48 := by rw [had]; rfl
  have e49 : ad12 49 = ad 49 := by rw [had]; rfl
  have e38 : q3 = ad 38 := by rw [had]; rfl
  have e39 : q4 = ad 39 := by rw [had]; rfl
  have e4 : a4 = ad 4 := by rw [had]; rfl
  have e5 : a5 = ad 5 := by rw [had]; rfl
  have hI : zI st D (tN8 cy) (wN8 ad cy zS0) A s H locs := by rw [had, hcy]; exact hI
  exact z_nreturn0 (wn := fun ad cy => wN8 ad cy zS0) (tn := tN8) (ex := fun f => h0 = f 8 ∧ a4 = f 4 ∧ a5 = f 5) hC ad cy hI ⟨e8, e4, e5⟩ (Nat.le_refl _) (Nat.le_refl _) dX0_init_52
theorem hdX0_init : yX0_init.cls ≠ "java/lang/invoke/MethodHandle" ∧ yX0_init.cls ≠ "java/lang/invoke/VarHandle" ∧ (parseMethodDescriptor yX0_init.desc).map (fun d => d.parameters.length) = some 2 := by decide +kernel
