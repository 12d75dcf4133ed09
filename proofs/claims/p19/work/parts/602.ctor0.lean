/-- the state of a new object out of its parts' -/
def zC0p (s0 s1 s2 s3 s4 s5 s6 s7 s8 s9 s10 : zSt) (a : Nat) : zSt := bif Nat.beq a 0 then s0 else bif Nat.beq a 1 then s1 else bif Nat.beq a 13 then s1 else bif Nat.beq a 14 then s1 else bif Nat.beq a 15 then s1 else bif Nat.beq a 16 then s1 else bif Nat.beq a 17 then s1 else bif Nat.beq a 18 then s1 else bif Nat.beq a 19 then s1 else bif Nat.beq a 20 then s1 else bif Nat.beq a 2 then s2 else bif Nat.beq a 21 then s2 else bif Nat.beq a 22 then s2 else bif Nat.beq a 23 then s2 else bif Nat.beq a 24 then s2 else bif Nat.beq a 3 then s3 else bif Nat.beq a 25 then s3 else bif Nat.beq a 26 then s3 else bif Nat.beq a 27 then s3 else bif Nat.beq a 28 then s3 else bif Nat.beq a 29 then s3 else bif Nat.beq a 4 then s4 else bif Nat.beq a 30 then s4 else bif Nat.beq a 31 then s4 else bif Nat.beq a 5 then s5 else bif Nat.beq a 32 then s5 else bif Nat.beq a 33 then s5 else bif Nat.beq a 6 then s6 else bif Nat.beq a 34 then s6 else bif Nat.beq a 35 then s6 else bif Nat.beq a 7 then s7 else bif Nat.beq a 36 then s7 else bif Nat.beq a 37 then s7 else bif Nat.beq a 8 then s8 else bif Nat.beq a 11 then s8 else bif Nat.beq a 46 then s8 else bif Nat.beq a 47 then s8 else bif Nat.beq a 12 then s8 else bif Nat.beq a 48 then s8 else bif Nat.beq a 49 then s8 else bif Nat.beq a 38 then s8 else bif Nat.beq a 39 then s8 else bif Nat.beq a 9 then s9 else bif Nat.beq a 40 then s9 else bif Nat.beq a 41 then s9 else bif Nat.beq a 42 then s9 else bif Nat.beq a 43 then s9 else bif Nat.beq a 44 then s9 else bif Nat.beq a 10 then s10 else bif Nat.beq a 45 then s10 else zS0
def zC0 (s0 s1 s2 s3 s4 s5 s6 s7 s8 s9 s10 : zSt) : zSt := (fun a => (zC0p s0 s1 s2 s3 s4 s5 s6 s7 s8 s9 s10 a).1 a, fun a => (zC0p s0 s1 s2 s3 s4 s5 s6 s7 s8 s9 s10 a).2 a)
section ZN3
variable {p : Program} {l : Launch} {e : Env} {R : Room} {s : State} {m : MethodId} {args : Array Value} {below : List Frame} {meth : Method} {c : Code} {H : Heap} {locs : List Loc} {cells slots : Nat} {Q : State → Prop} {cc : ByteArray} {pc pcA pcJ t1 : Nat} {ls : Array Slot} {rest : List Value}
/-- x == k ? a : b -/
theorem z_tern (hx : p.tables.exec = Jvm.exec) (hb : c.code = cc) {x k a b : Int32} {off : Int} (d1 : decode cc pc = .ok (.if_icmp .ne off, 3)) (ht : (pc : Int) + off = (t1 : Int))
    (ka : W p l e R s m args below meth c H locs cells slots Q (F0 m pcA ls (.int a :: rest)) → W p l e R s m args below meth c H locs cells slots Q (F0 m (pc + 3) ls rest)) (kg : W p l e R s m args below meth c H locs cells slots Q (F0 m pcJ ls (.int a :: rest)) → W p l e R s m args below meth c H locs cells slots Q (F0 m pcA ls (.int a :: rest)))
    (kb : W p l e R s m args below meth c H locs cells slots Q (F0 m pcJ ls (.int b :: rest)) → W p l e R s m args below meth c H locs cells slots Q (F0 m t1 ls rest)) (kk : W p l e R s m args below meth c H locs cells slots Q (F0 m pcJ ls (.int (if x = k then a else b) :: rest))) : W p l e R s m args below meth c H locs cells slots Q (F0 m pc ls (.int k :: .int x :: rest)) := by
  refine lv_icmp_ne (tgt := t1) hx hb d1 ht (fun q => kb ?_) (fun q => ka (kg ?_))
  · rw [if_neg q] at kk; exact kk
  · rw [if_pos q] at kk; exact kk
end ZN3
def rmX11_init : Room := { frames := 4, cells := 49, slots := 782394, locals := 86 }
def wzX11_init : List Cond := .code yX11_init cX11_init 2 none :: wsL_law
theorem dX11_init_0 : decode cX11_init 0 = .ok (.aload_n 0, 1) := by decide +kernel
theorem dX11_init_1 : decode cX11_init 1 = .ok (.invokespecial 1, 3) := by decide +kernel
theorem dX11_init_4 : decode cX11_init 4 = .ok (.aload_n 0, 1) := by decide +kernel
theorem dX11_init_5 : decode cX11_init 5 = .ok (.iload_n 1, 1) := by decide +kernel
theorem dX11_init_6 : decode cX11_init 6 = .ok (.iconst 2, 1) := by decide +kernel
theorem dX11_init_7 : decode cX11_init 7 = .ok (.if_icmp .ne 7, 3) := by decide +kernel
theorem dX11_init_10 : decode cX11_init 10 = .ok (.iconst 1, 1) := by decide +kernel
theorem dX11_init_11 : decode cX11_init 11 = .ok (.goto 4, 3) := by decide +kernel
theorem dX11_init_14 : decode cX11_init 14 = .ok (.iconst 0, 1) := by decide +kernel
theorem dX11_init_15 : decode cX11_init 15 = .ok (.putfield 7, 3) := by decide +kernel
theorem dX11_init_18 : decode cX11_init 18 = .ok (.aload_n 0, 1) := by decide +kernel
theorem dX11_init_19 : decode cX11_init 19 = .ok (.new 13, 3) := by decide +kernel
theorem dX11_init_22 : decode cX11_init 22 = .ok (.dup, 1) := by decide +kernel
theorem dX11_init_23 : decode cX11_init 23 = .ok (.invokespecial 15, 3) := by decide +kernel
theorem dX11_init_26 : decode cX11_init 26 = .ok (.putfield 16, 3) := by decide +kernel
theorem dX11_init_29 : decode cX11_init 29 = .ok (.aload_n 0, 1) := by decide +kernel
theorem dX11_init_30 : decode cX11_init 30 = .ok (.new 20, 3) := by decide +kernel
theorem dX11_init_33 : decode cX11_init 33 = .ok (.dup, 1) := by decide +kernel
theorem dX11_init_34 : decode cX11_init 34 = .ok (.aload_n 0, 1) := by decide +kernel
theorem dX11_init_35 : decode cX11_init 35 = .ok (.getfield 7, 3) := by decide +kernel
theorem dX11_init_38 : decode cX11_init 38 = .ok (.iload_n 1, 1) := by decide +kernel
theorem dX11_init_39 : decode cX11_init 39 = .ok (.iconst 1, 1) := by decide +kernel
theorem dX11_init_40 : decode cX11_init 40 = .ok (.if_icmp .ne 9, 3) := by decide +kernel
theorem dX11_init_43 : decode cX11_init 43 = .ok (.sipush 313, 3) := by decide +kernel
theorem dX11_init_46 : decode cX11_init 46 = .ok (.goto 6, 3) := by decide +kernel
theorem dX11_init_49 : decode cX11_init 49 = .ok (.sipush 262, 3) := by decide +kernel
theorem dX11_init_52 : decode cX11_init 52 = .ok (.invokespecial 22, 3) := by decide +kernel
theorem dX11_init_55 : decode cX11_init 55 = .ok (.putfield 25, 3) := by decide +kernel
theorem dX11_init_58 : decode cX11_init 58 = .ok (.aload_n 0, 1) := by decide +kernel
theorem dX11_init_59 : decode cX11_init 59 = .ok (.new 29, 3) := by decide +kernel
theorem dX11_init_62 : decode cX11_init 62 = .ok (.dup, 1) := by decide +kernel
theorem dX11_init_63 : decode cX11_init 63 = .ok (.aload_n 0, 1) := by decide +kernel
theorem dX11_init_64 : decode cX11_init 64 = .ok (.getfield 25, 3) := by decide +kernel
theorem dX11_init_67 : decode cX11_init 67 = .ok (.aload_n 0, 1) := by decide +kernel
theorem dX11_init_68 : decode cX11_init 68 = .ok (.getfield 7, 3) := by decide +kernel
theorem dX11_init_71 : decode cX11_init 71 = .ok (.invokespecial 31, 3) := by decide +kernel
theorem dX11_init_74 : decode cX11_init 74 = .ok (.putfield 34, 3) := by decide +kernel
theorem dX11_init_77 : decode cX11_init 77 = .ok (.aload_n 0, 1) := by decide +kernel
theorem dX11_init_78 : decode cX11_init 78 = .ok (.new 38, 3) := by decide +kernel
theorem dX11_init_81 : decode cX11_init 81 = .ok (.dup, 1) := by decide +kernel
theorem dX11_init_82 : decode cX11_init 82 = .ok (.invokespecial 40, 3) := by decide +kernel
theorem dX11_init_85 : decode cX11_init 85 = .ok (.putfield 41, 3) := by decide +kernel
theorem dX11_init_88 : decode cX11_init 88 = .ok (.aload_n 0, 1) := by decide +kernel
theorem dX11_init_89 : decode cX11_init 89 = .ok (.new 45, 3) := by decide +kernel
theorem dX11_init_92 : decode cX11_init 92 = .ok (.dup, 1) := by decide +kernel
theorem dX11_init_93 : decode cX11_init 93 = .ok (.invokespecial 47, 3) := by decide +kernel
theorem dX11_init_96 : decode cX11_init 96 = .ok (.putfield 48, 3) := by decide +kernel
theorem dX11_init_99 : decode cX11_init 99 = .ok (.aload_n 0, 1) := by decide +kernel
theorem dX11_init_100 : decode cX11_init 100 = .ok (.new 52, 3) := by decide +kernel
theorem dX11_init_103 : decode cX11_init 103 = .ok (.dup, 1) := by decide +kernel
theorem dX11_init_104 : decode cX11_init 104 = .ok (.aload_n 0, 1) := by decide +kernel
theorem dX11_init_105 : decode cX11_init 105 = .ok (.getfield 7, 3) := by decide +kernel
theorem dX11_init_108 : decode cX11_init 108 = .ok (.aload_n 0, 1) := by decide +kernel
theorem dX11_init_109 : decode cX11_init 109 = .ok (.getfield 25, 3) := by decide +kernel
theorem dX11_init_112 : decode cX11_init 112 = .ok (.aload_n 0, 1) := by decide +kernel
theorem dX11_init_113 : decode cX11_init 113 = .ok (.getfield 41, 3) := by decide +kernel
theorem dX11_init_116 : decode cX11_init 116 = .ok (.aload_n 0, 1) := by decide +kernel
theorem dX11_init_117 : decode cX11_init 117 = .ok (.getfield 48, 3) := by decide +kernel
theorem dX11_init_120 : decode cX11_init 120 = .ok (.invokespecial 54, 3) := by decide +kernel
theorem dX11_init_123 : decode cX11_init 123 = .ok (.putfield 57, 3) := by decide +kernel
theorem dX11_init_126 : decode cX11_init 126 = .ok (.aload_n 0, 1) := by decide +kernel
theorem dX11_init_127 : decode cX11_init 127 = .ok (.new 61, 3) := by decide +kernel
theorem dX11_init_130 : decode cX11_init 130 = .ok (.dup, 1) := by decide +kernel
theorem dX11_init_131 : decode cX11_init 131 = .ok (.aload_n 0, 1) := by decide +kernel
theorem dX11_init_132 : decode cX11_init 132 = .ok (.getfield 16, 3) := by decide +kernel
theorem dX11_init_135 : decode cX11_init 135 = .ok (.aload_n 0, 1) := by decide +kernel
theorem dX11_init_136 : decode cX11_init 136 = .ok (.getfield 57, 3) := by decide +kernel
theorem dX11_init_139 : decode cX11_init 139 = .ok (.invokespecial 63, 3) := by decide +kernel
theorem dX11_init_142 : decode cX11_init 142 = .ok (.putfield 66, 3) := by decide +kernel
theorem dX11_init_145 : decode cX11_init 145 = .ok (.aload_n 0, 1) := by decide +kernel
theorem dX11_init_146 : decode cX11_init 146 = .ok (.new 70, 3) := by decide +kernel
theorem dX11_init_149 : decode cX11_init 149 = .ok (.dup, 1) := by decide +kernel
theorem dX11_init_150 : decode cX11_init 150 = .ok (.aload_n 0, 1) := by decide +kernel
theorem dX11_init_151 : decode cX11_init 151 = .ok (.getfield 41, 3) := by decide +kernel
theorem dX11_init_154 : decode cX11_init 154 = .ok (.aload_n 0, 1) := by decide +kernel
theorem dX11_init_155 : decode cX11_init 155 = .ok (.getfield 48, 3) := by decide +kernel
theorem dX11_init_158 : decode cX11_init 158 = .ok (.invokespecial 72, 3) := by decide +kernel
theorem dX11_init_161 : decode cX11_init 161 = .ok (.putfield 75, 3) := by decide +kernel
theorem dX11_init_164 : decode cX11_init 164 = .ok (.aload_n 0, 1) := by decide +kernel
theorem dX11_init_165 : decode cX11_init 165 = .ok (.new 79, 3) := by decide +kernel
theorem dX11_init_168 : decode cX11_init 168 = .ok (.dup, 1) := by decide +kernel
theorem dX11_init_169 : decode cX11_init 169 = .ok (.invokespecial 81, 3) := by decide +kernel
theorem dX11_init_172 : decode cX11_init 172 = .ok (.putfield 82, 3) := by decide +kernel
theorem dX11_init_175 : decode cX11_init 175 = .ok (.aload_n 0, 1) := by decide +kernel
theorem dX11_init_176 : decode cX11_init 176 = .ok (.new 86, 3) := by decide +kernel
theorem dX11_init_179 : decode cX11_init 179 = .ok (.dup, 1) := by decide +kernel
theorem dX11_init_180 : decode cX11_init 180 = .ok (.aload_n 0, 1) := by decide +kernel
theorem dX11_init_181 : decode cX11_init 181 = .ok (.getfield 16, 3) := by decide +kernel
theorem dX11_init_184 : decode cX11_init 184 = .ok (.invokespecial 88, 3) := by decide +kernel
theorem dX11_init_187 : decode cX11_init 187 = .ok (.putfield 91, 3) := by decide +kernel
theorem dX11_init_190 : decode cX11_init 190 = .ok (.return_, 1) := by decide +kernel
set_option maxRecDepth 20000 in
set_option maxHeartbeats 4000000 in
theorem cX11_init_met (st : Nat → Nat) (l : Launch) (D : va_G) (h0 : Nat) (x1 : Int32) (σN4 : zSt) (hfN4 : fX7_clear zS0 = some σN4) (σN5 : zSt) (hfN5 : fX10_clear zS0 = some σN5) (σN6 : Int32 → zSt) (hfN6 : ∀ v, fX4_clear (zsi (zsi (zsi zS0 6 0 v) 34 10 1) 34 11 1) = some (σN6 v)) (σN9 : zSt) (hfN9 : fJ7_fill_53178_k44 zS0 (-1) = some σN9) (sz : Nat) : zN st l yX11_init wzX11_init rmX11_init [.ref h0, .int x1] D [(h0, .inr (13, [.int 0, .null, .null, .null, .null, .null, .null, .null, .null, .null, .null, .int 0]))] sz (fun ad cy => wC ad cy (zC0 (zsi zS0 0 0 (if x1 = 2 then 1 else 0)) ((zsi (zsi (zsi (zsi (zsi (zsi zS0 1 1 1) 1 7 (-1)) 19 0 0) 19 1 1) 19 2 2) 19 3 0)) ((zsi (zsi zS0 2 0 (if x1 = 2 then 1 else 0)) 2 1 (if x1 = 1 then 313 else 262))) ((zsi zS0 3 1 (if x1 = 2 then 1 else 0))) σN4 σN5 (σN6 (if x1 = 2 then 1 else 0)) ((zsi (zsi zS0 7 4 6) 36 18 57328)) zS0 σN9 zS0)) tC (fun f => h0 = f 0) 49 782394 := by
  refine zN.of (cc := cX11_init) (maxL := 2) (by decide) rfl rfl (Nat.le_of_ble_eq_true rfl) (fun p e s m args below meth c hC hnm A hI ls hl => ?_)
  have hx := hC.1
  have hb := hC.2.1
  refine lv_aload_n hx hb dX11_init_0 rfl (lv_at hl 0 rfl) ?_
  refine z_objInit hC hl (List.mem_cons_of_mem _ zw1_15) (List.mem_cons_of_mem _ zw1_16) (List.mem_cons_of_mem _ zw1_17) dX11_init_1 (Nat.le_of_ble_eq_true rfl) (Nat.le_of_ble_eq_true rfl) ?_
  refine lv_aload_n hx hb dX11_init_4 rfl (lv_at hl 0 rfl) ?_
  refine lv_iload_n hx hb dX11_init_5 rfl (lv_at hl 1 rfl) ?_
  refine lv_iconst (v := 2) hx hb dX11_init_6 (by decide) ?_
  refine z_tern (x := x1) (k := 2) (a := 1) (b := 0) (pcJ := 15) hx hb dX11_init_7 (by decide) (fun h => lv_iconst (v := 1) hx hb dX11_init_10 (by decide) h) (fun h => lv_goto (tgt := 15) hx hb dX11_init_11 (by decide) h) (fun h => lv_iconst (v := 0) hx hb dX11_init_14 (by decide) h) ?_
  refine lv_topi (fun v0 ev0 => ?_)
  have hz0 : zbo v0 = true := by rw [ev0]; split <;> rfl
  refine z_putF hC hnm hI (w1 := [(h0, .inr (13, [.int v0, .null, .null, .null, .null, .null, .null, .null, .null, .null, .null, .int 0]))]) (fun w h => List.mem_cons_of_mem _ (inlX11 w h)) tyX11_ok nmX11 0 rfl rfl 0 (by decide) (List.mem_cons_of_mem _ zw1_18) rfl rfl (zbo_n hz0) (zbo_f hz0) (Nat.le_of_ble_eq_true rfl) rfl dX11_init_15 (fun H locs hI => ?_)
  refine lv_aload_n hx hb dX11_init_18 rfl (lv_at hl 0 rfl) ?_
  refine z_new (ci := 4) hC hI (fun w h => List.mem_cons_of_mem _ (inlX2 w h)) tyX2_ok (List.mem_cons_of_mem _ zw1_19) (List.mem_cons_of_mem _ zw1_20) (List.mem_cons_of_mem _ zw1_21) rfl [.null, .null, .int 0, .int 0, .int 0, .int 0, .int 0, .int 0, .null, .null, .null, .null, .null, .null] (fun j hj => by rcases (show j = 0 ∨ j = 1 ∨ j = 2 ∨ j = 3 ∨ j = 4 ∨ j = 5 ∨ j = 6 ∨ j = 7 ∨ j = 8 ∨ j = 9 ∨ j = 10 ∨ j = 11 ∨ j = 12 ∨ j = 13 by omega) with rfl | rfl | rfl | rfl | rfl | rfl | rfl | rfl | rfl | rfl | rfl | rfl | rfl | rfl <;> rfl) (Nat.le_of_ble_eq_true rfl) (Nat.le_of_ble_eq_true rfl) dX11_init_19 (fun q1 H hI => ?_)
  have hI : zI st D [] ([(h0, .inr (13, [.int v0, .null, .null, .null, .null, .null, .null, .null, .null, .null, .null, .int 0]))] ++ [(q1, .inr (4, [.null, .null, .int 0, .int 0, .int 0, .int 0, .int 0, .int 0, .null, .null, .null, .null, .null, .null]))]) A s H _ := hI
  refine lv_dup hx hb dX11_init_22 rfl ?_
  refine z_callIN (As := []) (rest := [.ref q1, .ref h0]) (host := "PadConsole") hC hI (cX2_init_met st l D q1  ) (zgI zw3_12) rfl rfl rfl (List.mem_cons_of_mem _ zw1_21) (by decide) (List.mem_cons_of_mem _ zw3_11) rfl 0 hdX2_init ⟨Nat.le_of_ble_eq_true rfl, Nat.le_of_ble_eq_true rfl⟩ rfl hl rfl (Nat.le_of_ble_eq_true rfl) dX11_init_23 ⟨Nat.le_of_ble_eq_true rfl, Nat.le_of_ble_eq_true rfl⟩ (fun ad1 cy1 H locs hex hI2 => ?_)
  have hq1 : q1 = ad1 1 := hex
  subst hq1
  have hI : zI st D (tN1 cy1) ([(h0, .inr (13, [.int v0, .null, .null, .null, .null, .null, .null, .null, .null, .null, .null, .int 0]))] ++ wN1 ad1 cy1 ((zsi (zsi (zsi (zsi (zsi (zsi zS0 1 1 1) 1 7 (-1)) 19 0 0) 19 1 1) 19 2 2) 19 3 0))) A s H _ := hI2
  refine z_putF hC hnm hI (w1 := ([(h0, .inr (13, [.int v0, .ref (ad1 1), .null, .null, .null, .null, .null, .null, .null, .null, .null, .int 0]))] ++ wN1 ad1 cy1 ((zsi (zsi (zsi (zsi (zsi (zsi zS0 1 1 1) 1 7 (-1)) 19 0 0) 19 1 1) 19 2 2) 19 3 0)))) (fun w h => List.mem_cons_of_mem _ (inlX11 w h)) tyX11_ok nmX11 0 rfl rfl 1 (by decide) (List.mem_cons_of_mem _ zw1_22) rfl rfl rfl rfl (Nat.le_of_ble_eq_true rfl) rfl dX11_init_26 (fun H locs hI => ?_)
  refine lv_aload_n hx hb dX11_init_29 rfl (lv_at hl 0 rfl) ?_
  refine z_new (ci := 11) hC hI (fun w h => List.mem_cons_of_mem _ (inlX9 w h)) tyX9_ok (List.mem_cons_of_mem _ zw1_23) (List.mem_cons_of_mem _ zw2_0) (List.mem_cons_of_mem _ zw2_1) rfl [.int 0, .int 0, .null, .null, .null, .null] (fun j hj => by rcases (show j = 0 ∨ j = 1 ∨ j = 2 ∨ j = 3 ∨ j = 4 ∨ j = 5 by omega) with rfl | rfl | rfl | rfl | rfl | rfl <;> rfl) (Nat.le_of_ble_eq_true rfl) (Nat.le_of_ble_eq_true rfl) dX11_init_30 (fun q2 H hI => ?_)
  have hI : zI st D (tN1 cy1) (([(h0, .inr (13, [.int v0, .ref (ad1 1), .null, .null, .null, .null, .null, .null, .null, .null, .null, .int 0]))] ++ wN1 ad1 cy1 ((zsi (zsi (zsi (zsi (zsi (zsi zS0 1 1 1) 1 7 (-1)) 19 0 0) 19 1 1) 19 2 2) 19 3 0))) ++ [(q2, .inr (11, [.int 0, .int 0, .null, .null, .null, .null]))]) A s H _ := hI
  refine lv_dup hx hb dX11_init_33 rfl ?_
  refine lv_aload_n hx hb dX11_init_34 rfl (lv_at hl 0 rfl) ?_
  refine z_get (v := .int v0) hC hI (fun w h => List.mem_cons_of_mem _ (inlX11 w h)) 0 rfl rfl 0 (by decide) (List.mem_cons_of_mem _ zw1_18) rfl dX11_init_35 ?_
  refine lv_iload_n hx hb dX11_init_38 rfl (lv_at hl 1 rfl) ?_
  refine lv_iconst (v := 1) hx hb dX11_init_39 (by decide) ?_
  refine z_tern (x := x1) (k := 1) (a := 313) (b := 262) (pcJ := 52) hx hb dX11_init_40 (by decide) (fun h => lv_sipush (v := 313) hx hb dX11_init_43 (by decide) h) (fun h => lv_goto (tgt := 52) hx hb dX11_init_46 (by decide) h) (fun h => lv_sipush (v := 262) hx hb dX11_init_49 (by decide) h) ?_
  refine lv_topi (fun v1 ev1 => ?_)
  refine z_callI (As := [.int v0, .int v1]) (rest := [.ref q2, .ref h0]) hC hI (cX9_init_met st l D q2 v0 v1 hz0) (zgI zw4_4) rfl rfl rfl (List.mem_cons_of_mem _ zw2_1) (List.mem_cons_of_mem _ zw4_2) (List.mem_cons_of_mem _ zw4_3) rfl 2 hdX9_init ⟨Nat.le_of_ble_eq_true rfl, Nat.le_of_ble_eq_true rfl⟩ rfl hl rfl (Nat.le_of_ble_eq_true rfl) dX11_init_52 ⟨Nat.le_of_ble_eq_true rfl, Nat.le_of_ble_eq_true rfl⟩ (fun ad2 cy2 H locs hex hI2 => ?_)
  have hq2 : q2 = ad2 2 := hex
  subst hq2
  have hI : zI st D (tN1 cy1 ++ tN2 cy2) (([(h0, .inr (13, [.int v0, .ref (ad1 1), .null, .null, .null, .null, .null, .null, .null, .null, .null, .int 0]))] ++ wN1 ad1 cy1 ((zsi (zsi (zsi (zsi (zsi (zsi zS0 1 1 1) 1 7 (-1)) 19 0 0) 19 1 1) 19 2 2) 19 3 0))) ++ wN2 ad2 cy2 ((zsi (zsi zS0 2 0 v0) 2 1 v1))) A s H _ := hI2
  refine z_putF hC hnm hI (w1 := (([(h0, .inr (13, [.int v0, .ref (ad1 1), .ref (ad2 2), .null, .null, .null, .null, .null, .null, .null, .null, .int 0]))] ++ wN1 ad1 cy1 ((zsi (zsi (zsi (zsi (zsi (zsi zS0 1 1 1) 1 7 (-1)) 19 0 0) 19 1 1) 19 2 2) 19 3 0))) ++ wN2 ad2 cy2 ((zsi (zsi zS0 2 0 v0) 2 1 v1)))) (fun w h => List.mem_cons_of_mem _ (inlX11 w h)) tyX11_ok nmX11 0 rfl rfl 2 (by decide) (List.mem_cons_of_mem _ zw2_2) rfl rfl rfl rfl (Nat.le_of_ble_eq_true rfl) rfl dX11_init_55 (fun H locs hI => ?_)
  refine lv_aload_n hx hb dX11_init_58 rfl (lv_at hl 0 rfl) ?_
  refine z_new (ci := 5) hC hI (fun w h => List.mem_cons_of_mem _ (inlX3 w h)) tyX3_ok (List.mem_cons_of_mem _ zw2_3) (List.mem_cons_of_mem _ zw2_4) (List.mem_cons_of_mem _ zw2_5) rfl [.null, .int 0, .null, .null, .null, .null, .null, .int 0, .int 0] (fun j hj => by rcases (show j = 0 ∨ j = 1 ∨ j = 2 ∨ j = 3 ∨ j = 4 ∨ j = 5 ∨ j = 6 ∨ j = 7 ∨ j = 8 by omega) with rfl | rfl | rfl | rfl | rfl | rfl | rfl | rfl | rfl <;> rfl) (Nat.le_of_ble_eq_true rfl) (Nat.le_of_ble_eq_true rfl) dX11_init_59 (fun q3 H hI => ?_)
  have hI : zI st D (tN1 cy1 ++ tN2 cy2) ((([(h0, .inr (13, [.int v0, .ref (ad1 1), .ref (ad2 2), .null, .null, .null, .null, .null, .null, .null, .null, .int 0]))] ++ wN1 ad1 cy1 ((zsi (zsi (zsi (zsi (zsi (zsi zS0 1 1 1) 1 7 (-1)) 19 0 0) 19 1 1) 19 2 2) 19 3 0))) ++ wN2 ad2 cy2 ((zsi (zsi zS0 2 0 v0) 2 1 v1))) ++ [(q3, .inr (5, [.null, .int 0, .null, .null, .null, .null, .null, .int 0, .int 0]))]) A s H _ := hI
  refine lv_dup hx hb dX11_init_62 rfl ?_
  refine lv_aload_n hx hb dX11_init_63 rfl (lv_at hl 0 rfl) ?_
  refine z_get (v := .ref (ad2 2)) hC hI (fun w h => List.mem_cons_of_mem _ (inlX11 w h)) 0 rfl rfl 2 (by decide) (List.mem_cons_of_mem _ zw2_2) rfl dX11_init_64 ?_
  refine lv_aload_n hx hb dX11_init_67 rfl (lv_at hl 0 rfl) ?_
  refine z_get (v := .int v0) hC hI (fun w h => List.mem_cons_of_mem _ (inlX11 w h)) 0 rfl rfl 0 (by decide) (List.mem_cons_of_mem _ zw1_18) rfl dX11_init_68 ?_
  refine z_callI (As := [.ref ((ad2 2)), .int v0]) (rest := [.ref q3, .ref h0]) hC hI (cX3_init_met st l D q3 ((ad2 2)) v0 hz0) (zgI zw4_14) rfl rfl rfl (List.mem_cons_of_mem _ zw2_5) (List.mem_cons_of_mem _ zw4_12) (List.mem_cons_of_mem _ zw4_13) rfl 2 hdX3_init ⟨Nat.le_of_ble_eq_true rfl, Nat.le_of_ble_eq_true rfl⟩ rfl hl rfl (Nat.le_of_ble_eq_true rfl) dX11_init_71 ⟨Nat.le_of_ble_eq_true rfl, Nat.le_of_ble_eq_true rfl⟩ (fun ad3 cy3 H locs hex hI2 => ?_)
  obtain ⟨hq3, hx3_2⟩ := hex
  subst hq3
  have hI : zI st D ((tN1 cy1 ++ tN2 cy2) ++ tN3 cy3) ((([(h0, .inr (13, [.int v0, .ref (ad1 1), .ref (ad2 2), .null, .null, .null, .null, .null, .null, .null, .null, .int 0]))] ++ wN1 ad1 cy1 ((zsi (zsi (zsi (zsi (zsi (zsi zS0 1 1 1) 1 7 (-1)) 19 0 0) 19 1 1) 19 2 2) 19 3 0))) ++ wN2 ad2 cy2 ((zsi (zsi zS0 2 0 v0) 2 1 v1))) ++ wN3 ad3 cy3 ((zsi zS0 3 1 v0))) A s H _ := hI2
  refine z_putF hC hnm hI (w1 := ((([(h0, .inr (13, [.int v0, .ref (ad1 1), .ref (ad2 2), .ref (ad3 3), .null, .null, .null, .null, .null, .null, .null, .int 0]))] ++ wN1 ad1 cy1 ((zsi (zsi (zsi (zsi (zsi (zsi zS0 1 1 1) 1 7 (-1)) 19 0 0) 19 1 1) 19 2 2) 19 3 0))) ++ wN2 ad2 cy2 ((zsi (zsi zS0 2 0 v0) 2 1 v1))) ++ wN3 ad3 cy3 ((zsi zS0 3 1 v0)))) (fun w h => List.mem_cons_of_mem _ (inlX11 w h)) tyX11_ok nmX11 0 rfl rfl 3 (by decide) (List.mem_cons_of_mem _ zw2_6) rfl rfl rfl rfl (Nat.le_of_ble_eq_true rfl) rfl dX11_init_74 (fun H locs hI => ?_)
  refine lv_aload_n hx hb dX11_init_77 rfl (lv_at hl 0 rfl) ?_
  refine z_new (ci := 9) hC hI (fun w h => List.mem_cons_of_mem _ (inlX7 w h)) tyX7_ok (List.mem_cons_of_mem _ zw2_7) (List.mem_cons_of_mem _ zw2_8) (List.mem_cons_of_mem _ zw2_9) rfl [.null, .null] (fun j hj => by rcases (show j = 0 ∨ j = 1 by omega) with rfl | rfl <;> rfl) (Nat.le_of_ble_eq_true rfl) (Nat.le_of_ble_eq_true rfl) dX11_init_78 (fun q4 H hI => ?_)
  have hI : zI st D ((tN1 cy1 ++ tN2 cy2) ++ tN3 cy3) (((([(h0, .inr (13, [.int v0, .ref (ad1 1), .ref (ad2 2), .ref (ad3 3), .null, .null, .null, .null, .null, .null, .null, .int 0]))] ++ wN1 ad1 cy1 ((zsi (zsi (zsi (zsi (zsi (zsi zS0 1 1 1) 1 7 (-1)) 19 0 0) 19 1 1) 19 2 2) 19 3 0))) ++ wN2 ad2 cy2 ((zsi (zsi zS0 2 0 v0) 2 1 v1))) ++ wN3 ad3 cy3 ((zsi zS0 3 1 v0))) ++ [(q4, .inr (9, [.null, .null]))]) A s H _ := hI
  refine lv_dup hx hb dX11_init_81 rfl ?_
  refine z_callI (As := []) (rest := [.ref q4, .ref h0]) hC hI (cX7_init_met st l D q4   σN4 hfN4) (zgI zw5_2) rfl rfl rfl (List.mem_cons_of_mem _ zw2_9) (List.mem_cons_of_mem _ zw5_0) (List.mem_cons_of_mem _ zw5_1) rfl 0 hdX7_init ⟨Nat.le_of_ble_eq_true rfl, Nat.le_of_ble_eq_true rfl⟩ rfl hl rfl (Nat.le_of_ble_eq_true rfl) dX11_init_82 ⟨Nat.le_of_ble_eq_true rfl, Nat.le_of_ble_eq_true rfl⟩ (fun ad4 cy4 H locs hex hI2 => ?_)
  have hq4 : q4 = ad4 4 := hex
  subst hq4
  have hI : zI st D (((tN1 cy1 ++ tN2 cy2) ++ tN3 cy3) ++ tN4 cy4) (((([(h0, .inr (13, [.int v0, .ref (ad1 1), .ref (ad2 2), .ref (ad3 3), .null, .null, .null, .null, .null, .null, .null, .int 0]))] ++ wN1 ad1 cy1 ((zsi (zsi (zsi (zsi (zsi (zsi zS0 1 1 1) 1 7 (-1)) 19 0 0) 19 1 1) 19 2 2) 19 3 0))) ++ wN2 ad2 cy2 ((zsi (zsi zS0 2 0 v0) 2 1 v1))) ++ wN3 ad3 cy3 ((zsi zS0 3 1 v0))) ++ wN4 ad4 cy4 σN4) A s H _ := hI2
  refine z_putF hC hnm hI (w1 := (((([(h0, .inr (13, [.int v0, .ref (ad1 1), .ref (ad2 2), .ref (ad3 3), .ref (ad4 4), .null, .null, .null, .null, .null, .null, .int 0]))] ++ wN1 ad1 cy1 ((zsi (zsi (zsi (zsi (zsi (zsi zS0 1 1 1) 1 7 (-1)) 19 0 0) 19 1 1) 19 2 2) 19 3 0))) ++ wN2 ad2 cy2 ((zsi (zsi zS0 2 0 v0) 2 1 v1))) ++ wN3 ad3 cy3 ((zsi zS0 3 1 v0))) ++ wN4 ad4 cy4 σN4)) (fun w h => List.mem_cons_of_mem _ (inlX11 w h)) tyX11_ok nmX11 0 rfl rfl 4 (by decide) (List.mem_cons_of_mem _ zw2_10) rfl rfl rfl rfl (Nat.le_of_ble_eq_true rfl) rfl dX11_init_85 (fun H locs hI => ?_)
  refine lv_aload_n hx hb dX11_init_88 rfl (lv_at hl 0 rfl) ?_
  refine z_new (ci := 12) hC hI (fun w h => List.mem_cons_of_mem _ (inlX10 w h)) tyX10_ok (List.mem_cons_of_mem _ zw2_11) (List.mem_cons_of_mem _ zw2_12) (List.mem_cons_of_mem _ zw2_13) rfl [.null, .null, .int 0, .int 0, .int 0, .int 0, .long 0, .long 0] (fun j hj => by rcases (show j = 0 ∨ j = 1 ∨ j = 2 ∨ j = 3 ∨ j = 4 ∨ j = 5 ∨ j = 6 ∨ j = 7 by omega) with rfl | rfl | rfl | rfl | rfl | rfl | rfl | rfl <;> rfl) (Nat.le_of_ble_eq_true rfl) (Nat.le_of_ble_eq_true rfl) dX11_init_89 (fun q5 H hI => ?_)
  have hI : zI st D (((tN1 cy1 ++ tN2 cy2) ++ tN3 cy3) ++ tN4 cy4) ((((([(h0, .inr (13, [.int v0, .ref (ad1 1), .ref (ad2 2), .ref (ad3 3), .ref (ad4 4), .null, .null, .null, .null, .null, .null, .int 0]))] ++ wN1 ad1 cy1 ((zsi (zsi (zsi (zsi (zsi (zsi zS0 1 1 1) 1 7 (-1)) 19 0 0) 19 1 1) 19 2 2) 19 3 0))) ++ wN2 ad2 cy2 ((zsi (zsi zS0 2 0 v0) 2 1 v1))) ++ wN3 ad3 cy3 ((zsi zS0 3 1 v0))) ++ wN4 ad4 cy4 σN4) ++ [(q5, .inr (12, [.null, .null, .int 0, .int 0, .int 0, .int 0, .long 0, .long 0]))]) A s H _ := hI
  refine lv_dup hx hb dX11_init_92 rfl ?_
  refine z_callI (As := []) (rest := [.ref q5, .ref h0]) hC hI (cX10_init_met st l D q5   σN5 hfN5) (zgI zw6_2) rfl rfl rfl (List.mem_cons_of_mem _ zw2_13) (List.mem_cons_of_mem _ zw6_0) (List.mem_cons_of_mem _ zw6_1) rfl 0 hdX10_init ⟨Nat.le_of_ble_eq_true rfl, Nat.le_of_ble_eq_true rfl⟩ rfl hl rfl (Nat.le_of_ble_eq_true rfl) dX11_init_93 ⟨Nat.le_of_ble_eq_true rfl, Nat.le_of_ble_eq_true rfl⟩ (fun ad5 cy5 H locs hex hI2 => ?_)
  have hq5 : q5 = ad5 5 := hex
  subst hq5
  have hI : zI st D ((((tN1 cy1 ++ tN2 cy2) ++ tN3 cy3) ++ tN4 cy4) ++ tN5 cy5) ((((([(h0, .inr (13, [.int v0, .ref (ad1 1), .ref (ad2 2), .ref (ad3 3), .ref (ad4 4), .null, .null, .null, .null, .null, .null, .int 0]))] ++ wN1 ad1 cy1 ((zsi (zsi (zsi (zsi (zsi (zsi zS0 1 1 1) 1 7 (-1)) 19 0 0) 19 1 1) 19 2 2) 19 3 0))) ++ wN2 ad2 cy2 ((zsi (zsi zS0 2 0 v0) 2 1 v1))) ++ wN3 ad3 cy3 ((zsi zS0 3 1 v0))) ++ wN4 ad4 cy4 σN4) ++ wN5 ad5 cy5 σN5) A s H _ := hI2
  refine z_putF hC hnm hI (w1 := ((((([(h0, .inr (13, [.int v0, .ref (ad1 1), .ref (ad2 2), .ref (ad3 3), .ref (ad4 4), .ref (ad5 5), .null, .null, .null, .null, .null, .int 0]))] ++ wN1 ad1 cy1 ((zsi (zsi (zsi (zsi (zsi (zsi zS0 1 1 1) 1 7 (-1)) 19 0 0) 19 1 1) 19 2 2) 19 3 0))) ++ wN2 ad2 cy2 ((zsi (zsi zS0 2 0 v0) 2 1 v1))) ++ wN3 ad3 cy3 ((zsi zS0 3 1 v0))) ++ wN4 ad4 cy4 σN4) ++ wN5 ad5 cy5 σN5)) (fun w h => List.mem_cons_of_mem _ (inlX11 w h)) tyX11_ok nmX11 0 rfl rfl 5 (by decide) (List.mem_cons_of_mem _ zw2_14) rfl rfl rfl rfl (Nat.le_of_ble_eq_true rfl) rfl dX11_init_96 (fun H locs hI => ?_)
  refine lv_aload_n hx hb dX11_init_99 rfl (lv_at hl 0 rfl) ?_
  refine z_new (ci := 6) hC hI (fun w h => List.mem_cons_of_mem _ (inlX4 w h)) tyX4_ok (List.mem_cons_of_mem _ zw2_15) (List.mem_cons_of_mem _ zw2_16) (List.mem_cons_of_mem _ zw2_17) rfl [.int 0, .null, .null, .null, .null, .null] (fun j hj => by rcases (show j = 0 ∨ j = 1 ∨ j = 2 ∨ j = 3 ∨ j = 4 ∨ j = 5 by omega) with rfl | rfl | rfl | rfl | rfl | rfl <;> rfl) (Nat.le_of_ble_eq_true rfl) (Nat.le_of_ble_eq_true rfl) dX11_init_100 (fun q6 H hI => ?_)
  have hI : zI st D ((((tN1 cy1 ++ tN2 cy2) ++ tN3 cy3) ++ tN4 cy4) ++ tN5 cy5) (((((([(h0, .inr (13, [.int v0, .ref (ad1 1), .ref (ad2 2), .ref (ad3 3), .ref (ad4 4), .ref (ad5 5), .null, .null, .null, .null, .null, .int 0]))] ++ wN1 ad1 cy1 ((zsi (zsi (zsi (zsi (zsi (zsi zS0 1 1 1) 1 7 (-1)) 19 0 0) 19 1 1) 19 2 2) 19 3 0))) ++ wN2 ad2 cy2 ((zsi (zsi zS0 2 0 v0) 2 1 v1))) ++ wN3 ad3 cy3 ((zsi zS0 3 1 v0))) ++ wN4 ad4 cy4 σN4) ++ wN5 ad5 cy5 σN5) ++ [(q6, .inr (6, [.int 0, .null, .null, .null, .null, .null]))]) A s H _ := hI
  refine lv_dup hx hb dX11_init_103 rfl ?_
  refine lv_aload_n hx hb dX11_init_104 rfl (lv_at hl 0 rfl) ?_
  refine z_get (v := .int v0) hC hI (fun w h => List.mem_cons_of_mem _ (inlX11 w h)) 0 rfl rfl 0 (by decide) (List.mem_cons_of_mem _ zw1_18) rfl dX11_init_105 ?_
  refine lv_aload_n hx hb dX11_init_108 rfl (lv_at hl 0 rfl) ?_
  refine z_get (v := .ref (ad2 2)) hC hI (fun w h => List.mem_cons_of_mem _ (inlX11 w h)) 0 rfl rfl 2 (by decide) (List.mem_cons_of_mem _ zw2_2) rfl dX11_init_109 ?_
  refine lv_aload_n hx hb dX11_init_112 rfl (lv_at hl 0 rfl) ?_
  refine z_get (v := .ref (ad4 4)) hC hI (fun w h => List.mem_cons_of_mem _ (inlX11 w h)) 0 rfl rfl 4 (by decide) (List.mem_cons_of_mem _ zw2_10) rfl dX11_init_113 ?_
  refine lv_aload_n hx hb dX11_init_116 rfl (lv_at hl 0 rfl) ?_
  refine z_get (v := .ref (ad5 5)) hC hI (fun w h => List.mem_cons_of_mem _ (inlX11 w h)) 0 rfl rfl 5 (by decide) (List.mem_cons_of_mem _ zw2_14) rfl dX11_init_117 ?_
  refine z_callI (As := [.int v0, .ref ((ad2 2)), .ref ((ad4 4)), .ref ((ad5 5))]) (rest := [.ref q6, .ref h0]) hC hI (cX4_init_met st l D q6 v0 ((ad2 2)) ((ad4 4)) ((ad5 5)) hz0 (σN6 v0) (hfN6 v0)) (zgI zw6_13) rfl rfl rfl (List.mem_cons_of_mem _ zw2_17) (List.mem_cons_of_mem _ zw6_11) (List.mem_cons_of_mem _ zw6_12) rfl 4 hdX4_init ⟨Nat.le_of_ble_eq_true rfl, Nat.le_of_ble_eq_true rfl⟩ rfl hl rfl (Nat.le_of_ble_eq_true rfl) dX11_init_120 ⟨Nat.le_of_ble_eq_true rfl, Nat.le_of_ble_eq_true rfl⟩ (fun ad6 cy6 H locs hex hI2 => ?_)
  obtain ⟨hq6, hx6_2, hx6_4, hx6_5⟩ := hex
  subst hq6
  have hI : zI st D (((((tN1 cy1 ++ tN2 cy2) ++ tN3 cy3) ++ tN4 cy4) ++ tN5 cy5) ++ tN6 cy6) (((((([(h0, .inr (13, [.int v0, .ref (ad1 1), .ref (ad2 2), .ref (ad3 3), .ref (ad4 4), .ref (ad5 5), .null, .null, .null, .null, .null, .int 0]))] ++ wN1 ad1 cy1 ((zsi (zsi (zsi (zsi (zsi (zsi zS0 1 1 1) 1 7 (-1)) 19 0 0) 19 1 1) 19 2 2) 19 3 0))) ++ wN2 ad2 cy2 ((zsi (zsi zS0 2 0 v0) 2 1 v1))) ++ wN3 ad3 cy3 ((zsi zS0 3 1 v0))) ++ wN4 ad4 cy4 σN4) ++ wN5 ad5 cy5 σN5) ++ wN6 ad6 cy6 (σN6 v0)) A s H _ := hI2
  refine z_putF hC hnm hI (w1 := (((((([(h0, .inr (13, [.int v0, .ref (ad1 1), .ref (ad2 2), .ref (ad3 3), .ref (ad4 4), .ref (ad5 5), .ref (ad6 6), .null, .null, .null, .null, .int 0]))] ++ wN1 ad1 cy1 ((zsi (zsi (zsi (zsi (zsi (zsi zS0 1 1 1) 1 7 (-1)) 19 0 0) 19 1 1) 19 2 2) 19 3 0))) ++ wN2 ad2 cy2 ((zsi (zsi zS0 2 0 v0) 2 1 v1))) ++ wN3 ad3 cy3 ((zsi zS0 3 1 v0))) ++ wN4 ad4 cy4 σN4) ++ wN5 ad5 cy5 σN5) ++ wN6 ad6 cy6 (σN6 v0))) (fun w h => List.mem_cons_of_mem _ (inlX11 w h)) tyX11_ok nmX11 0 rfl rfl 6 (by decide) (List.mem_cons_of_mem _ zw2_18) rfl rfl rfl rfl (Nat.le_of_ble_eq_true rfl) rfl dX11_init_123 (fun H locs hI => ?_)
  refine lv_aload_n hx hb dX11_init_126 rfl (lv_at hl 0 rfl) ?_
  refine z_new (ci := 7) hC hI (fun w h => List.mem_cons_of_mem _ (inlX5 w h)) tyX5_ok (List.mem_cons_of_mem _ zw2_19) (List.mem_cons_of_mem _ zw2_20) (List.mem_cons_of_mem _ zw2_21) rfl [.null, .null, .null, .null, .int 0, .int 0] (fun j hj => by rcases (show j = 0 ∨ j = 1 ∨ j = 2 ∨ j = 3 ∨ j = 4 ∨ j = 5 by omega) with rfl | rfl | rfl | rfl | rfl | rfl <;> rfl) (Nat.le_of_ble_eq_true rfl) (Nat.le_of_ble_eq_true rfl) dX11_init_127 (fun q7 H hI => ?_)
  have hI : zI st D (((((tN1 cy1 ++ tN2 cy2) ++ tN3 cy3) ++ tN4 cy4) ++ tN5 cy5) ++ tN6 cy6) ((((((([(h0, .inr (13, [.int v0, .ref (ad1 1), .ref (ad2 2), .ref (ad3 3), .ref (ad4 4), .ref (ad5 5), .ref (ad6 6), .null, .null, .null, .null, .int 0]))] ++ wN1 ad1 cy1 ((zsi (zsi (zsi (zsi (zsi (zsi zS0 1 1 1) 1 7 (-1)) 19 0 0) 19 1 1) 19 2 2) 19 3 0))) ++ wN2 ad2 cy2 ((zsi (zsi zS0 2 0 v0) 2 1 v1))) ++ wN3 ad3 cy3 ((zsi zS0 3 1 v0))) ++ wN4 ad4 cy4 σN4) ++ wN5 ad5 cy5 σN5) ++ wN6 ad6 cy6 (σN6 v0)) ++ [(q7, .inr (7, [.null, .null, .null, .null, .int 0, .int 0]))]) A s H _ := hI
  refine lv_dup hx hb dX11_init_130 rfl ?_
  refine lv_aload_n hx hb dX11_init_131 rfl (lv_at hl 0 rfl) ?_
  refine z_get (v := .ref (ad1 1)) hC hI (fun w h => List.mem_cons_of_mem _ (inlX11 w h)) 0 rfl rfl 1 (by decide) (List.mem_cons_of_mem _ zw1_22) rfl dX11_init_132 ?_
  refine lv_aload_n hx hb dX11_init_135 rfl (lv_at hl 0 rfl) ?_
  refine z_get (v := .ref (ad6 6)) hC hI (fun w h => List.mem_cons_of_mem _ (inlX11 w h)) 0 rfl rfl 6 (by decide) (List.mem_cons_of_mem _ zw2_18) rfl dX11_init_136 ?_
  refine z_callI (As := [.ref ((ad1 1)), .ref ((ad6 6))]) (rest := [.ref q7, .ref h0]) hC hI (cX5_init_met st l D q7 ((ad1 1)) ((ad6 6)) ) (zgI zw7_3) rfl rfl rfl (List.mem_cons_of_mem _ zw2_21) (List.mem_cons_of_mem _ zw7_1) (List.mem_cons_of_mem _ zw7_2) rfl 2 hdX5_init ⟨Nat.le_of_ble_eq_true rfl, Nat.le_of_ble_eq_true rfl⟩ rfl hl rfl (Nat.le_of_ble_eq_true rfl) dX11_init_139 ⟨Nat.le_of_ble_eq_true rfl, Nat.le_of_ble_eq_true rfl⟩ (fun ad7 cy7 H locs hex hI2 => ?_)
  obtain ⟨hq7, hx7_1, hx7_6⟩ := hex
  subst hq7
  have hI : zI st D ((((((tN1 cy1 ++ tN2 cy2) ++ tN3 cy3) ++ tN4 cy4) ++ tN5 cy5) ++ tN6 cy6) ++ tN7 cy7) ((((((([(h0, .inr (13, [.int v0, .ref (ad1 1), .ref (ad2 2), .ref (ad3 3), .ref (ad4 4), .ref (ad5 5), .ref (ad6 6), .null, .null, .null, .null, .int 0]))] ++ wN1 ad1 cy1 ((zsi (zsi (zsi (zsi (zsi (zsi zS0 1 1 1) 1 7 (-1)) 19 0 0) 19 1 1) 19 2 2) 19 3 0))) ++ wN2 ad2 cy2 ((zsi (zsi zS0 2 0 v0) 2 1 v1))) ++ wN3 ad3 cy3 ((zsi zS0 3 1 v0))) ++ wN4 ad4 cy4 σN4) ++ wN5 ad5 cy5 σN5) ++ wN6 ad6 cy6 (σN6 v0)) ++ wN7 ad7 cy7 ((zsi (zsi zS0 7 4 6) 36 18 57328))) A s H _ := hI2
  refine z_putF hC hnm hI (w1 := ((((((([(h0, .inr (13, [.int v0, .ref (ad1 1), .ref (ad2 2), .ref (ad3 3), .ref (ad4 4), .ref (ad5 5), .ref (ad6 6), .ref (ad7 7), .null, .null, .null, .int 0]))] ++ wN1 ad1 cy1 ((zsi (zsi (zsi (zsi (zsi (zsi zS0 1 1 1) 1 7 (-1)) 19 0 0) 19 1 1) 19 2 2) 19 3 0))) ++ wN2 ad2 cy2 ((zsi (zsi zS0 2 0 v0) 2 1 v1))) ++ wN3 ad3 cy3 ((zsi zS0 3 1 v0))) ++ wN4 ad4 cy4 σN4) ++ wN5 ad5 cy5 σN5) ++ wN6 ad6 cy6 (σN6 v0)) ++ wN7 ad7 cy7 ((zsi (zsi zS0 7 4 6) 36 18 57328)))) (fun w h => List.mem_cons_of_mem _ (inlX11 w h)) tyX11_ok nmX11 0 rfl rfl 7 (by decide) (List.mem_cons_of_mem _ zw2_22) rfl rfl rfl rfl (Nat.le_of_ble_eq_true rfl) rfl dX11_init_142 (fun H locs hI => ?_)
  refine lv_aload_n hx hb dX11_init_145 rfl (lv_at hl 0 rfl) ?_
  refine z_new (ci := 2) hC hI (fun w h => List.mem_cons_of_mem _ (inlX0 w h)) tyX0_ok (List.mem_cons_of_mem _ zw2_23) (List.mem_cons_of_mem _ zw3_0) (List.mem_cons_of_mem _ zw3_1) rfl [.null, .null, .null, .null, .null, .null] (fun j hj => by rcases (show j = 0 ∨ j = 1 ∨ j = 2 ∨ j = 3 ∨ j = 4 ∨ j = 5 by omega) with rfl | rfl | rfl | rfl | rfl | rfl <;> rfl) (Nat.le_of_ble_eq_true rfl) (Nat.le_of_ble_eq_true rfl) dX11_init_146 (fun q8 H hI => ?_)
  have hI : zI st D ((((((tN1 cy1 ++ tN2 cy2) ++ tN3 cy3) ++ tN4 cy4) ++ tN5 cy5) ++ tN6 cy6) ++ tN7 cy7) (((((((([(h0, .inr (13, [.int v0, .ref (ad1 1), .ref (ad2 2), .ref (ad3 3), .ref (ad4 4), .ref (ad5 5), .ref (ad6 6), .ref (ad7 7), .null, .null, .null, .int 0]))] ++ wN1 ad1 cy1 ((zsi (zsi (zsi (zsi (zsi (zsi zS0 1 1 1) 1 7 (-1)) 19 0 0) 19 1 1) 19 2 2) 19 3 0))) ++ wN2 ad2 cy2 ((zsi (zsi zS0 2 0 v0) 2 1 v1))) ++ wN3 ad3 cy3 ((zsi zS0 3 1 v0))) ++ wN4 ad4 cy4 σN4) ++ wN5 ad5 cy5 σN5) ++ wN6 ad6 cy6 (σN6 v0)) ++ wN7 ad7 cy7 ((zsi (zsi zS0 7 4 6) 36 18 57328))) ++ [(q8, .inr (2, [.null, .null, .null, .null, .null, .null]))]) A s H _ := hI
  refine lv_dup hx hb dX11_init_149 rfl ?_
  refine lv_aload_n hx hb dX11_init_150 rfl (lv_at hl 0 rfl) ?_
  refine z_get (v := .ref (ad4 4)) hC hI (fun w h => List.mem_cons_of_mem _ (inlX11 w h)) 0 rfl rfl 4 (by decide) (List.mem_cons_of_mem _ zw2_10) rfl dX11_init_151 ?_
  refine lv_aload_n hx hb dX11_init_154 rfl (lv_at hl 0 rfl) ?_
  refine z_get (v := .ref (ad5 5)) hC hI (fun w h => List.mem_cons_of_mem _ (inlX11 w h)) 0 rfl rfl 5 (by decide) (List.mem_cons_of_mem _ zw2_14) rfl dX11_init_155 ?_
  refine z_callI (As := [.ref ((ad4 4)), .ref ((ad5 5))]) (rest := [.ref q8, .ref h0]) hC hI (cX0_init_met st l D q8 ((ad4 4)) ((ad5 5)) ) (zgI zw7_13) rfl rfl rfl (List.mem_cons_of_mem _ zw3_1) (List.mem_cons_of_mem _ zw7_11) (List.mem_cons_of_mem _ zw7_12) rfl 2 hdX0_init ⟨Nat.le_of_ble_eq_true rfl, Nat.le_of_ble_eq_true rfl⟩ rfl hl rfl (Nat.le_of_ble_eq_true rfl) dX11_init_158 ⟨Nat.le_of_ble_eq_true rfl, Nat.le_of_ble_eq_true rfl⟩ (fun ad8 cy8 H locs hex hI2 => ?_)
  obtain ⟨hq8, hx8_4, hx8_5⟩ := hex
  subst hq8
  have hI : zI st D (((((((tN1 cy1 ++ tN2 cy2) ++ tN3 cy3) ++ tN4 cy4) ++ tN5 cy5) ++ tN6 cy6) ++ tN7 cy7) ++ tN8 cy8) (((((((([(h0, .inr (13, [.int v0, .ref (ad1 1), .ref (ad2 2), .ref (ad3 3), .ref (ad4 4), .ref (ad5 5), .ref (ad6 6), .ref (ad7 7), .null, .null, .null, .int 0]))] ++ wN1 ad1 cy1 ((zsi (zsi (zsi (zsi (zsi (zsi zS0 1 1 1) 1 7 (-1)) 19 0 0) 19 1 1) 19 2 2) 19 3 0))) ++ wN2 ad2 cy2 ((zsi (zsi zS0 2 0 v0) 2 1 v1))) ++ wN3 ad3 cy3 ((zsi zS0 3 1 v0))) ++ wN4 ad4 cy4 σN4) ++ wN5 ad5 cy5 σN5) ++ wN6 ad6 cy6 (σN6 v0)) ++ wN7 ad7 cy7 ((zsi (zsi zS0 7 4 6) 36 18 57328))) ++ wN8 ad8 cy8 zS0) A s H _ := hI2
  refine z_putF hC hnm hI (w1 := (((((((([(h0, .inr (13, [.int v0, .ref (ad1 1), .ref (ad2 2), .ref (ad3 3), .ref (ad4 4), .ref (ad5 5), .ref (ad6 6), .ref (ad7 7), .ref (ad8 8), .null, .null, .int 0]))] ++ wN1 ad1 cy1 ((zsi (zsi (zsi (zsi (zsi (zsi zS0 1 1 1) 1 7 (-1)) 19 0 0) 19 1 1) 19 2 2) 19 3 0))) ++ wN2 ad2 cy2 ((zsi (zsi zS0 2 0 v0) 2 1 v1))) ++ wN3 ad3 cy3 ((zsi zS0 3 1 v0))) ++ wN4 ad4 cy4 σN4) ++ wN5 ad5 cy5 σN5) ++ wN6 ad6 cy6 (σN6 v0)) ++ wN7 ad7 cy7 ((zsi (zsi zS0 7 4 6) 36 18 57328))) ++ wN8 ad8 cy8 zS0)) (fun w h => List.mem_cons_of_mem _ (inlX11 w h)) tyX11_ok nmX11 0 rfl rfl 8 (by decide) (List.mem_cons_of_mem _ zw3_2) rfl rfl rfl rfl (Nat.le_of_ble_eq_true rfl) rfl dX11_init_161 (fun H locs hI => ?_)
  refine lv_aload_n hx hb dX11_init_164 rfl (lv_at hl 0 rfl) ?_
  refine z_new (ci := 3) hC hI (fun w h => List.mem_cons_of_mem _ (inlX1 w h)) tyX1_ok (List.mem_cons_of_mem _ zw3_3) (List.mem_cons_of_mem _ zw3_4) (List.mem_cons_of_mem _ zw3_5) rfl [.null, .null, .null, .null, .null, .int 0] (fun j hj => by rcases (show j = 0 ∨ j = 1 ∨ j = 2 ∨ j = 3 ∨ j = 4 ∨ j = 5 by omega) with rfl | rfl | rfl | rfl | rfl | rfl <;> rfl) (Nat.le_of_ble_eq_true rfl) (Nat.le_of_ble_eq_true rfl) dX11_init_165 (fun q9 H hI => ?_)
  have hI : zI st D (((((((tN1 cy1 ++ tN2 cy2) ++ tN3 cy3) ++ tN4 cy4) ++ tN5 cy5) ++ tN6 cy6) ++ tN7 cy7) ++ tN8 cy8) ((((((((([(h0, .inr (13, [.int v0, .ref (ad1 1), .ref (ad2 2), .ref (ad3 3), .ref (ad4 4), .ref (ad5 5), .ref (ad6 6), .ref (ad7 7), .ref (ad8 8), .null, .null, .int 0]))] ++ wN1 ad1 cy1 ((zsi (zsi (zsi (zsi (zsi (zsi zS0 1 1 1) 1 7 (-1)) 19 0 0) 19 1 1) 19 2 2) 19 3 0))) ++ wN2 ad2 cy2 ((zsi (zsi zS0 2 0 v0) 2 1 v1))) ++ wN3 ad3 cy3 ((zsi zS0 3 1 v0))) ++ wN4 ad4 cy4 σN4) ++ wN5 ad5 cy5 σN5) ++ wN6 ad6 cy6 (σN6 v0)) ++ wN7 ad7 cy7 ((zsi (zsi zS0 7 4 6) 36 18 57328))) ++ wN8 ad8 cy8 zS0) ++ [(q9, .inr (3, [.null, .null, .null, .null, .null, .int 0]))]) A s H _ := hI
  refine lv_dup hx hb dX11_init_168 rfl ?_
  refine z_callI (As := []) (rest := [.ref q9, .ref h0]) hC hI (cX1_init_met st l D q9   σN9 hfN9) (zgI zw8_7) rfl rfl rfl (List.mem_cons_of_mem _ zw3_5) (List.mem_cons_of_mem _ zw8_5) (List.mem_cons_of_mem _ zw8_6) rfl 0 hdX1_init ⟨Nat.le_of_ble_eq_true rfl, Nat.le_of_ble_eq_true rfl⟩ rfl hl rfl (Nat.le_of_ble_eq_true rfl) dX11_init_169 ⟨Nat.le_of_ble_eq_true rfl, Nat.le_of_ble_eq_true rfl⟩ (fun ad9 cy9 H locs hex hI2 => ?_)
  have hq9 : q9 = ad9 9 := hex
  subst hq9
  have hI : zI st D ((((((((tN1 cy1 ++ tN2 cy2) ++ tN3 cy3) ++ tN4 cy4) ++ tN5 cy5) ++ tN6 cy6) ++ tN7 cy7) ++ tN8 cy8) ++ tN9 cy9) ((((((((([(h0, .inr (13, [.int v0, .ref (ad1 1), .ref (ad2 2), .ref (ad3 3), .ref (ad4 4), .ref (ad5 5), .ref (ad6 6), .ref (ad7 7), .ref (ad8 8), .null, .null, .int 0]))] ++ wN1 ad1 cy1 ((zsi (zsi (zsi (zsi (zsi (zsi zS0 1 1 1) 1 7 (-1)) 19 0 0) 19 1 1) 19 2 2) 19 3 0))) ++ wN2 ad2 cy2 ((zsi (zsi zS0 2 0 v0) 2 1 v1))) ++ wN3 ad3 cy3 ((zsi zS0 3 1 v0))) ++ wN4 ad4 cy4 σN4) ++ wN5 ad5 cy5 σN5) ++ wN6 ad6 cy6 (σN6 v0)) ++ wN7 ad7 cy7 ((zsi (zsi zS0 7 4 6) 36 18 57328))) ++ wN8 ad8 cy8 zS0) ++ wN9 ad9 cy9 σN9) A s H _ := hI2
  refine z_putF hC hnm hI (w1 := ((((((((([(h0, .inr (13, [.int v0, .ref (ad1 1), .ref (ad2 2), .ref (ad3 3), .ref (ad4 4), .ref (ad5 5), .ref (ad6 6), .ref (ad7 7), .ref (ad8 8), .ref (ad9 9), .null, .int 0]))] ++ wN1 ad1 cy1 ((zsi (zsi (zsi (zsi (zsi (zsi zS0 1 1 1) 1 7 (-1)) 19 0 0) 19 1 1) 19 2 2) 19 3 0))) ++ wN2 ad2 cy2 ((zsi (zsi zS0 2 0 v0) 2 1 v1))) ++ wN3 ad3 cy3 ((zsi zS0 3 1 v0))) ++ wN4 ad4 cy4 σN4) ++ wN5 ad5 cy5 σN5) ++ wN6 ad6 cy6 (σN6 v0)) ++ wN7 ad7 cy7 ((zsi (zsi zS0 7 4 6) 36 18 57328))) ++ wN8 ad8 cy8 zS0) ++ wN9 ad9 cy9 σN9)) (fun w h => List.mem_cons_of_mem _ (inlX11 w h)) tyX11_ok nmX11 0 rfl rfl 9 (by decide) (List.mem_cons_of_mem _ zw3_6) rfl rfl rfl rfl (Nat.le_of_ble_eq_true rfl) rfl dX11_init_172 (fun H locs hI => ?_)
  refine lv_aload_n hx hb dX11_init_175 rfl (lv_at hl 0 rfl) ?_
  refine z_new (ci := 10) hC hI (fun w h => List.mem_cons_of_mem _ (inlX8 w h)) tyX8_ok (List.mem_cons_of_mem _ zw3_7) (List.mem_cons_of_mem _ zw3_8) (List.mem_cons_of_mem _ zw3_9) rfl [.null, .null, .int 0, .int 0, .int 0, .int 0, .int 0, .int 0, .int 0, .int 0, .int 0] (fun j hj => by rcases (show j = 0 ∨ j = 1 ∨ j = 2 ∨ j = 3 ∨ j = 4 ∨ j = 5 ∨ j = 6 ∨ j = 7 ∨ j = 8 ∨ j = 9 ∨ j = 10 by omega) with rfl | rfl | rfl | rfl | rfl | rfl | rfl | rfl | rfl | rfl | rfl <;> rfl) (Nat.le_of_ble_eq_true rfl) (Nat.le_of_ble_eq_true rfl) dX11_init_176 (fun q10 H hI => ?_)
  have hI : zI st D ((((((((tN1 cy1 ++ tN2 cy2) ++ tN3 cy3) ++ tN4 cy4) ++ tN5 cy5) ++ tN6 cy6) ++ tN7 cy7) ++ tN8 cy8) ++ tN9 cy9) (((((((((([(h0, .inr (13, [.int v0, .ref (ad1 1), .ref (ad2 2), .ref (ad3 3), .ref (ad4 4), .ref (ad5 5), .ref (ad6 6), .ref (ad7 7), .ref (ad8 8), .ref (ad9 9), .null, .int 0]))] ++ wN1 ad1 cy1 ((zsi (zsi (zsi (zsi (zsi (zsi zS0 1 1 1) 1 7 (-1)) 19 0 0) 19 1 1) 19 2 2) 19 3 0))) ++ wN2 ad2 cy2 ((zsi (zsi zS0 2 0 v0) 2 1 v1))) ++ wN3 ad3 cy3 ((zsi zS0 3 1 v0))) ++ wN4 ad4 cy4 σN4) ++ wN5 ad5 cy5 σN5) ++ wN6 ad6 cy6 (σN6 v0)) ++ wN7 ad7 cy7 ((zsi (zsi zS0 7 4 6) 36 18 57328))) ++ wN8 ad8 cy8 zS0) ++ wN9 ad9 cy9 σN9) ++ [(q10, .inr (10, [.null, .null, .int 0, .int 0, .int 0, .int 0, .int 0, .int 0, .int 0, .int 0, .int 0]))]) A s H _ := hI
  refine lv_dup hx hb dX11_init_179 rfl ?_
  refine lv_aload_n hx hb dX11_init_180 rfl (lv_at hl 0 rfl) ?_
  refine z_get (v := .ref (ad1 1)) hC hI (fun w h => List.mem_cons_of_mem _ (inlX11 w h)) 0 rfl rfl 1 (by decide) (List.mem_cons_of_mem _ zw1_22) rfl dX11_init_181 ?_
  refine z_callI (As := [.ref ((ad1 1))]) (rest := [.ref q10, .ref h0]) hC hI (cX8_init_met st l D q10 ((ad1 1)) ) (zgI zw8_17) rfl rfl rfl (List.mem_cons_of_mem _ zw3_9) (List.mem_cons_of_mem _ zw8_15) (List.mem_cons_of_mem _ zw8_16) rfl 1 hdX8_init ⟨Nat.le_of_ble_eq_true rfl, Nat.le_of_ble_eq_true rfl⟩ rfl hl rfl (Nat.le_of_ble_eq_true rfl) dX11_init_184 ⟨Nat.le_of_ble_eq_true rfl, Nat.le_of_ble_eq_true rfl⟩ (fun ad10 cy10 H locs hex hI2 => ?_)
  obtain ⟨hq10, hx10_1⟩ := hex
  subst hq10
  have hI : zI st D (((((((((tN1 cy1 ++ tN2 cy2) ++ tN3 cy3) ++ tN4 cy4) ++ tN5 cy5) ++ tN6 cy6) ++ tN7 cy7) ++ tN8 cy8) ++ tN9 cy9) ++ tN10 cy10) (((((((((([(h0, .inr (13, [.int v0, .ref (ad1 1), .ref (ad2 2), .ref (ad3 3), .ref (ad4 4), .ref (ad5 5), .ref (ad6 6), .ref (ad7 7), .ref (ad8 8), .ref (ad9 9), .null, .int 0]))] ++ wN1 ad1 cy1 ((zsi (zsi (zsi (zsi (zsi (zsi zS0 1 1 1) 1 7 (-1)) 19 0 0) 19 1 1) 19 2 2) 19 3 0))) ++ wN2 ad2 cy2 ((zsi (zsi zS0 2 0 v0) 2 1 v1))) ++ wN3 ad3 cy3 ((zsi zS0 3 1 v0))) ++ wN4 ad4 cy4 σN4) ++ wN5 ad5 cy5 σN5) ++ wN6 ad6 cy6 (σN6 v0)) ++ wN7 ad7 cy7 ((zsi (zsi zS0 7 4 6) 36 18 57328))) ++ wN8 ad8 cy8 zS0) ++ wN9 ad9 cy9 σN9) ++ wN10 ad10 cy10 zS0) A s H _ := hI2
  refine z_putF hC hnm hI (w1 := (((((((((([(h0, .inr (13, [.int v0, .ref (ad1 1), .ref (ad2 2), .ref (ad3 3), .ref (ad4 4), .ref (ad5 5), .ref (ad6 6), .ref (ad7 7), .ref (ad8 8), .ref (ad9 9), .ref (ad10 10), .int 0]))] ++ wN1 ad1 cy1 ((zsi (zsi (zsi (zsi (zsi (zsi zS0 1 1 1) 1 7 (-1)) 19 0 0) 19 1 1) 19 2 2) 19 3 0))) ++ wN2 ad2 cy2 ((zsi (zsi zS0 2 0 v0) 2 1 v1))) ++ wN3 ad3 cy3 ((zsi zS0 3 1 v0))) ++ wN4 ad4 cy4 σN4) ++ wN5 ad5 cy5 σN5) ++ wN6 ad6 cy6 (σN6 v0)) ++ wN7 ad7 cy7 ((zsi (zsi zS0 7 4 6) 36 18 57328))) ++ wN8 ad8 cy8 zS0) ++ wN9 ad9 cy9 σN9) ++ wN10 ad10 cy10 zS0)) (fun w h => List.mem_cons_of_mem _ (inlX11 w h)) tyX11_ok nmX11 0 rfl rfl 10 (by decide) (List.mem_cons_of_mem _ zw3_10) rfl rfl rfl rfl (Nat.le_of_ble_eq_true rfl) rfl dX11_init_187 (fun H locs hI => ?_)
  simp only [wN3, wCf3, wN6, wCf6, wN7, wCf7, wN8, wCf8, wN10, wCf10, ← hx3_2, ← hx6_2, ← hx6_4, ← hx6_5, ← hx7_1, ← hx7_6, ← hx8_4, ← hx8_5, ← hx10_1] at hI
  obtain ⟨ad, had⟩ : ∃ f : Nat → Nat, f = (fun j => bif Nat.beq j 0 then h0 else bif Nat.beq j 1 then ad1 1 else bif Nat.beq j 13 then ad1 13 else bif Nat.beq j 14 then ad1 14 else bif Nat.beq j 15 then ad1 15 else bif Nat.beq j 16 then ad1 16 else bif Nat.beq j 17 then ad1 17 else bif Nat.beq j 18 then ad1 18 else bif Nat.beq j 19 then ad1 19 else bif Nat.beq j 20 then ad1 20 else bif Nat.beq j 2 then ad2 2 else bif Nat.beq j 21 then ad2 21 else bif Nat.beq j 22 then ad2 22 else bif Nat.beq j 23 then ad2 23 else bif Nat.beq j 24 then ad2 24 else bif Nat.beq j 3 then ad3 3 else bif Nat.beq j 25 then ad3 25 else bif Nat.beq j 26 then ad3 26 else bif Nat.beq j 27 then ad3 27 else bif Nat.beq j 28 then ad3 28 else bif Nat.beq j 29 then ad3 29 else bif Nat.beq j 4 then ad4 4 else bif Nat.beq j 30 then ad4 30 else bif Nat.beq j 31 then ad4 31 else bif Nat.beq j 5 then ad5 5 else bif Nat.beq j 32 then ad5 32 else bif Nat.beq j 33 then ad5 33 else bif Nat.beq j 6 then ad6 6 else bif Nat.beq j 34 then ad6 34 else bif Nat.beq j 35 then ad6 35 else bif Nat.beq j 7 then ad7 7 else bif Nat.beq j 36 then ad7 36 else bif Nat.beq j 37 then ad7 37 else bif Nat.beq j 8 then ad8 8 else bif Nat.beq j 11 then ad8 11 else bif Nat.beq j 46 then ad8 46 else bif Nat.beq j 47 then ad8 47 else bif Nat.beq j 12 then ad8 12 else bif Nat.beq j 48 then ad8 48 else bif Nat.beq j 49 then ad8 49 else bif Nat.beq j 38 then ad8 38 else bif Nat.beq j 39 then ad8 39 else bif Nat.beq j 9 then ad9 9 else bif Nat.beq j 40 then ad9 40 else bif Nat.beq j 41 then ad9 41 else bif Nat.beq j 42 then ad9 42 else bif Nat.beq j 43 then ad9 43 else bif Nat.beq j 44 then ad9 44 else bif Nat.beq j 10 then ad10 10 else bif Nat.beq j 45 then ad10 45 else 0) := ⟨_, rfl⟩
  obtain ⟨cy, hcy⟩ : ∃ f : Nat → ClassId, f = (fun j => bif Nat.beq j 13 then cy1 13 else bif Nat.beq j 14 then cy1 14 else bif Nat.beq j 15 then cy1 15 else bif Nat.beq j 16 then cy1 16 else bif Nat.beq j 17 then cy1 17 else bif Nat.beq j 18 then cy1 18 else bif Nat.beq j 19 then cy1 19 else bif Nat.beq j 20 then cy1 20 else bif Nat.beq j 21 then cy2 21 else bif Nat.beq j 22 then cy2 22 else bif Nat.beq j 23 then cy2 23 else bif Nat.beq j 24 then cy2 24 else bif Nat.beq j 25 then cy3 25 else bif Nat.beq j 26 then cy3 26 else bif Nat.beq j 27 then cy3 27 else bif Nat.beq j 28 then cy3 28 else bif Nat.beq j 29 then cy3 29 else bif Nat.beq j 30 then cy4 30 else bif Nat.beq j 31 then cy4 31 else bif Nat.beq j 32 then cy5 32 else bif Nat.beq j 33 then cy5 33 else bif Nat.beq j 34 then cy6 34 else bif Nat.beq j 35 then cy6 35 else bif Nat.beq j 36 then cy7 36 else bif Nat.beq j 37 then cy7 37 else bif Nat.beq j 46 then cy8 46 else bif Nat.beq j 47 then cy8 47 else bif Nat.beq j 48 then cy8 48 else bif Nat.beq j 49 then cy8 49 else bif Nat.beq j 38 then cy8 38 else bif Nat.beq j 39 then cy8 39 else bif Nat.beq j 40 then cy9 40 else bif Nat.beq j 41 then cy9 41 else bif Nat.beq j 42 then cy9 42 else bif Nat.beq j 43 then cy9 43 else bif Nat.beq j 44 then cy9 44 else bif Nat.beq j 45 then cy10 45 else 0) := ⟨_, rfl⟩
  have e0 : h0 = ad 0 := by rw [had]; rfl
  subst ev0
  subst ev1
  have hI9 : zI st D (tC cy) (wC ad cy (zC0 (zsi zS0 0 0 (if x1 = 2 then 1 else 0)) ((zsi (zsi (zsi (zsi (zsi (zsi zS0 1 1 1) 1 7 (-1)) 19 0 0) 19 1 1) 19 2 2) 19 3 0)) ((zsi (zsi zS0 2 0 (if x1 = 2 then 1 else 0)) 2 1 (if x1 = 1 then 313 else 262))) ((zsi zS0 3 1 (if x1 = 2 then 1 else 0))) σN4 σN5 (σN6 (if x1 = 2 then 1 else 0)) ((zsi (zsi zS0 7 4 6) 36 18 57328)) zS0 σN9 zS0)) A s H locs := by
    rw [had, hcy]
    exact ⟨hI.1.sub [0, 1, 2, 3, 4, 5, 6, 7, 8, 9, 10, 11, 12, 13, 14, 15, 16, 17, 18, 19, 20, 21, 22, 23, 24, 29, 30, 31, 32, 33, 34, 35, 36, 25, 26, 27, 28] rfl, hI.2.1.sub [0, 1, 10, 15, 21, 24, 27, 30, 33, 42, 48, 34, 37, 2, 3, 4, 5, 6, 7, 8, 9, 11, 12, 13, 14, 16, 17, 18, 19, 20, 22, 23, 25, 26, 28, 29, 31, 32, 40, 41, 43, 44, 45, 46, 47, 49, 35, 36, 38, 39] rfl, hI.2.2.1.sub [0, 1, 10, 15, 21, 24, 27, 30, 33, 42, 48, 34, 37, 2, 3, 4, 5, 6, 7, 8, 9, 11, 12, 13, 14, 16, 17, 18, 19, 20, 22, 23, 25, 26, 28, 29, 31, 32, 40, 41, 43, 44, 45, 46, 47, 49, 35, 36, 38, 39] (by decide) rfl, hI.2.2.2⟩
  exact z_nreturn0 (wn := fun ad cy => wC ad cy (zC0 (zsi zS0 0 0 (if x1 = 2 then 1 else 0)) ((zsi (zsi (zsi (zsi (zsi (zsi zS0 1 1 1) 1 7 (-1)) 19 0 0) 19 1 1) 19 2 2) 19 3 0)) ((zsi (zsi zS0 2 0 (if x1 = 2 then 1 else 0)) 2 1 (if x1 = 1 then 313 else 262))) ((zsi zS0 3 1 (if x1 = 2 then 1 else 0))) σN4 σN5 (σN6 (if x1 = 2 then 1 else 0)) ((zsi (zsi zS0 7 4 6) 36 18 57328)) zS0 σN9 zS0)) (tn := tC) (ex := fun f => h0 = f 0) hC ad cy hI9 e0 (Nat.le_refl _) (Nat.le_refl _) dX11_init_190
theorem hdX11_init : yX11_init.cls ≠ "java/lang/invoke/MethodHandle" ∧ yX11_init.cls ≠ "java/lang/invoke/VarHandle" ∧ (parseMethodDescriptor yX11_init.desc).map (fun d => d.parameters.length) = some 1 := by decide +kernel
