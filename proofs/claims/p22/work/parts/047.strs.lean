def wzJ0_coder_7d493 : List Cond := .code yJ0_coder_7d493 cJ0_coder_7d493 1 (some .byte) :: wsL_law
def wzJ0_isLatin1_aae02 : List Cond := .code yJ0_isLatin1_aae02 cJ0_isLatin1_aae02 1 (some .boolean) :: wsL_law
def wzJ0_length_8abf5 : List Cond := .code yJ0_length_8abf5 cJ0_length_8abf5 1 (some .int) :: wsL_law
def wzJ3_checkIndex_8e157 : List Cond := .code yJ3_checkIndex_8e157 cJ3_checkIndex_8e157 3 (some .int) :: wsL_law
def wzJ0_checkIndex_df160 : List Cond := .code yJ0_checkIndex_df160 cJ0_checkIndex_df160 2 none :: wsL_law
def wzJ1_charAt_3b067 : List Cond := .code yJ1_charAt_3b067 cJ1_charAt_3b067 2 (some .char) :: wsL_law
def wzJ0_charAt_5068e : List Cond := .code yJ0_charAt_5068e cJ0_charAt_5068e 2 (some .char) :: wsL_law
def kn_cJ0_length_8abf5 : Nat := 0xac7a4f01b62abe0900b42a
theorem zk_cJ0_length_8abf5 : zkd cJ0_length_8abf5.data.toList kn_cJ0_length_8abf5 = true := by decide +kernel
theorem zn_cJ0_length_8abf5 : cJ0_length_8abf5.data.toList.length = 11 := by decide +kernel
theorem dJ0_length_8abf5_0 : decode cJ0_length_8abf5 0 = .ok (.aload_n 0, 1) := zo_42 (zkb zk_cJ0_length_8abf5 zn_cJ0_length_8abf5 (by decide +kernel))
theorem dJ0_length_8abf5_1 : decode cJ0_length_8abf5 1 = .ok (.getfield 9, 3) := zo_180 (b1 := 0) (b2 := 9) (zkb3 zk_cJ0_length_8abf5 zn_cJ0_length_8abf5 (by decide +kernel)) rfl
theorem dJ0_length_8abf5_4 : decode cJ0_length_8abf5 4 = .ok (.arraylength, 1) := zo_190 (zkb zk_cJ0_length_8abf5 zn_cJ0_length_8abf5 (by decide +kernel))
theorem dJ0_length_8abf5_5 : decode cJ0_length_8abf5 5 = .ok (.aload_n 0, 1) := zo_42 (zkb zk_cJ0_length_8abf5 zn_cJ0_length_8abf5 (by decide +kernel))
theorem dJ0_length_8abf5_6 : decode cJ0_length_8abf5 6 = .ok (.invokevirtual 335, 3) := zo_182 (b1 := 1) (b2 := 79) (zkb3 zk_cJ0_length_8abf5 zn_cJ0_length_8abf5 (by decide +kernel)) rfl
theorem dJ0_length_8abf5_9 : decode cJ0_length_8abf5 9 = .ok (.ishr, 1) := zo_122 (zkb zk_cJ0_length_8abf5 zn_cJ0_length_8abf5 (by decide +kernel))
theorem dJ0_length_8abf5_10 : decode cJ0_length_8abf5 10 = .ok (.ireturn, 1) := zo_172 (zkb zk_cJ0_length_8abf5 zn_cJ0_length_8abf5 (by decide +kernel))
def kn_cJ0_charAt_5068e : Nat := 0xacf201b81b0900b42aacef01b81b0900b42a0c0099ec01b62a
theorem zk_cJ0_charAt_5068e : zkd cJ0_charAt_5068e.data.toList kn_cJ0_charAt_5068e = true := by decide +kernel
theorem zn_cJ0_charAt_5068e : cJ0_charAt_5068e.data.toList.length = 25 := by decide +kernel
theorem dJ0_charAt_5068e_0 : decode cJ0_charAt_5068e 0 = .ok (.aload_n 0, 1) := zo_42 (zkb zk_cJ0_charAt_5068e zn_cJ0_charAt_5068e (by decide +kernel))
theorem dJ0_charAt_5068e_1 : decode cJ0_charAt_5068e 1 = .ok (.invokevirtual 492, 3) := zo_182 (b1 := 1) (b2 := 236) (zkb3 zk_cJ0_charAt_5068e zn_cJ0_charAt_5068e (by decide +kernel)) rfl
theorem dJ0_charAt_5068e_4 : decode cJ0_charAt_5068e 4 = .ok (.ifCond .eq 12, 3) := zo_153 (b1 := 0) (b2 := 12) (zkb3 zk_cJ0_charAt_5068e zn_cJ0_charAt_5068e (by decide +kernel)) rfl
theorem dJ0_charAt_5068e_7 : decode cJ0_charAt_5068e 7 = .ok (.aload_n 0, 1) := zo_42 (zkb zk_cJ0_charAt_5068e zn_cJ0_charAt_5068e (by decide +kernel))
theorem dJ0_charAt_5068e_8 : decode cJ0_charAt_5068e 8 = .ok (.getfield 9, 3) := zo_180 (b1 := 0) (b2 := 9) (zkb3 zk_cJ0_charAt_5068e zn_cJ0_charAt_5068e (by decide +kernel)) rfl
theorem dJ0_charAt_5068e_11 : decode cJ0_charAt_5068e 11 = .ok (.iload_n 1, 1) := zo_27 (zkb zk_cJ0_charAt_5068e zn_cJ0_charAt_5068e (by decide +kernel))
theorem dJ0_charAt_5068e_12 : decode cJ0_charAt_5068e 12 = .ok (.invokestatic 495, 3) := zo_184 (b1 := 1) (b2 := 239) (zkb3 zk_cJ0_charAt_5068e zn_cJ0_charAt_5068e (by decide +kernel)) rfl
theorem dJ0_charAt_5068e_15 : decode cJ0_charAt_5068e 15 = .ok (.ireturn, 1) := zo_172 (zkb zk_cJ0_charAt_5068e zn_cJ0_charAt_5068e (by decide +kernel))
theorem dJ0_charAt_5068e_16 : decode cJ0_charAt_5068e 16 = .ok (.aload_n 0, 1) := zo_42 (zkb zk_cJ0_charAt_5068e zn_cJ0_charAt_5068e (by decide +kernel))
theorem dJ0_charAt_5068e_17 : decode cJ0_charAt_5068e 17 = .ok (.getfield 9, 3) := zo_180 (b1 := 0) (b2 := 9) (zkb3 zk_cJ0_charAt_5068e zn_cJ0_charAt_5068e (by decide +kernel)) rfl
theorem dJ0_charAt_5068e_20 : decode cJ0_charAt_5068e 20 = .ok (.iload_n 1, 1) := zo_27 (zkb zk_cJ0_charAt_5068e zn_cJ0_charAt_5068e (by decide +kernel))
theorem dJ0_charAt_5068e_21 : decode cJ0_charAt_5068e 21 = .ok (.invokestatic 498, 3) := zo_184 (b1 := 1) (b2 := 242) (zkb3 zk_cJ0_charAt_5068e zn_cJ0_charAt_5068e (by decide +kernel)) rfl
theorem dJ0_charAt_5068e_24 : decode cJ0_charAt_5068e 24 = .ok (.ireturn, 1) := zo_172 (zkb zk_cJ0_charAt_5068e zn_cJ0_charAt_5068e (by decide +kernel))
def kn_cJ0_coder_7d493 : Nat := 0xac040400a70f00b42a0a00992600b2
theorem zk_cJ0_coder_7d493 : zkd cJ0_coder_7d493.data.toList kn_cJ0_coder_7d493 = true := by decide +kernel
theorem zn_cJ0_coder_7d493 : cJ0_coder_7d493.data.toList.length = 15 := by decide +kernel
theorem dJ0_coder_7d493_0 : decode cJ0_coder_7d493 0 = .ok (.getstatic 38, 3) := zo_178 (b1 := 0) (b2 := 38) (zkb3 zk_cJ0_coder_7d493 zn_cJ0_coder_7d493 (by decide +kernel)) rfl
theorem dJ0_coder_7d493_3 : decode cJ0_coder_7d493 3 = .ok (.ifCond .eq 10, 3) := zo_153 (b1 := 0) (b2 := 10) (zkb3 zk_cJ0_coder_7d493 zn_cJ0_coder_7d493 (by decide +kernel)) rfl
theorem dJ0_coder_7d493_6 : decode cJ0_coder_7d493 6 = .ok (.aload_n 0, 1) := zo_42 (zkb zk_cJ0_coder_7d493 zn_cJ0_coder_7d493 (by decide +kernel))
theorem dJ0_coder_7d493_7 : decode cJ0_coder_7d493 7 = .ok (.getfield 15, 3) := zo_180 (b1 := 0) (b2 := 15) (zkb3 zk_cJ0_coder_7d493 zn_cJ0_coder_7d493 (by decide +kernel)) rfl
theorem dJ0_coder_7d493_10 : decode cJ0_coder_7d493 10 = .ok (.goto 4, 3) := zo_167 (b1 := 0) (b2 := 4) (zkb3 zk_cJ0_coder_7d493 zn_cJ0_coder_7d493 (by decide +kernel)) rfl
theorem dJ0_coder_7d493_13 : decode cJ0_coder_7d493 13 = .ok (.iconst 1, 1) := zo_4 (zkb zk_cJ0_coder_7d493 zn_cJ0_coder_7d493 (by decide +kernel))
theorem dJ0_coder_7d493_14 : decode cJ0_coder_7d493 14 = .ok (.ireturn, 1) := zo_172 (zkb zk_cJ0_coder_7d493 zn_cJ0_coder_7d493 (by decide +kernel))
def kn_cJ0_isLatin1_aae02 : Nat := 0xac030400a70407009a0f00b42a0e00992600b2
theorem zk_cJ0_isLatin1_aae02 : zkd cJ0_isLatin1_aae02.data.toList kn_cJ0_isLatin1_aae02 = true := by decide +kernel
theorem zn_cJ0_isLatin1_aae02 : cJ0_isLatin1_aae02.data.toList.length = 19 := by decide +kernel
theorem dJ0_isLatin1_aae02_0 : decode cJ0_isLatin1_aae02 0 = .ok (.getstatic 38, 3) := zo_178 (b1 := 0) (b2 := 38) (zkb3 zk_cJ0_isLatin1_aae02 zn_cJ0_isLatin1_aae02 (by decide +kernel)) rfl
theorem dJ0_isLatin1_aae02_3 : decode cJ0_isLatin1_aae02 3 = .ok (.ifCond .eq 14, 3) := zo_153 (b1 := 0) (b2 := 14) (zkb3 zk_cJ0_isLatin1_aae02 zn_cJ0_isLatin1_aae02 (by decide +kernel)) rfl
theorem dJ0_isLatin1_aae02_6 : decode cJ0_isLatin1_aae02 6 = .ok (.aload_n 0, 1) := zo_42 (zkb zk_cJ0_isLatin1_aae02 zn_cJ0_isLatin1_aae02 (by decide +kernel))
theorem dJ0_isLatin1_aae02_7 : decode cJ0_isLatin1_aae02 7 = .ok (.getfield 15, 3) := zo_180 (b1 := 0) (b2 := 15) (zkb3 zk_cJ0_isLatin1_aae02 zn_cJ0_isLatin1_aae02 (by decide +kernel)) rfl
theorem dJ0_isLatin1_aae02_10 : decode cJ0_isLatin1_aae02 10 = .ok (.ifCond .ne 7, 3) := zo_154 (b1 := 0) (b2 := 7) (zkb3 zk_cJ0_isLatin1_aae02 zn_cJ0_isLatin1_aae02 (by decide +kernel)) rfl
theorem dJ0_isLatin1_aae02_13 : decode cJ0_isLatin1_aae02 13 = .ok (.iconst 1, 1) := zo_4 (zkb zk_cJ0_isLatin1_aae02 zn_cJ0_isLatin1_aae02 (by decide +kernel))
theorem dJ0_isLatin1_aae02_14 : decode cJ0_isLatin1_aae02 14 = .ok (.goto 4, 3) := zo_167 (b1 := 0) (b2 := 4) (zkb3 zk_cJ0_isLatin1_aae02 zn_cJ0_isLatin1_aae02 (by decide +kernel)) rfl
theorem dJ0_isLatin1_aae02_17 : decode cJ0_isLatin1_aae02 17 = .ok (.iconst 0, 1) := zo_3 (zkb zk_cJ0_isLatin1_aae02 zn_cJ0_isLatin1_aae02 (by decide +kernel))
theorem dJ0_isLatin1_aae02_18 : decode cJ0_isLatin1_aae02 18 = .ok (.ireturn, 1) := zo_172 (zkb zk_cJ0_isLatin1_aae02 zn_cJ0_isLatin1_aae02 (by decide +kernel))
def kn_cJ0_checkIndex_df160 : Nat := 0xb1572304b81d04b21b1a
theorem zk_cJ0_checkIndex_df160 : zkd cJ0_checkIndex_df160.data.toList kn_cJ0_checkIndex_df160 = true := by decide +kernel
theorem zn_cJ0_checkIndex_df160 : cJ0_checkIndex_df160.data.toList.length = 10 := by decide +kernel
theorem dJ0_checkIndex_df160_0 : decode cJ0_checkIndex_df160 0 = .ok (.iload_n 0, 1) := zo_26 (zkb zk_cJ0_checkIndex_df160 zn_cJ0_checkIndex_df160 (by decide +kernel))
theorem dJ0_checkIndex_df160_1 : decode cJ0_checkIndex_df160 1 = .ok (.iload_n 1, 1) := zo_27 (zkb zk_cJ0_checkIndex_df160 zn_cJ0_checkIndex_df160 (by decide +kernel))
theorem dJ0_checkIndex_df160_2 : decode cJ0_checkIndex_df160 2 = .ok (.getstatic 1053, 3) := zo_178 (b1 := 4) (b2 := 29) (zkb3 zk_cJ0_checkIndex_df160 zn_cJ0_checkIndex_df160 (by decide +kernel)) rfl
theorem dJ0_checkIndex_df160_5 : decode cJ0_checkIndex_df160 5 = .ok (.invokestatic 1059, 3) := zo_184 (b1 := 4) (b2 := 35) (zkb3 zk_cJ0_checkIndex_df160 zn_cJ0_checkIndex_df160 (by decide +kernel)) rfl
theorem dJ0_checkIndex_df160_8 : decode cJ0_checkIndex_df160 8 = .ok (.pop, 1) := zo_87 (zkb zk_cJ0_checkIndex_df160 zn_cJ0_checkIndex_df160 (by decide +kernel))
theorem dJ0_checkIndex_df160_9 : decode cJ0_checkIndex_df160 9 = .ok (.return_, 1) := zo_177 (zkb zk_cJ0_checkIndex_df160 zn_cJ0_checkIndex_df160 (by decide +kernel))
def kn_cJ1_charAt_3b067 : Nat := 0xac927eff0011331b2a0900b8be2a1b
theorem zk_cJ1_charAt_3b067 : zkd cJ1_charAt_3b067.data.toList kn_cJ1_charAt_3b067 = true := by decide +kernel
theorem zn_cJ1_charAt_3b067 : cJ1_charAt_3b067.data.toList.length = 15 := by decide +kernel
theorem dJ1_charAt_3b067_0 : decode cJ1_charAt_3b067 0 = .ok (.iload_n 1, 1) := zo_27 (zkb zk_cJ1_charAt_3b067 zn_cJ1_charAt_3b067 (by decide +kernel))
theorem dJ1_charAt_3b067_1 : decode cJ1_charAt_3b067 1 = .ok (.aload_n 0, 1) := zo_42 (zkb zk_cJ1_charAt_3b067 zn_cJ1_charAt_3b067 (by decide +kernel))
theorem dJ1_charAt_3b067_2 : decode cJ1_charAt_3b067 2 = .ok (.arraylength, 1) := zo_190 (zkb zk_cJ1_charAt_3b067 zn_cJ1_charAt_3b067 (by decide +kernel))
theorem dJ1_charAt_3b067_3 : decode cJ1_charAt_3b067 3 = .ok (.invokestatic 9, 3) := zo_184 (b1 := 0) (b2 := 9) (zkb3 zk_cJ1_charAt_3b067 zn_cJ1_charAt_3b067 (by decide +kernel)) rfl
theorem dJ1_charAt_3b067_6 : decode cJ1_charAt_3b067 6 = .ok (.aload_n 0, 1) := zo_42 (zkb zk_cJ1_charAt_3b067 zn_cJ1_charAt_3b067 (by decide +kernel))
theorem dJ1_charAt_3b067_7 : decode cJ1_charAt_3b067 7 = .ok (.iload_n 1, 1) := zo_27 (zkb zk_cJ1_charAt_3b067 zn_cJ1_charAt_3b067 (by decide +kernel))
theorem dJ1_charAt_3b067_8 : decode cJ1_charAt_3b067 8 = .ok (.baload, 1) := zo_51 (zkb zk_cJ1_charAt_3b067 zn_cJ1_charAt_3b067 (by decide +kernel))
theorem dJ1_charAt_3b067_9 : decode cJ1_charAt_3b067 9 = .ok (.sipush 255, 3) := zo_17 (b1 := 0) (b2 := 255) (zkb3 zk_cJ1_charAt_3b067 zn_cJ1_charAt_3b067 (by decide +kernel)) rfl
theorem dJ1_charAt_3b067_12 : decode cJ1_charAt_3b067 12 = .ok (.iand, 1) := zo_126 (zkb zk_cJ1_charAt_3b067 zn_cJ1_charAt_3b067 (by decide +kernel))
theorem dJ1_charAt_3b067_13 : decode cJ1_charAt_3b067 13 = .ok (.i2c, 1) := zo_146 (zkb zk_cJ1_charAt_3b067 zn_cJ1_charAt_3b067 (by decide +kernel))
theorem dJ1_charAt_3b067_14 : decode cJ1_charAt_3b067 14 = .ok (.ireturn, 1) := zo_172 (zkb zk_cJ1_charAt_3b067 zn_cJ1_charAt_3b067 (by decide +kernel))
def kn_cJ3_checkIndex_8e157 : Nat := 0xac1abf5f00b81b1a2c0a00a11b1a08009b1a
theorem zk_cJ3_checkIndex_8e157 : zkd cJ3_checkIndex_8e157.data.toList kn_cJ3_checkIndex_8e157 = true := by decide +kernel
theorem zn_cJ3_checkIndex_8e157 : cJ3_checkIndex_8e157.data.toList.length = 18 := by decide +kernel
theorem dJ3_checkIndex_8e157_0 : decode cJ3_checkIndex_8e157 0 = .ok (.iload_n 0, 1) := zo_26 (zkb zk_cJ3_checkIndex_8e157 zn_cJ3_checkIndex_8e157 (by decide +kernel))
theorem dJ3_checkIndex_8e157_1 : decode cJ3_checkIndex_8e157 1 = .ok (.ifCond .lt 8, 3) := zo_155 (b1 := 0) (b2 := 8) (zkb3 zk_cJ3_checkIndex_8e157 zn_cJ3_checkIndex_8e157 (by decide +kernel)) rfl
theorem dJ3_checkIndex_8e157_4 : decode cJ3_checkIndex_8e157 4 = .ok (.iload_n 0, 1) := zo_26 (zkb zk_cJ3_checkIndex_8e157 zn_cJ3_checkIndex_8e157 (by decide +kernel))
theorem dJ3_checkIndex_8e157_5 : decode cJ3_checkIndex_8e157 5 = .ok (.iload_n 1, 1) := zo_27 (zkb zk_cJ3_checkIndex_8e157 zn_cJ3_checkIndex_8e157 (by decide +kernel))
theorem dJ3_checkIndex_8e157_6 : decode cJ3_checkIndex_8e157 6 = .ok (.if_icmp .lt 10, 3) := zo_161 (b1 := 0) (b2 := 10) (zkb3 zk_cJ3_checkIndex_8e157 zn_cJ3_checkIndex_8e157 (by decide +kernel)) rfl
theorem dJ3_checkIndex_8e157_9 : decode cJ3_checkIndex_8e157 9 = .ok (.aload_n 2, 1) := zo_44 (zkb zk_cJ3_checkIndex_8e157 zn_cJ3_checkIndex_8e157 (by decide +kernel))
theorem dJ3_checkIndex_8e157_10 : decode cJ3_checkIndex_8e157 10 = .ok (.iload_n 0, 1) := zo_26 (zkb zk_cJ3_checkIndex_8e157 zn_cJ3_checkIndex_8e157 (by decide +kernel))
theorem dJ3_checkIndex_8e157_11 : decode cJ3_checkIndex_8e157 11 = .ok (.iload_n 1, 1) := zo_27 (zkb zk_cJ3_checkIndex_8e157 zn_cJ3_checkIndex_8e157 (by decide +kernel))
theorem dJ3_checkIndex_8e157_12 : decode cJ3_checkIndex_8e157 12 = .ok (.invokestatic 95, 3) := zo_184 (b1 := 0) (b2 := 95) (zkb3 zk_cJ3_checkIndex_8e157 zn_cJ3_checkIndex_8e157 (by decide +kernel)) rfl
theorem dJ3_checkIndex_8e157_15 : decode cJ3_checkIndex_8e157 15 = .ok (.athrow, 1) := zo_191 (zkb zk_cJ3_checkIndex_8e157 zn_cJ3_checkIndex_8e157 (by decide +kernel))
theorem dJ3_checkIndex_8e157_16 : decode cJ3_checkIndex_8e157 16 = .ok (.iload_n 0, 1) := zo_26 (zkb zk_cJ3_checkIndex_8e157 zn_cJ3_checkIndex_8e157 (by decide +kernel))
theorem dJ3_checkIndex_8e157_17 : decode cJ3_checkIndex_8e157 17 = .ok (.ireturn, 1) := zo_172 (zkb zk_cJ3_checkIndex_8e157 zn_cJ3_checkIndex_8e157 (by decide +kernel))
/-! String constants: length() and charAt(k), by the JDK's own code -/
def zkC (i j : Nat) : Int32 := ((zkB i j &&& 255).toUInt32 % 65536).toInt32
def zkN (i : Nat) : Int32 := Int32.ofNat (zkL i)
section ZS
variable {p : Program} {l : Launch} {e : Env} {R : Room} {s : State} {m : MethodId} {args : Array Value} {below : List Frame} {meth : Method} {c : Code} {H : Heap} {locs : List Loc} {cells slots : Nat} {Q : State → Prop}
variable {st : Nat → Nat} {D : va_G} {tys : List (ClassId × FieldType)} {A : Nat → Prop} {cc : ByteArray} {nL : Nat} {Ts : List Cond} {own : String} {pc : Nat} {ls : Array Slot} {rest : List Value} {ret : Option FieldType}
theorem z_compact (hC : zC p m c cc nL s args Ts own meth ret) {w : va_W} (hI : zI st D tys w A s H locs) {index : Nat} (hlink : Cond.fieldLink own index "java/lang/String" "COMPACT_STRINGS" "Z" ∈ Ts) (hdg : decode cc pc = .ok (.getstatic index, 3))
    (kk : W p l e R s m args below meth c H locs cells slots Q (F0 m (pc + 3) ls (.int 1 :: rest))) : W p l e R s m args below meth c H locs cells slots Q (F0 m pc ls rest) :=
  va_gets hC.1 hC.2.1 hI.2.2.2.2.2.2.2.2.1 hI.2.2.2.1 hC.2.2.2.1 (hC.2.2.2.2.1 _ hlink) (fun _ h => h) hdg kk
theorem z_kcoder (hC : zC p m c cc nL s args Ts own meth ret) {w : va_W} (hI : zI st D tys w A s H locs) {i : Nat} (hi : i < zNK) {index : Nat} (hlink : Cond.fieldLink own index "java/lang/String" "coder" "B" ∈ Ts) (hdg : decode cc pc = .ok (.getfield index, 3))
    (kk : W p l e R s m args below meth c H locs cells slots Q (F0 m (pc + 3) ls (.int 0 :: rest))) : W p l e R s m args below meth c H locs cells slots Q (F0 m pc ls (.ref (st (100 + i)) :: rest)) :=
  vk_getf hC.1 hC.2.1 (hI.2.2.2.2.2.2.1 i hi).2.1 hI.2.2.2.1 hC.2.2.2.1 (hC.2.2.2.2.1 _ hlink) (fun _ h => h) hdg kk
theorem z_kvalue (hC : zC p m c cc nL s args Ts own meth ret) {w : va_W} (hI : zI st D tys w A s H locs) {i : Nat} (hi : i < zNK) {index : Nat} (hlink : Cond.fieldLink own index "java/lang/String" "value" "[B" ∈ Ts) (hdg : decode cc pc = .ok (.getfield index, 3))
    (kk : W p l e R s m args below meth c H locs cells slots Q (F0 m (pc + 3) ls (.ref (st (400 + i)) :: rest))) : W p l e R s m args below meth c H locs cells slots Q (F0 m pc ls (.ref (st (100 + i)) :: rest)) :=
  vk_getf hC.1 hC.2.1 (hI.2.2.2.2.2.2.1 i hi).2.2.1 hI.2.2.2.1 hC.2.2.2.1 (hC.2.2.2.2.1 _ hlink) (fun _ h => h) hdg kk
theorem z_nreturn {ty : FieldType} (hC : zC p m c cc nL s args Ts own meth (some ty)) {w : zSt → va_W} {σ : zSt} (hI : zI st D tys (w σ) A s H locs) {v : Int32} {res : zSt × Int32} (hn : narrow ty (.int v) = .int v) (hf : some (σ, v) = some res) (hdg : decode cc pc = .ok (.ireturn, 1)) : W p l e R s m args below meth c H locs 0 0 (zQi below args s D tys w A res) (F0 m pc ls [.int v]) := by
  obtain ⟨hx, hb, hml, hown, hts, hr, hlk⟩ := hC
  obtain ⟨hK, hP, hD, hS, hA, hT⟩ := hI
  exact W.zret (v := v) hx hb hr hn (fun t ht hW => ⟨⟨v, σ, rfl, Option.some.inj hf, by rw [ht]; exact hP, va_K.moved hW.alike hK, hD⟩, hS.F ht⟩) hS.2.2 hdg hlk
end ZS
def rmK0 : Room := { frames := 0, cells := 0, slots := 0, locals := 0 }
def rmK1 : Room := { frames := 1, cells := 0, slots := 0, locals := 32 }
def rmK2 : Room := { frames := 2, cells := 0, slots := 0, locals := 64 }
def rmK3 : Room := { frames := 3, cells := 0, slots := 0, locals := 96 }
def rmK4 : Room := { frames := 4, cells := 0, slots := 0, locals := 128 }
theorem cJ0_coder_met (st : Nat → Nat) (l : Launch) (D : va_G) (tys : List (ClassId × FieldType)) (w : zSt → va_W) (σ : zSt) (i : Nat) (hi : i < zNK) (sz : Nat) : zMi st l yJ0_coder_7d493 wzJ0_coder_7d493 rmK0 [.ref (st (100 + i))] D tys w sz σ (σ, 0) :=
  zMi.of (cc := cJ0_coder_7d493) (maxL := 1) (ret := some .byte) (by decide) rfl (Nat.le_of_ble_eq_true rfl) (fun p e s m args below meth c hC A hI ls hl => by
    have hx := hC.1
    have hb := hC.2.1
    refine z_compact hC hI (List.mem_cons_of_mem _ zw62_20) dJ0_coder_7d493_0 ?_
    refine lv_if_eq (tgt := 13) hx hb dJ0_coder_7d493_3 (by decide) (fun q => absurd q (by decide)) (fun _ => ?_)
    refine lv_aload_n hx hb dJ0_coder_7d493_6 rfl (lv_at hl 0 rfl) ?_
    refine z_kcoder hC hI hi (List.mem_cons_of_mem _ zw62_21) dJ0_coder_7d493_7 ?_
    refine lv_goto (tgt := 14) hx hb dJ0_coder_7d493_10 (by decide) ?_
    exact z_nreturn hC hI rfl rfl dJ0_coder_7d493_14)
theorem cJ0_isLatin1_met (st : Nat → Nat) (l : Launch) (D : va_G) (tys : List (ClassId × FieldType)) (w : zSt → va_W) (σ : zSt) (i : Nat) (hi : i < zNK) (sz : Nat) : zMi st l yJ0_isLatin1_aae02 wzJ0_isLatin1_aae02 rmK0 [.ref (st (100 + i))] D tys w sz σ (σ, 1) :=
  zMi.of (cc := cJ0_isLatin1_aae02) (maxL := 1) (ret := some .boolean) (by decide) rfl (Nat.le_of_ble_eq_true rfl) (fun p e s m args below meth c hC A hI ls hl => by
    have hx := hC.1
    have hb := hC.2.1
    refine z_compact hC hI (List.mem_cons_of_mem _ zw62_20) dJ0_isLatin1_aae02_0 ?_
    refine lv_if_eq (tgt := 17) hx hb dJ0_isLatin1_aae02_3 (by decide) (fun q => absurd q (by decide)) (fun _ => ?_)
    refine lv_aload_n hx hb dJ0_isLatin1_aae02_6 rfl (lv_at hl 0 rfl) ?_
    refine z_kcoder hC hI hi (List.mem_cons_of_mem _ zw62_21) dJ0_isLatin1_aae02_7 ?_
    refine lv_if_ne (tgt := 17) hx hb dJ0_isLatin1_aae02_10 (by decide) (fun q => absurd rfl q) (fun _ => ?_)
    refine lv_iconst (v := 1) hx hb dJ0_isLatin1_aae02_13 (by decide) ?_
    refine lv_goto (tgt := 18) hx hb dJ0_isLatin1_aae02_14 (by decide) ?_
    exact z_nreturn hC hI rfl rfl dJ0_isLatin1_aae02_18)
theorem hdJ0_coder : yJ0_coder_7d493.cls = RJ0 ∧ yJ0_coder_7d493.cls ≠ "java/lang/invoke/MethodHandle" ∧ yJ0_coder_7d493.cls ≠ "java/lang/invoke/VarHandle" ∧ (parseMethodDescriptor yJ0_coder_7d493.desc).map (fun d => d.parameters.length) = some 0 := by decide +kernel
theorem hdJ0_isLatin1 : yJ0_isLatin1_aae02.cls = RJ0 ∧ yJ0_isLatin1_aae02.cls ≠ "java/lang/invoke/MethodHandle" ∧ yJ0_isLatin1_aae02.cls ≠ "java/lang/invoke/VarHandle" ∧ (parseMethodDescriptor yJ0_isLatin1_aae02.desc).map (fun d => d.parameters.length) = some 0 := by decide +kernel
theorem hdJ0_length : yJ0_length_8abf5.cls = RJ0 ∧ yJ0_length_8abf5.cls ≠ "java/lang/invoke/MethodHandle" ∧ yJ0_length_8abf5.cls ≠ "java/lang/invoke/VarHandle" ∧ (parseMethodDescriptor yJ0_length_8abf5.desc).map (fun d => d.parameters.length) = some 0 := by decide +kernel
theorem hdJ0_charAt : yJ0_charAt_5068e.cls = RJ0 ∧ yJ0_charAt_5068e.cls ≠ "java/lang/invoke/MethodHandle" ∧ yJ0_charAt_5068e.cls ≠ "java/lang/invoke/VarHandle" ∧ (parseMethodDescriptor yJ0_charAt_5068e.desc).map (fun d => d.parameters.length) = some 1 := by decide +kernel
theorem hdJ1_charAt : yJ1_charAt_3b067.cls ≠ "java/lang/invoke/MethodHandle" ∧ yJ1_charAt_3b067.cls ≠ "java/lang/invoke/VarHandle" ∧ (parseMethodDescriptor yJ1_charAt_3b067.desc).map (fun d => d.parameters.length) = some 2 := by decide +kernel
theorem hdJ0_checkIndex : yJ0_checkIndex_df160.cls ≠ "java/lang/invoke/MethodHandle" ∧ yJ0_checkIndex_df160.cls ≠ "java/lang/invoke/VarHandle" ∧ (parseMethodDescriptor yJ0_checkIndex_df160.desc).map (fun d => d.parameters.length) = some 2 := by decide +kernel
theorem hdJ3_checkIndex : yJ3_checkIndex_8e157.cls ≠ "java/lang/invoke/MethodHandle" ∧ yJ3_checkIndex_8e157.cls ≠ "java/lang/invoke/VarHandle" ∧ (parseMethodDescriptor yJ3_checkIndex_8e157.desc).map (fun d => d.parameters.length) = some 3 := by decide +kernel
theorem zkN_shr (i : Nat) : zkN i >>> ((0 : Int32) &&& 31) = zkN i := sb_shr0 _
theorem cJ0_length_met (st : Nat → Nat) (l : Launch) (D : va_G) (tys : List (ClassId × FieldType)) (w : zSt → va_W) (σ : zSt) (i : Nat) (hi : i < zNK) (sz : Nat) : zMi st l yJ0_length_8abf5 wzJ0_length_8abf5 rmK1 [.ref (st (100 + i))] D tys w sz σ (σ, zkN i) :=
  zMi.of (cc := cJ0_length_8abf5) (maxL := 1) (ret := some .int) (by decide) rfl (Nat.le_of_ble_eq_true rfl) (fun p e s m args below meth c hC A hI ls hl => by
    have hx := hC.1
    have hb := hC.2.1
    refine lv_aload_n hx hb dJ0_length_8abf5_0 rfl (lv_at hl 0 rfl) ?_
    refine z_kvalue hC hI hi (List.mem_cons_of_mem _ zw62_15) dJ0_length_8abf5_1 ?_
    refine va_tlen (v := zkN i) hx hb (hI.2.2.2.2.2.2.1 i hi).2.2.2 hI.2.2.2.1 rfl dJ0_length_8abf5_4 ?_
    refine lv_aload_n hx hb dJ0_length_8abf5_5 rfl (lv_at hl 0 rfl) ?_
    refine z_callKi (As := []) (rest := [.int (zkN i)]) hC hI (cJ0_coder_met st l D tys w σ i hi) (zgV zw71_1 zw71_2 zw71_3 zw62_13 zw71_4) rfl ⟨rfl, rfl⟩ 0 hdJ0_coder ⟨Nat.le_of_ble_eq_true rfl, Nat.le_of_ble_eq_true rfl⟩ hi rfl rfl hl rfl (Nat.le_of_ble_eq_true rfl) dJ0_length_8abf5_6 ⟨Nat.zero_le _, Nat.zero_le _⟩ (fun H locs hI => ?_)
    refine lv_ishr hx hb dJ0_length_8abf5_9 ?_
    rw [zkN_shr]
    exact z_ireturn hC hI rfl dJ0_length_8abf5_10)
theorem cJ3_checkIndex_met (st : Nat → Nat) (l : Launch) (D : va_G) (tys : List (ClassId × FieldType)) (w : zSt → va_W) (σ : zSt) (x n : Int32) (v : Value) (hv : v = .null ∨ ∃ t, v = .ref t) (h1 : ¬ x < 0) (h2 : x < n) (sz : Nat) : zMi st l yJ3_checkIndex_8e157 wzJ3_checkIndex_8e157 rmK0 [.int x, .int n, v] D tys w sz σ (σ, x) := by
  have hle : (lg_sl [.int x, .int n, v]).length ≤ 3 := by
    rcases hv with rfl | ⟨t, rfl⟩ <;> exact Nat.le_of_ble_eq_true rfl
  refine zMi.of (cc := cJ3_checkIndex_8e157) (maxL := 3) (ret := some .int) (by decide) rfl hle (fun p e s m args below meth c hC A hI ls hl => ?_)
  have hx := hC.1
  have hb := hC.2.1
  have hl : lv_has ls 3 [(0, .int x), (1, .int n)] := by
    rcases hv with rfl | ⟨t, rfl⟩ <;> exact lv_sub hl [0, 1] rfl
  refine lv_iload_n hx hb dJ3_checkIndex_8e157_0 rfl (lv_at hl 0 rfl) ?_
  refine lv_if_lt (tgt := 9) hx hb dJ3_checkIndex_8e157_1 (by decide) (fun q => absurd q h1) (fun _ => ?_)
  refine lv_iload_n hx hb dJ3_checkIndex_8e157_4 rfl (lv_at hl 0 rfl) ?_
  refine lv_iload_n hx hb dJ3_checkIndex_8e157_5 rfl (lv_at hl 1 rfl) ?_
  refine lv_icmp_lt (tgt := 16) hx hb dJ3_checkIndex_8e157_6 (by decide) (fun _ => ?_) (fun q => absurd h2 q)
  refine lv_iload_n hx hb dJ3_checkIndex_8e157_16 rfl (lv_at hl 0 rfl) ?_
  exact z_ireturn hC hI rfl dJ3_checkIndex_8e157_17
theorem cJ0_checkIndex_met (st : Nat → Nat) (l : Launch) (D : va_G) (tys : List (ClassId × FieldType)) (w : zSt → va_W) (σ : zSt) (x n : Int32) (h1 : ¬ x < 0) (h2 : x < n) (sz : Nat) : zMu st l yJ0_checkIndex_df160 wzJ0_checkIndex_df160 rmK1 [.int x, .int n] D tys w sz σ σ :=
  zMu.of (cc := cJ0_checkIndex_df160) (maxL := 2) (ret := none) (by decide) rfl (Nat.le_of_ble_eq_true rfl) (fun p e s m args below meth c hC A hI ls hl => by
    have hx := hC.1
    have hb := hC.2.1
    refine lv_iload_n hx hb dJ0_checkIndex_df160_0 rfl (lv_at hl 0 rfl) ?_
    refine lv_iload_n hx hb dJ0_checkIndex_df160_1 rfl (lv_at hl 1 rfl) ?_
    have hlk : (Cond.fieldLink RJ0 1053 "jdk/internal/util/Preconditions" "SIOOBE_FORMATTER" "Ljava/util/function/BiFunction;").before args s = true := hC.2.2.2.2.1 _ (List.mem_cons_of_mem _ zw63_5)
    have key : ∀ v : Value, (v = .null ∨ ∃ t, v = .ref t) → W p l e (headSpec wzJ0_checkIndex_df160 rmK1).room s m args below meth c s.heap [] 0 0 (zQu below args s D tys w A σ) (F0 m 5 ls [v, .int n, .int x]) := by
      intro v hv
      refine z_callSi (As := [.int x, .int n, v]) (rest := []) hC hI (cJ3_checkIndex_met st l D tys w σ x n v hv h1 h2) (zgS zw63_6 zw63_7 zw63_8 zw63_9) rfl ⟨rfl, rfl⟩ 3 hdJ3_checkIndex ⟨Nat.le_of_ble_eq_true rfl, Nat.le_of_ble_eq_true rfl⟩ rfl hl rfl (Nat.le_of_ble_eq_true rfl) dJ0_checkIndex_df160_5 ⟨Nat.zero_le _, Nat.zero_le _⟩ (fun H locs hI => ?_)
      refine lv_pop hx hb dJ0_checkIndex_df160_8 rfl ?_
      exact z_return hC hI rfl dJ0_checkIndex_df160_9
    rcases hI.2.2.2.2.2.2.2.2.2.1 with hz | ⟨t, hz⟩
    · exact va_gets hx hb hz hI.2.2.2.1 hC.2.2.2.1 hlk (fun _ h => h) dJ0_checkIndex_df160_2 (key .null (Or.inl rfl))
    · exact va_gets hx hb hz hI.2.2.2.1 hC.2.2.2.1 hlk (fun _ h => h) dJ0_checkIndex_df160_2 (key (.ref t) (Or.inr ⟨t, rfl⟩)))
theorem zin_lt {x : Int32} {i : Nat} (hq : zin x (zkL i) = true) (hL : zkL i < 2 ^ 31) : ¬ x < 0 ∧ x < zkN i := by
  obtain ⟨j, hj, rfl⟩ := vp_in_of (zin_in hq) hL
  exact ⟨nI_pos (by omega), nI_lt hj hL⟩
theorem zkL_lt : ∀ i, i < zNK → zkL i < 2 ^ 31 := by decide +kernel
theorem cJ1_charAt_met (st : Nat → Nat) (l : Launch) (D : va_G) (tys : List (ClassId × FieldType)) (w : zSt → va_W) (σ : zSt) (i : Nat) (hi : i < zNK) (x : Int32) (hq : zin x (zkL i) = true) (sz : Nat) : zMi st l yJ1_charAt_3b067 wzJ1_charAt_3b067 rmK2 [.ref (st (400 + i)), .int x] D tys w sz σ (σ, zkC i x.toNatClampNeg) :=
  zMi.of (cc := cJ1_charAt_3b067) (maxL := 2) (ret := some .char) (by decide) rfl (Nat.le_of_ble_eq_true rfl) (fun p e s m args below meth c hC A hI ls hl => by
    have hx := hC.1
    have hb := hC.2.1
    obtain ⟨h1, h2⟩ := zin_lt hq (zkL_lt i hi)
    refine lv_iload_n hx hb dJ1_charAt_3b067_0 rfl (lv_at hl 1 rfl) ?_
    refine lv_aload_n hx hb dJ1_charAt_3b067_1 rfl (lv_at hl 0 rfl) ?_
    refine va_tlen (v := zkN i) hx hb (hI.2.2.2.2.2.2.1 i hi).2.2.2 hI.2.2.2.1 rfl dJ1_charAt_3b067_2 ?_
    refine z_callSu (As := [.int x, .int (zkN i)]) (rest := []) hC hI (cJ0_checkIndex_met st l D tys w σ x (zkN i) h1 h2) (zgS zw63_2 zw63_3 zw62_13 zw63_4) rfl ⟨rfl, rfl⟩ 2 hdJ0_checkIndex ⟨Nat.le_of_ble_eq_true rfl, Nat.le_of_ble_eq_true rfl⟩ rfl hl rfl (Nat.le_of_ble_eq_true rfl) dJ1_charAt_3b067_3 ⟨Nat.zero_le _, Nat.zero_le _⟩ (fun H locs hI => ?_)
    refine lv_aload_n hx hb dJ1_charAt_3b067_6 rfl (lv_at hl 0 rfl) ?_
    refine lv_iload_n hx hb dJ1_charAt_3b067_7 rfl (lv_at hl 1 rfl) ?_
    refine va_tb (v := .int (zkB i x.toNatClampNeg)) hx hb (hI.2.2.2.2.2.2.1 i hi).2.2.2 hI.2.2.2.1 (zin_in hq) rfl dJ1_charAt_3b067_8 ?_
    refine lv_sipush (v := 255) hx hb dJ1_charAt_3b067_9 (by decide) ?_
    refine lv_iand hx hb dJ1_charAt_3b067_12 ?_
    refine lv_i2c (v := zkC i x.toNatClampNeg) hx hb dJ1_charAt_3b067_13 rfl ?_
    exact z_nreturn hC hI (pk_nc _) rfl dJ1_charAt_3b067_14)
theorem cJ0_charAt_met (st : Nat → Nat) (l : Launch) (D : va_G) (tys : List (ClassId × FieldType)) (w : zSt → va_W) (σ : zSt) (i : Nat) (hi : i < zNK) (x : Int32) (hq : zin x (zkL i) = true) (sz : Nat) : zMi st l yJ0_charAt_5068e wzJ0_charAt_5068e rmK3 [.ref (st (100 + i)), .int x] D tys w sz σ (σ, zkC i x.toNatClampNeg) :=
  zMi.of (cc := cJ0_charAt_5068e) (maxL := 2) (ret := some .char) (by decide) rfl (Nat.le_of_ble_eq_true rfl) (fun p e s m args below meth c hC A hI ls hl => by
    have hx := hC.1
    have hb := hC.2.1
    refine lv_aload_n hx hb dJ0_charAt_5068e_0 rfl (lv_at hl 0 rfl) ?_
    refine z_callKi (As := []) (rest := []) hC hI (cJ0_isLatin1_met st l D tys w σ i hi) (zgV zw62_16 zw62_17 zw62_18 zw62_13 zw62_19) rfl ⟨rfl, rfl⟩ 0 hdJ0_isLatin1 ⟨Nat.le_of_ble_eq_true rfl, Nat.le_of_ble_eq_true rfl⟩ hi rfl rfl hl rfl (Nat.le_of_ble_eq_true rfl) dJ0_charAt_5068e_1 ⟨Nat.zero_le _, Nat.zero_le _⟩ (fun H locs hI => ?_)
    refine lv_if_eq (tgt := 16) hx hb dJ0_charAt_5068e_4 (by decide) (fun q => absurd q (by decide)) (fun _ => ?_)
    refine lv_aload_n hx hb dJ0_charAt_5068e_7 rfl (lv_at hl 0 rfl) ?_
    refine z_kvalue hC hI hi (List.mem_cons_of_mem _ zw62_15) dJ0_charAt_5068e_8 ?_
    refine lv_iload_n hx hb dJ0_charAt_5068e_11 rfl (lv_at hl 1 rfl) ?_
    refine z_callSi (As := [.ref (st (400 + i)), .int x]) (rest := []) hC hI (cJ1_charAt_met st l D tys w σ i hi x hq) (zgS zw62_22 zw62_23 zw63_0 zw63_1) rfl ⟨rfl, rfl⟩ 2 hdJ1_charAt ⟨Nat.le_of_ble_eq_true rfl, Nat.le_of_ble_eq_true rfl⟩ rfl hl rfl (Nat.le_of_ble_eq_true rfl) dJ0_charAt_5068e_12 ⟨Nat.zero_le _, Nat.zero_le _⟩ (fun H locs hI => ?_)
    exact z_nreturn hC hI (pk_nc _) rfl dJ0_charAt_5068e_15)
