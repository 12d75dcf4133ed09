def kn_cX12_hex : Nat := 0xb1c5ffa7ff0384ca01b56004ca01b4592a4f640a1060041561100b00a760041530100b00a20a100415ca01b42a6000b42a04367e0f107a681d071b3d009b1d3e64041c
theorem zk_cX12_hex : zkd cX12_hex.data.toList kn_cX12_hex = true := by decide +kernel
theorem zn_cX12_hex : cX12_hex.data.toList.length = 67 := by decide +kernel
theorem dX12_hex_0 : decode cX12_hex 0 = .ok (.iload_n 2, 1) := zo_28 (zkb zk_cX12_hex zn_cX12_hex (by decide +kernel))
theorem dX12_hex_1 : decode cX12_hex 1 = .ok (.iconst 1, 1) := zo_4 (zkb zk_cX12_hex zn_cX12_hex (by decide +kernel))
theorem dX12_hex_2 : decode cX12_hex 2 = .ok (.isub, 1) := zo_100 (zkb zk_cX12_hex zn_cX12_hex (by decide +kernel))
theorem dX12_hex_3 : decode cX12_hex 3 = .ok (.istore_n 3, 1) := zo_62 (zkb zk_cX12_hex zn_cX12_hex (by decide +kernel))
theorem dX12_hex_4 : decode cX12_hex 4 = .ok (.iload_n 3, 1) := zo_29 (zkb zk_cX12_hex zn_cX12_hex (by decide +kernel))
theorem dX12_hex_5 : decode cX12_hex 5 = .ok (.ifCond .lt 61, 3) := zo_155 (b1 := 0) (b2 := 61) (zkb3 zk_cX12_hex zn_cX12_hex (by decide +kernel)) rfl
theorem dX12_hex_8 : decode cX12_hex 8 = .ok (.iload_n 1, 1) := zo_27 (zkb zk_cX12_hex zn_cX12_hex (by decide +kernel))
theorem dX12_hex_9 : decode cX12_hex 9 = .ok (.iconst 4, 1) := zo_7 (zkb zk_cX12_hex zn_cX12_hex (by decide +kernel))
theorem dX12_hex_10 : decode cX12_hex 10 = .ok (.iload_n 3, 1) := zo_29 (zkb zk_cX12_hex zn_cX12_hex (by decide +kernel))
theorem dX12_hex_11 : decode cX12_hex 11 = .ok (.imul, 1) := zo_104 (zkb zk_cX12_hex zn_cX12_hex (by decide +kernel))
theorem dX12_hex_12 : decode cX12_hex 12 = .ok (.ishr, 1) := zo_122 (zkb zk_cX12_hex zn_cX12_hex (by decide +kernel))
theorem dX12_hex_13 : decode cX12_hex 13 = .ok (.bipush 15, 2) := zo_16 (b1 := 15) (zkb2 zk_cX12_hex zn_cX12_hex (by decide +kernel)) rfl
theorem dX12_hex_15 : decode cX12_hex 15 = .ok (.iand, 1) := zo_126 (zkb zk_cX12_hex zn_cX12_hex (by decide +kernel))
theorem dX12_hex_16 : decode cX12_hex 16 = .ok (.istore 4, 2) := zo_54 (b1 := 4) (zkb2 zk_cX12_hex zn_cX12_hex (by decide +kernel))
theorem dX12_hex_18 : decode cX12_hex 18 = .ok (.aload_n 0, 1) := zo_42 (zkb zk_cX12_hex zn_cX12_hex (by decide +kernel))
theorem dX12_hex_19 : decode cX12_hex 19 = .ok (.getfield 96, 3) := zo_180 (b1 := 0) (b2 := 96) (zkb3 zk_cX12_hex zn_cX12_hex (by decide +kernel)) rfl
theorem dX12_hex_22 : decode cX12_hex 22 = .ok (.aload_n 0, 1) := zo_42 (zkb zk_cX12_hex zn_cX12_hex (by decide +kernel))
theorem dX12_hex_23 : decode cX12_hex 23 = .ok (.getfield 458, 3) := zo_180 (b1 := 1) (b2 := 202) (zkb3 zk_cX12_hex zn_cX12_hex (by decide +kernel)) rfl
theorem dX12_hex_26 : decode cX12_hex 26 = .ok (.iload 4, 2) := zo_21 (b1 := 4) (zkb2 zk_cX12_hex zn_cX12_hex (by decide +kernel))
theorem dX12_hex_28 : decode cX12_hex 28 = .ok (.bipush 10, 2) := zo_16 (b1 := 10) (zkb2 zk_cX12_hex zn_cX12_hex (by decide +kernel)) rfl
theorem dX12_hex_30 : decode cX12_hex 30 = .ok (.if_icmp .ge 11, 3) := zo_162 (b1 := 0) (b2 := 11) (zkb3 zk_cX12_hex zn_cX12_hex (by decide +kernel)) rfl
theorem dX12_hex_33 : decode cX12_hex 33 = .ok (.bipush 48, 2) := zo_16 (b1 := 48) (zkb2 zk_cX12_hex zn_cX12_hex (by decide +kernel)) rfl
theorem dX12_hex_35 : decode cX12_hex 35 = .ok (.iload 4, 2) := zo_21 (b1 := 4) (zkb2 zk_cX12_hex zn_cX12_hex (by decide +kernel))
theorem dX12_hex_37 : decode cX12_hex 37 = .ok (.iadd, 1) := zo_96 (zkb zk_cX12_hex zn_cX12_hex (by decide +kernel))
theorem dX12_hex_38 : decode cX12_hex 38 = .ok (.goto 11, 3) := zo_167 (b1 := 0) (b2 := 11) (zkb3 zk_cX12_hex zn_cX12_hex (by decide +kernel)) rfl
theorem dX12_hex_41 : decode cX12_hex 41 = .ok (.bipush 97, 2) := zo_16 (b1 := 97) (zkb2 zk_cX12_hex zn_cX12_hex (by decide +kernel)) rfl
theorem dX12_hex_43 : decode cX12_hex 43 = .ok (.iload 4, 2) := zo_21 (b1 := 4) (zkb2 zk_cX12_hex zn_cX12_hex (by decide +kernel))
theorem dX12_hex_45 : decode cX12_hex 45 = .ok (.iadd, 1) := zo_96 (zkb zk_cX12_hex zn_cX12_hex (by decide +kernel))
theorem dX12_hex_46 : decode cX12_hex 46 = .ok (.bipush 10, 2) := zo_16 (b1 := 10) (zkb2 zk_cX12_hex zn_cX12_hex (by decide +kernel)) rfl
theorem dX12_hex_48 : decode cX12_hex 48 = .ok (.isub, 1) := zo_100 (zkb zk_cX12_hex zn_cX12_hex (by decide +kernel))
theorem dX12_hex_49 : decode cX12_hex 49 = .ok (.iastore, 1) := zo_79 (zkb zk_cX12_hex zn_cX12_hex (by decide +kernel))
theorem dX12_hex_50 : decode cX12_hex 50 = .ok (.aload_n 0, 1) := zo_42 (zkb zk_cX12_hex zn_cX12_hex (by decide +kernel))
theorem dX12_hex_51 : decode cX12_hex 51 = .ok (.dup, 1) := zo_89 (zkb zk_cX12_hex zn_cX12_hex (by decide +kernel))
theorem dX12_hex_52 : decode cX12_hex 52 = .ok (.getfield 458, 3) := zo_180 (b1 := 1) (b2 := 202) (zkb3 zk_cX12_hex zn_cX12_hex (by decide +kernel)) rfl
theorem dX12_hex_55 : decode cX12_hex 55 = .ok (.iconst 1, 1) := zo_4 (zkb zk_cX12_hex zn_cX12_hex (by decide +kernel))
theorem dX12_hex_56 : decode cX12_hex 56 = .ok (.iadd, 1) := zo_96 (zkb zk_cX12_hex zn_cX12_hex (by decide +kernel))
theorem dX12_hex_57 : decode cX12_hex 57 = .ok (.putfield 458, 3) := zo_181 (b1 := 1) (b2 := 202) (zkb3 zk_cX12_hex zn_cX12_hex (by decide +kernel)) rfl
theorem dX12_hex_60 : decode cX12_hex 60 = .ok (.iinc 3 (-1), 3) := zo_132 (b1 := 3) (b2 := 255) (zkb3 zk_cX12_hex zn_cX12_hex (by decide +kernel)) rfl
theorem dX12_hex_63 : decode cX12_hex 63 = .ok (.goto (-59), 3) := zo_167 (b1 := 255) (b2 := 197) (zkb3 zk_cX12_hex zn_cX12_hex (by decide +kernel)) rfl
theorem dX12_hex_66 : decode cX12_hex 66 = .ok (.return_, 1) := zo_177 (zkb zk_cX12_hex zn_cX12_hex (by decide +kernel))
def kn_cX12_taken : Nat := 0xac1b2102b560042102b4592a3ca600b62102b42a2a
theorem zk_cX12_taken : zkd cX12_taken.data.toList kn_cX12_taken = true := by decide +kernel
theorem zn_cX12_taken : cX12_taken.data.toList.length = 21 := by decide +kernel
theorem dX12_taken_0 : decode cX12_taken 0 = .ok (.aload_n 0, 1) := zo_42 (zkb zk_cX12_taken zn_cX12_taken (by decide +kernel))
theorem dX12_taken_1 : decode cX12_taken 1 = .ok (.aload_n 0, 1) := zo_42 (zkb zk_cX12_taken zn_cX12_taken (by decide +kernel))
theorem dX12_taken_2 : decode cX12_taken 2 = .ok (.getfield 545, 3) := zo_180 (b1 := 2) (b2 := 33) (zkb3 zk_cX12_taken zn_cX12_taken (by decide +kernel)) rfl
theorem dX12_taken_5 : decode cX12_taken 5 = .ok (.invokevirtual 166, 3) := zo_182 (b1 := 0) (b2 := 166) (zkb3 zk_cX12_taken zn_cX12_taken (by decide +kernel)) rfl
theorem dX12_taken_8 : decode cX12_taken 8 = .ok (.istore_n 1, 1) := zo_60 (zkb zk_cX12_taken zn_cX12_taken (by decide +kernel))
theorem dX12_taken_9 : decode cX12_taken 9 = .ok (.aload_n 0, 1) := zo_42 (zkb zk_cX12_taken zn_cX12_taken (by decide +kernel))
theorem dX12_taken_10 : decode cX12_taken 10 = .ok (.dup, 1) := zo_89 (zkb zk_cX12_taken zn_cX12_taken (by decide +kernel))
theorem dX12_taken_11 : decode cX12_taken 11 = .ok (.getfield 545, 3) := zo_180 (b1 := 2) (b2 := 33) (zkb3 zk_cX12_taken zn_cX12_taken (by decide +kernel)) rfl
theorem dX12_taken_14 : decode cX12_taken 14 = .ok (.iconst 1, 1) := zo_4 (zkb zk_cX12_taken zn_cX12_taken (by decide +kernel))
theorem dX12_taken_15 : decode cX12_taken 15 = .ok (.iadd, 1) := zo_96 (zkb zk_cX12_taken zn_cX12_taken (by decide +kernel))
theorem dX12_taken_16 : decode cX12_taken 16 = .ok (.putfield 545, 3) := zo_181 (b1 := 2) (b2 := 33) (zkb3 zk_cX12_taken zn_cX12_taken (by decide +kernel)) rfl
theorem dX12_taken_19 : decode cX12_taken 19 = .ok (.iload_n 1, 1) := zo_27 (zkb zk_cX12_taken zn_cX12_taken (by decide +kernel))
theorem dX12_taken_20 : decode cX12_taken 20 = .ok (.ireturn, 1) := zo_172 (zkb zk_cX12_taken zn_cX12_taken (by decide +kernel))
def kn_cX12_takenWord : Nat := 0xac807808102402b62a1b3c2402b62a
theorem zk_cX12_takenWord : zkd cX12_takenWord.data.toList kn_cX12_takenWord = true := by decide +kernel
theorem zn_cX12_takenWord : cX12_takenWord.data.toList.length = 15 := by decide +kernel
theorem dX12_takenWord_0 : decode cX12_takenWord 0 = .ok (.aload_n 0, 1) := zo_42 (zkb zk_cX12_takenWord zn_cX12_takenWord (by decide +kernel))
theorem dX12_takenWord_1 : decode cX12_takenWord 1 = .ok (.invokevirtual 548, 3) := zo_182 (b1 := 2) (b2 := 36) (zkb3 zk_cX12_takenWord zn_cX12_takenWord (by decide +kernel)) rfl
theorem dX12_takenWord_4 : decode cX12_takenWord 4 = .ok (.istore_n 1, 1) := zo_60 (zkb zk_cX12_takenWord zn_cX12_takenWord (by decide +kernel))
theorem dX12_takenWord_5 : decode cX12_takenWord 5 = .ok (.iload_n 1, 1) := zo_27 (zkb zk_cX12_takenWord zn_cX12_takenWord (by decide +kernel))
theorem dX12_takenWord_6 : decode cX12_takenWord 6 = .ok (.aload_n 0, 1) := zo_42 (zkb zk_cX12_takenWord zn_cX12_takenWord (by decide +kernel))
theorem dX12_takenWord_7 : decode cX12_takenWord 7 = .ok (.invokevirtual 548, 3) := zo_182 (b1 := 2) (b2 := 36) (zkb3 zk_cX12_takenWord zn_cX12_takenWord (by decide +kernel)) rfl
theorem dX12_takenWord_10 : decode cX12_takenWord 10 = .ok (.bipush 8, 2) := zo_16 (b1 := 8) (zkb2 zk_cX12_takenWord zn_cX12_takenWord (by decide +kernel)) rfl
theorem dX12_takenWord_12 : decode cX12_takenWord 12 = .ok (.ishl, 1) := zo_120 (zkb zk_cX12_takenWord zn_cX12_takenWord (by decide +kernel))
theorem dX12_takenWord_13 : decode cX12_takenWord 13 = .ok (.ior, 1) := zo_128 (zkb zk_cX12_takenWord zn_cX12_takenWord (by decide +kernel))
theorem dX12_takenWord_14 : decode cX12_takenWord 14 = .ok (.ireturn, 1) := zo_172 (zkb zk_cX12_takenWord zn_cX12_takenWord (by decide +kernel))
def kn_cX12_sayHl : Nat := 0xb12f02b62d02130600a72b02130900a0042702b42a1400a72a021309009a2702b42a2a
theorem zk_cX12_sayHl : zkd cX12_sayHl.data.toList kn_cX12_sayHl = true := by decide +kernel
theorem zn_cX12_sayHl : cX12_sayHl.data.toList.length = 35 := by decide +kernel
theorem dX12_sayHl_0 : decode cX12_sayHl 0 = .ok (.aload_n 0, 1) := zo_42 (zkb zk_cX12_sayHl zn_cX12_sayHl (by decide +kernel))
theorem dX12_sayHl_1 : decode cX12_sayHl 1 = .ok (.aload_n 0, 1) := zo_42 (zkb zk_cX12_sayHl zn_cX12_sayHl (by decide +kernel))
theorem dX12_sayHl_2 : decode cX12_sayHl 2 = .ok (.getfield 551, 3) := zo_180 (b1 := 2) (b2 := 39) (zkb3 zk_cX12_sayHl zn_cX12_sayHl (by decide +kernel)) rfl
theorem dX12_sayHl_5 : decode cX12_sayHl 5 = .ok (.ifCond .ne 9, 3) := zo_154 (b1 := 0) (b2 := 9) (zkb3 zk_cX12_sayHl zn_cX12_sayHl (by decide +kernel)) rfl
theorem dX12_sayHl_8 : decode cX12_sayHl 8 = .ok (.ldc_w 554, 3) := zo_19 (b1 := 2) (b2 := 42) (zkb3 zk_cX12_sayHl zn_cX12_sayHl (by decide +kernel)) rfl
theorem dX12_sayHl_11 : decode cX12_sayHl 11 = .ok (.goto 20, 3) := zo_167 (b1 := 0) (b2 := 20) (zkb3 zk_cX12_sayHl zn_cX12_sayHl (by decide +kernel)) rfl
theorem dX12_sayHl_14 : decode cX12_sayHl 14 = .ok (.aload_n 0, 1) := zo_42 (zkb zk_cX12_sayHl zn_cX12_sayHl (by decide +kernel))
theorem dX12_sayHl_15 : decode cX12_sayHl 15 = .ok (.getfield 551, 3) := zo_180 (b1 := 2) (b2 := 39) (zkb3 zk_cX12_sayHl zn_cX12_sayHl (by decide +kernel)) rfl
theorem dX12_sayHl_18 : decode cX12_sayHl 18 = .ok (.iconst 1, 1) := zo_4 (zkb zk_cX12_sayHl zn_cX12_sayHl (by decide +kernel))
theorem dX12_sayHl_19 : decode cX12_sayHl 19 = .ok (.if_icmp .ne 9, 3) := zo_160 (b1 := 0) (b2 := 9) (zkb3 zk_cX12_sayHl zn_cX12_sayHl (by decide +kernel)) rfl
theorem dX12_sayHl_22 : decode cX12_sayHl 22 = .ok (.ldc_w 555, 3) := zo_19 (b1 := 2) (b2 := 43) (zkb3 zk_cX12_sayHl zn_cX12_sayHl (by decide +kernel)) rfl
theorem dX12_sayHl_25 : decode cX12_sayHl 25 = .ok (.goto 6, 3) := zo_167 (b1 := 0) (b2 := 6) (zkb3 zk_cX12_sayHl zn_cX12_sayHl (by decide +kernel)) rfl
theorem dX12_sayHl_28 : decode cX12_sayHl 28 = .ok (.ldc_w 557, 3) := zo_19 (b1 := 2) (b2 := 45) (zkb3 zk_cX12_sayHl zn_cX12_sayHl (by decide +kernel)) rfl
theorem dX12_sayHl_31 : decode cX12_sayHl 31 = .ok (.invokevirtual 559, 3) := zo_182 (b1 := 2) (b2 := 47) (zkb3 zk_cX12_sayHl zn_cX12_sayHl (by decide +kernel)) rfl
theorem dX12_sayHl_34 : decode cX12_sayHl 34 = .ok (.return_, 1) := zo_177 (zkb zk_cX12_sayHl zn_cX12_sayHl (by decide +kernel))
def kn_cX12_sayPlace : Nat := 0xb12f02b64602132a4302b6053c02b42a0700a7743c02b42a0b009c3c02b42a2a2f02b64102130600a73f021309009c3c02b42a2a2f02b63a02130600a73802130900a0042702b42a2ab12f02b63602132a0b009a3302b42a
theorem zk_cX12_sayPlace : zkd cX12_sayPlace.data.toList kn_cX12_sayPlace = true := by decide +kernel
theorem zn_cX12_sayPlace : cX12_sayPlace.data.toList.length = 88 := by decide +kernel
theorem dX12_sayPlace_0 : decode cX12_sayPlace 0 = .ok (.aload_n 0, 1) := zo_42 (zkb zk_cX12_sayPlace zn_cX12_sayPlace (by decide +kernel))
theorem dX12_sayPlace_1 : decode cX12_sayPlace 1 = .ok (.getfield 563, 3) := zo_180 (b1 := 2) (b2 := 51) (zkb3 zk_cX12_sayPlace zn_cX12_sayPlace (by decide +kernel)) rfl
theorem dX12_sayPlace_4 : decode cX12_sayPlace 4 = .ok (.ifCond .ne 11, 3) := zo_154 (b1 := 0) (b2 := 11) (zkb3 zk_cX12_sayPlace zn_cX12_sayPlace (by decide +kernel)) rfl
theorem dX12_sayPlace_7 : decode cX12_sayPlace 7 = .ok (.aload_n 0, 1) := zo_42 (zkb zk_cX12_sayPlace zn_cX12_sayPlace (by decide +kernel))
theorem dX12_sayPlace_8 : decode cX12_sayPlace 8 = .ok (.ldc_w 566, 3) := zo_19 (b1 := 2) (b2 := 54) (zkb3 zk_cX12_sayPlace zn_cX12_sayPlace (by decide +kernel)) rfl
theorem dX12_sayPlace_11 : decode cX12_sayPlace 11 = .ok (.invokevirtual 559, 3) := zo_182 (b1 := 2) (b2 := 47) (zkb3 zk_cX12_sayPlace zn_cX12_sayPlace (by decide +kernel)) rfl
theorem dX12_sayPlace_14 : decode cX12_sayPlace 14 = .ok (.return_, 1) := zo_177 (zkb zk_cX12_sayPlace zn_cX12_sayPlace (by decide +kernel))
theorem dX12_sayPlace_15 : decode cX12_sayPlace 15 = .ok (.aload_n 0, 1) := zo_42 (zkb zk_cX12_sayPlace zn_cX12_sayPlace (by decide +kernel))
theorem dX12_sayPlace_16 : decode cX12_sayPlace 16 = .ok (.aload_n 0, 1) := zo_42 (zkb zk_cX12_sayPlace zn_cX12_sayPlace (by decide +kernel))
theorem dX12_sayPlace_17 : decode cX12_sayPlace 17 = .ok (.getfield 551, 3) := zo_180 (b1 := 2) (b2 := 39) (zkb3 zk_cX12_sayPlace zn_cX12_sayPlace (by decide +kernel)) rfl
theorem dX12_sayPlace_20 : decode cX12_sayPlace 20 = .ok (.iconst 1, 1) := zo_4 (zkb zk_cX12_sayPlace zn_cX12_sayPlace (by decide +kernel))
theorem dX12_sayPlace_21 : decode cX12_sayPlace 21 = .ok (.if_icmp .ne 9, 3) := zo_160 (b1 := 0) (b2 := 9) (zkb3 zk_cX12_sayPlace zn_cX12_sayPlace (by decide +kernel)) rfl
theorem dX12_sayPlace_24 : decode cX12_sayPlace 24 = .ok (.ldc_w 568, 3) := zo_19 (b1 := 2) (b2 := 56) (zkb3 zk_cX12_sayPlace zn_cX12_sayPlace (by decide +kernel)) rfl
theorem dX12_sayPlace_27 : decode cX12_sayPlace 27 = .ok (.goto 6, 3) := zo_167 (b1 := 0) (b2 := 6) (zkb3 zk_cX12_sayPlace zn_cX12_sayPlace (by decide +kernel)) rfl
theorem dX12_sayPlace_30 : decode cX12_sayPlace 30 = .ok (.ldc_w 570, 3) := zo_19 (b1 := 2) (b2 := 58) (zkb3 zk_cX12_sayPlace zn_cX12_sayPlace (by decide +kernel)) rfl
theorem dX12_sayPlace_33 : decode cX12_sayPlace 33 = .ok (.invokevirtual 559, 3) := zo_182 (b1 := 2) (b2 := 47) (zkb3 zk_cX12_sayPlace zn_cX12_sayPlace (by decide +kernel)) rfl
theorem dX12_sayPlace_36 : decode cX12_sayPlace 36 = .ok (.aload_n 0, 1) := zo_42 (zkb zk_cX12_sayPlace zn_cX12_sayPlace (by decide +kernel))
theorem dX12_sayPlace_37 : decode cX12_sayPlace 37 = .ok (.aload_n 0, 1) := zo_42 (zkb zk_cX12_sayPlace zn_cX12_sayPlace (by decide +kernel))
theorem dX12_sayPlace_38 : decode cX12_sayPlace 38 = .ok (.getfield 572, 3) := zo_180 (b1 := 2) (b2 := 60) (zkb3 zk_cX12_sayPlace zn_cX12_sayPlace (by decide +kernel)) rfl
theorem dX12_sayPlace_41 : decode cX12_sayPlace 41 = .ok (.ifCond .ge 9, 3) := zo_156 (b1 := 0) (b2 := 9) (zkb3 zk_cX12_sayPlace zn_cX12_sayPlace (by decide +kernel)) rfl
theorem dX12_sayPlace_44 : decode cX12_sayPlace 44 = .ok (.ldc_w 575, 3) := zo_19 (b1 := 2) (b2 := 63) (zkb3 zk_cX12_sayPlace zn_cX12_sayPlace (by decide +kernel)) rfl
theorem dX12_sayPlace_47 : decode cX12_sayPlace 47 = .ok (.goto 6, 3) := zo_167 (b1 := 0) (b2 := 6) (zkb3 zk_cX12_sayPlace zn_cX12_sayPlace (by decide +kernel)) rfl
theorem dX12_sayPlace_50 : decode cX12_sayPlace 50 = .ok (.ldc_w 577, 3) := zo_19 (b1 := 2) (b2 := 65) (zkb3 zk_cX12_sayPlace zn_cX12_sayPlace (by decide +kernel)) rfl
theorem dX12_sayPlace_53 : decode cX12_sayPlace 53 = .ok (.invokevirtual 559, 3) := zo_182 (b1 := 2) (b2 := 47) (zkb3 zk_cX12_sayPlace zn_cX12_sayPlace (by decide +kernel)) rfl
theorem dX12_sayPlace_56 : decode cX12_sayPlace 56 = .ok (.aload_n 0, 1) := zo_42 (zkb zk_cX12_sayPlace zn_cX12_sayPlace (by decide +kernel))
theorem dX12_sayPlace_57 : decode cX12_sayPlace 57 = .ok (.aload_n 0, 1) := zo_42 (zkb zk_cX12_sayPlace zn_cX12_sayPlace (by decide +kernel))
theorem dX12_sayPlace_58 : decode cX12_sayPlace 58 = .ok (.getfield 572, 3) := zo_180 (b1 := 2) (b2 := 60) (zkb3 zk_cX12_sayPlace zn_cX12_sayPlace (by decide +kernel)) rfl
theorem dX12_sayPlace_61 : decode cX12_sayPlace 61 = .ok (.ifCond .ge 11, 3) := zo_156 (b1 := 0) (b2 := 11) (zkb3 zk_cX12_sayPlace zn_cX12_sayPlace (by decide +kernel)) rfl
theorem dX12_sayPlace_64 : decode cX12_sayPlace 64 = .ok (.aload_n 0, 1) := zo_42 (zkb zk_cX12_sayPlace zn_cX12_sayPlace (by decide +kernel))
theorem dX12_sayPlace_65 : decode cX12_sayPlace 65 = .ok (.getfield 572, 3) := zo_180 (b1 := 2) (b2 := 60) (zkb3 zk_cX12_sayPlace zn_cX12_sayPlace (by decide +kernel)) rfl
theorem dX12_sayPlace_68 : decode cX12_sayPlace 68 = .ok (.ineg, 1) := zo_116 (zkb zk_cX12_sayPlace zn_cX12_sayPlace (by decide +kernel))
theorem dX12_sayPlace_69 : decode cX12_sayPlace 69 = .ok (.goto 7, 3) := zo_167 (b1 := 0) (b2 := 7) (zkb3 zk_cX12_sayPlace zn_cX12_sayPlace (by decide +kernel)) rfl
theorem dX12_sayPlace_72 : decode cX12_sayPlace 72 = .ok (.aload_n 0, 1) := zo_42 (zkb zk_cX12_sayPlace zn_cX12_sayPlace (by decide +kernel))
theorem dX12_sayPlace_73 : decode cX12_sayPlace 73 = .ok (.getfield 572, 3) := zo_180 (b1 := 2) (b2 := 60) (zkb3 zk_cX12_sayPlace zn_cX12_sayPlace (by decide +kernel)) rfl
theorem dX12_sayPlace_76 : decode cX12_sayPlace 76 = .ok (.iconst 2, 1) := zo_5 (zkb zk_cX12_sayPlace zn_cX12_sayPlace (by decide +kernel))
theorem dX12_sayPlace_77 : decode cX12_sayPlace 77 = .ok (.invokevirtual 579, 3) := zo_182 (b1 := 2) (b2 := 67) (zkb3 zk_cX12_sayPlace zn_cX12_sayPlace (by decide +kernel)) rfl
theorem dX12_sayPlace_80 : decode cX12_sayPlace 80 = .ok (.aload_n 0, 1) := zo_42 (zkb zk_cX12_sayPlace zn_cX12_sayPlace (by decide +kernel))
theorem dX12_sayPlace_81 : decode cX12_sayPlace 81 = .ok (.ldc_w 582, 3) := zo_19 (b1 := 2) (b2 := 70) (zkb3 zk_cX12_sayPlace zn_cX12_sayPlace (by decide +kernel)) rfl
theorem dX12_sayPlace_84 : decode cX12_sayPlace 84 = .ok (.invokevirtual 559, 3) := zo_182 (b1 := 2) (b2 := 47) (zkb3 zk_cX12_sayPlace zn_cX12_sayPlace (by decide +kernel)) rfl
theorem dX12_sayPlace_87 : decode cX12_sayPlace 87 = .ok (.return_, 1) := zo_177 (zkb zk_cX12_sayPlace zn_cX12_sayPlace (by decide +kernel))
def kn_cX12_sayR : Nat := 0xb12f02b65a02130600a75802130900a0081b1100a75602130900a0071b1c00a75402130900a0061b2700a75202130900a0051b3200a75002130900a0041b3d00a74e021309009a1b2a4b02b62a0700a0081b08009f071b11009a3302b42a18009e2702b42ab14802b62a0800a006101b
theorem zk_cX12_sayR : zkd cX12_sayR.data.toList kn_cX12_sayR = true := by decide +kernel
theorem zn_cX12_sayR : cX12_sayR.data.toList.length = 112 := by decide +kernel
theorem dX12_sayR_0 : decode cX12_sayR 0 = .ok (.iload_n 1, 1) := zo_27 (zkb zk_cX12_sayR zn_cX12_sayR (by decide +kernel))
theorem dX12_sayR_1 : decode cX12_sayR 1 = .ok (.bipush 6, 2) := zo_16 (b1 := 6) (zkb2 zk_cX12_sayR zn_cX12_sayR (by decide +kernel)) rfl
theorem dX12_sayR_3 : decode cX12_sayR 3 = .ok (.if_icmp .ne 8, 3) := zo_160 (b1 := 0) (b2 := 8) (zkb3 zk_cX12_sayR zn_cX12_sayR (by decide +kernel)) rfl
theorem dX12_sayR_6 : decode cX12_sayR 6 = .ok (.aload_n 0, 1) := zo_42 (zkb zk_cX12_sayR zn_cX12_sayR (by decide +kernel))
theorem dX12_sayR_7 : decode cX12_sayR 7 = .ok (.invokevirtual 584, 3) := zo_182 (b1 := 2) (b2 := 72) (zkb3 zk_cX12_sayR zn_cX12_sayR (by decide +kernel)) rfl
theorem dX12_sayR_10 : decode cX12_sayR 10 = .ok (.return_, 1) := zo_177 (zkb zk_cX12_sayR zn_cX12_sayR (by decide +kernel))
theorem dX12_sayR_11 : decode cX12_sayR 11 = .ok (.aload_n 0, 1) := zo_42 (zkb zk_cX12_sayR zn_cX12_sayR (by decide +kernel))
theorem dX12_sayR_12 : decode cX12_sayR 12 = .ok (.getfield 551, 3) := zo_180 (b1 := 2) (b2 := 39) (zkb3 zk_cX12_sayR zn_cX12_sayR (by decide +kernel)) rfl
theorem dX12_sayR_15 : decode cX12_sayR 15 = .ok (.ifCond .le 24, 3) := zo_158 (b1 := 0) (b2 := 24) (zkb3 zk_cX12_sayR zn_cX12_sayR (by decide +kernel)) rfl
theorem dX12_sayR_18 : decode cX12_sayR 18 = .ok (.aload_n 0, 1) := zo_42 (zkb zk_cX12_sayR zn_cX12_sayR (by decide +kernel))
theorem dX12_sayR_19 : decode cX12_sayR 19 = .ok (.getfield 563, 3) := zo_180 (b1 := 2) (b2 := 51) (zkb3 zk_cX12_sayR zn_cX12_sayR (by decide +kernel)) rfl
theorem dX12_sayR_22 : decode cX12_sayR 22 = .ok (.ifCond .ne 17, 3) := zo_154 (b1 := 0) (b2 := 17) (zkb3 zk_cX12_sayR zn_cX12_sayR (by decide +kernel)) rfl
theorem dX12_sayR_25 : decode cX12_sayR 25 = .ok (.iload_n 1, 1) := zo_27 (zkb zk_cX12_sayR zn_cX12_sayR (by decide +kernel))
theorem dX12_sayR_26 : decode cX12_sayR 26 = .ok (.iconst 4, 1) := zo_7 (zkb zk_cX12_sayR zn_cX12_sayR (by decide +kernel))
theorem dX12_sayR_27 : decode cX12_sayR 27 = .ok (.if_icmp .eq 8, 3) := zo_159 (b1 := 0) (b2 := 8) (zkb3 zk_cX12_sayR zn_cX12_sayR (by decide +kernel)) rfl
theorem dX12_sayR_30 : decode cX12_sayR 30 = .ok (.iload_n 1, 1) := zo_27 (zkb zk_cX12_sayR zn_cX12_sayR (by decide +kernel))
theorem dX12_sayR_31 : decode cX12_sayR 31 = .ok (.iconst 5, 1) := zo_8 (zkb zk_cX12_sayR zn_cX12_sayR (by decide +kernel))
theorem dX12_sayR_32 : decode cX12_sayR 32 = .ok (.if_icmp .ne 7, 3) := zo_160 (b1 := 0) (b2 := 7) (zkb3 zk_cX12_sayR zn_cX12_sayR (by decide +kernel)) rfl
theorem dX12_sayR_35 : decode cX12_sayR 35 = .ok (.aload_n 0, 1) := zo_42 (zkb zk_cX12_sayR zn_cX12_sayR (by decide +kernel))
theorem dX12_sayR_36 : decode cX12_sayR 36 = .ok (.invokevirtual 587, 3) := zo_182 (b1 := 2) (b2 := 75) (zkb3 zk_cX12_sayR zn_cX12_sayR (by decide +kernel)) rfl
theorem dX12_sayR_39 : decode cX12_sayR 39 = .ok (.aload_n 0, 1) := zo_42 (zkb zk_cX12_sayR zn_cX12_sayR (by decide +kernel))
theorem dX12_sayR_40 : decode cX12_sayR 40 = .ok (.iload_n 1, 1) := zo_27 (zkb zk_cX12_sayR zn_cX12_sayR (by decide +kernel))
theorem dX12_sayR_41 : decode cX12_sayR 41 = .ok (.ifCond .ne 9, 3) := zo_154 (b1 := 0) (b2 := 9) (zkb3 zk_cX12_sayR zn_cX12_sayR (by decide +kernel)) rfl
theorem dX12_sayR_44 : decode cX12_sayR 44 = .ok (.ldc_w 590, 3) := zo_19 (b1 := 2) (b2 := 78) (zkb3 zk_cX12_sayR zn_cX12_sayR (by decide +kernel)) rfl
theorem dX12_sayR_47 : decode cX12_sayR 47 = .ok (.goto 61, 3) := zo_167 (b1 := 0) (b2 := 61) (zkb3 zk_cX12_sayR zn_cX12_sayR (by decide +kernel)) rfl
theorem dX12_sayR_50 : decode cX12_sayR 50 = .ok (.iload_n 1, 1) := zo_27 (zkb zk_cX12_sayR zn_cX12_sayR (by decide +kernel))
theorem dX12_sayR_51 : decode cX12_sayR 51 = .ok (.iconst 1, 1) := zo_4 (zkb zk_cX12_sayR zn_cX12_sayR (by decide +kernel))
theorem dX12_sayR_52 : decode cX12_sayR 52 = .ok (.if_icmp .ne 9, 3) := zo_160 (b1 := 0) (b2 := 9) (zkb3 zk_cX12_sayR zn_cX12_sayR (by decide +kernel)) rfl
theorem dX12_sayR_55 : decode cX12_sayR 55 = .ok (.ldc_w 592, 3) := zo_19 (b1 := 2) (b2 := 80) (zkb3 zk_cX12_sayR zn_cX12_sayR (by decide +kernel)) rfl
theorem dX12_sayR_58 : decode cX12_sayR 58 = .ok (.goto 50, 3) := zo_167 (b1 := 0) (b2 := 50) (zkb3 zk_cX12_sayR zn_cX12_sayR (by decide +kernel)) rfl
theorem dX12_sayR_61 : decode cX12_sayR 61 = .ok (.iload_n 1, 1) := zo_27 (zkb zk_cX12_sayR zn_cX12_sayR (by decide +kernel))
theorem dX12_sayR_62 : decode cX12_sayR 62 = .ok (.iconst 2, 1) := zo_5 (zkb zk_cX12_sayR zn_cX12_sayR (by decide +kernel))
theorem dX12_sayR_63 : decode cX12_sayR 63 = .ok (.if_icmp .ne 9, 3) := zo_160 (b1 := 0) (b2 := 9) (zkb3 zk_cX12_sayR zn_cX12_sayR (by decide +kernel)) rfl
theorem dX12_sayR_66 : decode cX12_sayR 66 = .ok (.ldc_w 594, 3) := zo_19 (b1 := 2) (b2 := 82) (zkb3 zk_cX12_sayR zn_cX12_sayR (by decide +kernel)) rfl
theorem dX12_sayR_69 : decode cX12_sayR 69 = .ok (.goto 39, 3) := zo_167 (b1 := 0) (b2 := 39) (zkb3 zk_cX12_sayR zn_cX12_sayR (by decide +kernel)) rfl
theorem dX12_sayR_72 : decode cX12_sayR 72 = .ok (.iload_n 1, 1) := zo_27 (zkb zk_cX12_sayR zn_cX12_sayR (by decide +kernel))
theorem dX12_sayR_73 : decode cX12_sayR 73 = .ok (.iconst 3, 1) := zo_6 (zkb zk_cX12_sayR zn_cX12_sayR (by decide +kernel))
theorem dX12_sayR_74 : decode cX12_sayR 74 = .ok (.if_icmp .ne 9, 3) := zo_160 (b1 := 0) (b2 := 9) (zkb3 zk_cX12_sayR zn_cX12_sayR (by decide +kernel)) rfl
theorem dX12_sayR_77 : decode cX12_sayR 77 = .ok (.ldc_w 596, 3) := zo_19 (b1 := 2) (b2 := 84) (zkb3 zk_cX12_sayR zn_cX12_sayR (by decide +kernel)) rfl
theorem dX12_sayR_80 : decode cX12_sayR 80 = .ok (.goto 28, 3) := zo_167 (b1 := 0) (b2 := 28) (zkb3 zk_cX12_sayR zn_cX12_sayR (by decide +kernel)) rfl
theorem dX12_sayR_83 : decode cX12_sayR 83 = .ok (.iload_n 1, 1) := zo_27 (zkb zk_cX12_sayR zn_cX12_sayR (by decide +kernel))
theorem dX12_sayR_84 : decode cX12_sayR 84 = .ok (.iconst 4, 1) := zo_7 (zkb zk_cX12_sayR zn_cX12_sayR (by decide +kernel))
theorem dX12_sayR_85 : decode cX12_sayR 85 = .ok (.if_icmp .ne 9, 3) := zo_160 (b1 := 0) (b2 := 9) (zkb3 zk_cX12_sayR zn_cX12_sayR (by decide +kernel)) rfl
theorem dX12_sayR_88 : decode cX12_sayR 88 = .ok (.ldc_w 598, 3) := zo_19 (b1 := 2) (b2 := 86) (zkb3 zk_cX12_sayR zn_cX12_sayR (by decide +kernel)) rfl
theorem dX12_sayR_91 : decode cX12_sayR 91 = .ok (.goto 17, 3) := zo_167 (b1 := 0) (b2 := 17) (zkb3 zk_cX12_sayR zn_cX12_sayR (by decide +kernel)) rfl
theorem dX12_sayR_94 : decode cX12_sayR 94 = .ok (.iload_n 1, 1) := zo_27 (zkb zk_cX12_sayR zn_cX12_sayR (by decide +kernel))
theorem dX12_sayR_95 : decode cX12_sayR 95 = .ok (.iconst 5, 1) := zo_8 (zkb zk_cX12_sayR zn_cX12_sayR (by decide +kernel))
theorem dX12_sayR_96 : decode cX12_sayR 96 = .ok (.if_icmp .ne 9, 3) := zo_160 (b1 := 0) (b2 := 9) (zkb3 zk_cX12_sayR zn_cX12_sayR (by decide +kernel)) rfl
theorem dX12_sayR_99 : decode cX12_sayR 99 = .ok (.ldc_w 600, 3) := zo_19 (b1 := 2) (b2 := 88) (zkb3 zk_cX12_sayR zn_cX12_sayR (by decide +kernel)) rfl
theorem dX12_sayR_102 : decode cX12_sayR 102 = .ok (.goto 6, 3) := zo_167 (b1 := 0) (b2 := 6) (zkb3 zk_cX12_sayR zn_cX12_sayR (by decide +kernel)) rfl
theorem dX12_sayR_105 : decode cX12_sayR 105 = .ok (.ldc_w 602, 3) := zo_19 (b1 := 2) (b2 := 90) (zkb3 zk_cX12_sayR zn_cX12_sayR (by decide +kernel)) rfl
theorem dX12_sayR_108 : decode cX12_sayR 108 = .ok (.invokevirtual 559, 3) := zo_182 (b1 := 2) (b2 := 47) (zkb3 zk_cX12_sayR zn_cX12_sayR (by decide +kernel)) rfl
theorem dX12_sayR_111 : decode cX12_sayR 111 = .ok (.return_, 1) := zo_177 (zkb zk_cX12_sayR zn_cX12_sayR (by decide +kernel))
def kn_cX12_sayRp : Nat := 0xb12f02b66202130600a76002130900991c1000a75e02130900a0041b1b00a75c021309009a1b2a2900a74b02b62a0a00a0051b
theorem zk_cX12_sayRp : zkd cX12_sayRp.data.toList kn_cX12_sayRp = true := by decide +kernel
theorem zn_cX12_sayRp : cX12_sayRp.data.toList.length = 51 := by decide +kernel
theorem dX12_sayRp_0 : decode cX12_sayRp 0 = .ok (.iload_n 1, 1) := zo_27 (zkb zk_cX12_sayRp zn_cX12_sayRp (by decide +kernel))
theorem dX12_sayRp_1 : decode cX12_sayRp 1 = .ok (.iconst 2, 1) := zo_5 (zkb zk_cX12_sayRp zn_cX12_sayRp (by decide +kernel))
theorem dX12_sayRp_2 : decode cX12_sayRp 2 = .ok (.if_icmp .ne 10, 3) := zo_160 (b1 := 0) (b2 := 10) (zkb3 zk_cX12_sayRp zn_cX12_sayRp (by decide +kernel)) rfl
theorem dX12_sayRp_5 : decode cX12_sayRp 5 = .ok (.aload_n 0, 1) := zo_42 (zkb zk_cX12_sayRp zn_cX12_sayRp (by decide +kernel))
theorem dX12_sayRp_6 : decode cX12_sayRp 6 = .ok (.invokevirtual 587, 3) := zo_182 (b1 := 2) (b2 := 75) (zkb3 zk_cX12_sayRp zn_cX12_sayRp (by decide +kernel)) rfl
theorem dX12_sayRp_9 : decode cX12_sayRp 9 = .ok (.goto 41, 3) := zo_167 (b1 := 0) (b2 := 41) (zkb3 zk_cX12_sayRp zn_cX12_sayRp (by decide +kernel)) rfl
theorem dX12_sayRp_12 : decode cX12_sayRp 12 = .ok (.aload_n 0, 1) := zo_42 (zkb zk_cX12_sayRp zn_cX12_sayRp (by decide +kernel))
theorem dX12_sayRp_13 : decode cX12_sayRp 13 = .ok (.iload_n 1, 1) := zo_27 (zkb zk_cX12_sayRp zn_cX12_sayRp (by decide +kernel))
theorem dX12_sayRp_14 : decode cX12_sayRp 14 = .ok (.ifCond .ne 9, 3) := zo_154 (b1 := 0) (b2 := 9) (zkb3 zk_cX12_sayRp zn_cX12_sayRp (by decide +kernel)) rfl
theorem dX12_sayRp_17 : decode cX12_sayRp 17 = .ok (.ldc_w 604, 3) := zo_19 (b1 := 2) (b2 := 92) (zkb3 zk_cX12_sayRp zn_cX12_sayRp (by decide +kernel)) rfl
theorem dX12_sayRp_20 : decode cX12_sayRp 20 = .ok (.goto 27, 3) := zo_167 (b1 := 0) (b2 := 27) (zkb3 zk_cX12_sayRp zn_cX12_sayRp (by decide +kernel)) rfl
theorem dX12_sayRp_23 : decode cX12_sayRp 23 = .ok (.iload_n 1, 1) := zo_27 (zkb zk_cX12_sayRp zn_cX12_sayRp (by decide +kernel))
theorem dX12_sayRp_24 : decode cX12_sayRp 24 = .ok (.iconst 1, 1) := zo_4 (zkb zk_cX12_sayRp zn_cX12_sayRp (by decide +kernel))
theorem dX12_sayRp_25 : decode cX12_sayRp 25 = .ok (.if_icmp .ne 9, 3) := zo_160 (b1 := 0) (b2 := 9) (zkb3 zk_cX12_sayRp zn_cX12_sayRp (by decide +kernel)) rfl
theorem dX12_sayRp_28 : decode cX12_sayRp 28 = .ok (.ldc_w 606, 3) := zo_19 (b1 := 2) (b2 := 94) (zkb3 zk_cX12_sayRp zn_cX12_sayRp (by decide +kernel)) rfl
theorem dX12_sayRp_31 : decode cX12_sayRp 31 = .ok (.goto 16, 3) := zo_167 (b1 := 0) (b2 := 16) (zkb3 zk_cX12_sayRp zn_cX12_sayRp (by decide +kernel)) rfl
theorem dX12_sayRp_34 : decode cX12_sayRp 34 = .ok (.iload_n 2, 1) := zo_28 (zkb zk_cX12_sayRp zn_cX12_sayRp (by decide +kernel))
theorem dX12_sayRp_35 : decode cX12_sayRp 35 = .ok (.ifCond .eq 9, 3) := zo_153 (b1 := 0) (b2 := 9) (zkb3 zk_cX12_sayRp zn_cX12_sayRp (by decide +kernel)) rfl
theorem dX12_sayRp_38 : decode cX12_sayRp 38 = .ok (.ldc_w 608, 3) := zo_19 (b1 := 2) (b2 := 96) (zkb3 zk_cX12_sayRp zn_cX12_sayRp (by decide +kernel)) rfl
theorem dX12_sayRp_41 : decode cX12_sayRp 41 = .ok (.goto 6, 3) := zo_167 (b1 := 0) (b2 := 6) (zkb3 zk_cX12_sayRp zn_cX12_sayRp (by decide +kernel)) rfl
theorem dX12_sayRp_44 : decode cX12_sayRp 44 = .ok (.ldc_w 610, 3) := zo_19 (b1 := 2) (b2 := 98) (zkb3 zk_cX12_sayRp zn_cX12_sayRp (by decide +kernel)) rfl
theorem dX12_sayRp_47 : decode cX12_sayRp 47 = .ok (.invokevirtual 559, 3) := zo_182 (b1 := 2) (b2 := 47) (zkb3 zk_cX12_sayRp zn_cX12_sayRp (by decide +kernel)) rfl
theorem dX12_sayRp_50 : decode cX12_sayRp 50 = .ok (.return_, 1) := zo_177 (zkb zk_cX12_sayRp zn_cX12_sayRp (by decide +kernel))
def kn_cX12_sayCc : Nat := 0xb12f02b67002130600a76e02130900a006101b1200a76c02130900a0081b1d00a76a02130900a0071b2800a75002130900a0061b3300a76802130900a0051b3e00a76602130900a0041b4900a764021309009a1b2a
theorem zk_cX12_sayCc : zkd cX12_sayCc.data.toList kn_cX12_sayCc = true := by decide +kernel
theorem zn_cX12_sayCc : cX12_sayCc.data.toList.length = 85 := by decide +kernel
theorem dX12_sayCc_0 : decode cX12_sayCc 0 = .ok (.aload_n 0, 1) := zo_42 (zkb zk_cX12_sayCc zn_cX12_sayCc (by decide +kernel))
theorem dX12_sayCc_1 : decode cX12_sayCc 1 = .ok (.iload_n 1, 1) := zo_27 (zkb zk_cX12_sayCc zn_cX12_sayCc (by decide +kernel))
theorem dX12_sayCc_2 : decode cX12_sayCc 2 = .ok (.ifCond .ne 9, 3) := zo_154 (b1 := 0) (b2 := 9) (zkb3 zk_cX12_sayCc zn_cX12_sayCc (by decide +kernel)) rfl
theorem dX12_sayCc_5 : decode cX12_sayCc 5 = .ok (.ldc_w 612, 3) := zo_19 (b1 := 2) (b2 := 100) (zkb3 zk_cX12_sayCc zn_cX12_sayCc (by decide +kernel)) rfl
theorem dX12_sayCc_8 : decode cX12_sayCc 8 = .ok (.goto 73, 3) := zo_167 (b1 := 0) (b2 := 73) (zkb3 zk_cX12_sayCc zn_cX12_sayCc (by decide +kernel)) rfl
theorem dX12_sayCc_11 : decode cX12_sayCc 11 = .ok (.iload_n 1, 1) := zo_27 (zkb zk_cX12_sayCc zn_cX12_sayCc (by decide +kernel))
theorem dX12_sayCc_12 : decode cX12_sayCc 12 = .ok (.iconst 1, 1) := zo_4 (zkb zk_cX12_sayCc zn_cX12_sayCc (by decide +kernel))
theorem dX12_sayCc_13 : decode cX12_sayCc 13 = .ok (.if_icmp .ne 9, 3) := zo_160 (b1 := 0) (b2 := 9) (zkb3 zk_cX12_sayCc zn_cX12_sayCc (by decide +kernel)) rfl
theorem dX12_sayCc_16 : decode cX12_sayCc 16 = .ok (.ldc_w 614, 3) := zo_19 (b1 := 2) (b2 := 102) (zkb3 zk_cX12_sayCc zn_cX12_sayCc (by decide +kernel)) rfl
theorem dX12_sayCc_19 : decode cX12_sayCc 19 = .ok (.goto 62, 3) := zo_167 (b1 := 0) (b2 := 62) (zkb3 zk_cX12_sayCc zn_cX12_sayCc (by decide +kernel)) rfl
theorem dX12_sayCc_22 : decode cX12_sayCc 22 = .ok (.iload_n 1, 1) := zo_27 (zkb zk_cX12_sayCc zn_cX12_sayCc (by decide +kernel))
theorem dX12_sayCc_23 : decode cX12_sayCc 23 = .ok (.iconst 2, 1) := zo_5 (zkb zk_cX12_sayCc zn_cX12_sayCc (by decide +kernel))
theorem dX12_sayCc_24 : decode cX12_sayCc 24 = .ok (.if_icmp .ne 9, 3) := zo_160 (b1 := 0) (b2 := 9) (zkb3 zk_cX12_sayCc zn_cX12_sayCc (by decide +kernel)) rfl
theorem dX12_sayCc_27 : decode cX12_sayCc 27 = .ok (.ldc_w 616, 3) := zo_19 (b1 := 2) (b2 := 104) (zkb3 zk_cX12_sayCc zn_cX12_sayCc (by decide +kernel)) rfl
theorem dX12_sayCc_30 : decode cX12_sayCc 30 = .ok (.goto 51, 3) := zo_167 (b1 := 0) (b2 := 51) (zkb3 zk_cX12_sayCc zn_cX12_sayCc (by decide +kernel)) rfl
theorem dX12_sayCc_33 : decode cX12_sayCc 33 = .ok (.iload_n 1, 1) := zo_27 (zkb zk_cX12_sayCc zn_cX12_sayCc (by decide +kernel))
theorem dX12_sayCc_34 : decode cX12_sayCc 34 = .ok (.iconst 3, 1) := zo_6 (zkb zk_cX12_sayCc zn_cX12_sayCc (by decide +kernel))
theorem dX12_sayCc_35 : decode cX12_sayCc 35 = .ok (.if_icmp .ne 9, 3) := zo_160 (b1 := 0) (b2 := 9) (zkb3 zk_cX12_sayCc zn_cX12_sayCc (by decide +kernel)) rfl
theorem dX12_sayCc_38 : decode cX12_sayCc 38 = .ok (.ldc_w 592, 3) := zo_19 (b1 := 2) (b2 := 80) (zkb3 zk_cX12_sayCc zn_cX12_sayCc (by decide +kernel)) rfl
theorem dX12_sayCc_41 : decode cX12_sayCc 41 = .ok (.goto 40, 3) := zo_167 (b1 := 0) (b2 := 40) (zkb3 zk_cX12_sayCc zn_cX12_sayCc (by decide +kernel)) rfl
theorem dX12_sayCc_44 : decode cX12_sayCc 44 = .ok (.iload_n 1, 1) := zo_27 (zkb zk_cX12_sayCc zn_cX12_sayCc (by decide +kernel))
theorem dX12_sayCc_45 : decode cX12_sayCc 45 = .ok (.iconst 4, 1) := zo_7 (zkb zk_cX12_sayCc zn_cX12_sayCc (by decide +kernel))
theorem dX12_sayCc_46 : decode cX12_sayCc 46 = .ok (.if_icmp .ne 9, 3) := zo_160 (b1 := 0) (b2 := 9) (zkb3 zk_cX12_sayCc zn_cX12_sayCc (by decide +kernel)) rfl
theorem dX12_sayCc_49 : decode cX12_sayCc 49 = .ok (.ldc_w 618, 3) := zo_19 (b1 := 2) (b2 := 106) (zkb3 zk_cX12_sayCc zn_cX12_sayCc (by decide +kernel)) rfl
theorem dX12_sayCc_52 : decode cX12_sayCc 52 = .ok (.goto 29, 3) := zo_167 (b1 := 0) (b2 := 29) (zkb3 zk_cX12_sayCc zn_cX12_sayCc (by decide +kernel)) rfl
theorem dX12_sayCc_55 : decode cX12_sayCc 55 = .ok (.iload_n 1, 1) := zo_27 (zkb zk_cX12_sayCc zn_cX12_sayCc (by decide +kernel))
theorem dX12_sayCc_56 : decode cX12_sayCc 56 = .ok (.iconst 5, 1) := zo_8 (zkb zk_cX12_sayCc zn_cX12_sayCc (by decide +kernel))
theorem dX12_sayCc_57 : decode cX12_sayCc 57 = .ok (.if_icmp .ne 9, 3) := zo_160 (b1 := 0) (b2 := 9) (zkb3 zk_cX12_sayCc zn_cX12_sayCc (by decide +kernel)) rfl
theorem dX12_sayCc_60 : decode cX12_sayCc 60 = .ok (.ldc_w 620, 3) := zo_19 (b1 := 2) (b2 := 108) (zkb3 zk_cX12_sayCc zn_cX12_sayCc (by decide +kernel)) rfl
theorem dX12_sayCc_63 : decode cX12_sayCc 63 = .ok (.goto 18, 3) := zo_167 (b1 := 0) (b2 := 18) (zkb3 zk_cX12_sayCc zn_cX12_sayCc (by decide +kernel)) rfl
theorem dX12_sayCc_66 : decode cX12_sayCc 66 = .ok (.iload_n 1, 1) := zo_27 (zkb zk_cX12_sayCc zn_cX12_sayCc (by decide +kernel))
theorem dX12_sayCc_67 : decode cX12_sayCc 67 = .ok (.bipush 6, 2) := zo_16 (b1 := 6) (zkb2 zk_cX12_sayCc zn_cX12_sayCc (by decide +kernel)) rfl
theorem dX12_sayCc_69 : decode cX12_sayCc 69 = .ok (.if_icmp .ne 9, 3) := zo_160 (b1 := 0) (b2 := 9) (zkb3 zk_cX12_sayCc zn_cX12_sayCc (by decide +kernel)) rfl
theorem dX12_sayCc_72 : decode cX12_sayCc 72 = .ok (.ldc_w 622, 3) := zo_19 (b1 := 2) (b2 := 110) (zkb3 zk_cX12_sayCc zn_cX12_sayCc (by decide +kernel)) rfl
theorem dX12_sayCc_75 : decode cX12_sayCc 75 = .ok (.goto 6, 3) := zo_167 (b1 := 0) (b2 := 6) (zkb3 zk_cX12_sayCc zn_cX12_sayCc (by decide +kernel)) rfl
theorem dX12_sayCc_78 : decode cX12_sayCc 78 = .ok (.ldc_w 624, 3) := zo_19 (b1 := 2) (b2 := 112) (zkb3 zk_cX12_sayCc zn_cX12_sayCc (by decide +kernel)) rfl
theorem dX12_sayCc_81 : decode cX12_sayCc 81 = .ok (.invokevirtual 559, 3) := zo_182 (b1 := 2) (b2 := 47) (zkb3 zk_cX12_sayCc zn_cX12_sayCc (by decide +kernel)) rfl
theorem dX12_sayCc_84 : decode cX12_sayCc 84 = .ok (.return_, 1) := zo_177 (zkb zk_cX12_sayCc zn_cX12_sayCc (by decide +kernel))
def kn_cX12_sayPlaced : Nat := 0xb12f02b64602132a4302b6071b2a2f02b67102132a
theorem zk_cX12_sayPlaced : zkd cX12_sayPlaced.data.toList kn_cX12_sayPlaced = true := by decide +kernel
theorem zn_cX12_sayPlaced : cX12_sayPlaced.data.toList.length = 21 := by decide +kernel
theorem dX12_sayPlaced_0 : decode cX12_sayPlaced 0 = .ok (.aload_n 0, 1) := zo_42 (zkb zk_cX12_sayPlaced zn_cX12_sayPlaced (by decide +kernel))
theorem dX12_sayPlaced_1 : decode cX12_sayPlaced 1 = .ok (.ldc_w 625, 3) := zo_19 (b1 := 2) (b2 := 113) (zkb3 zk_cX12_sayPlaced zn_cX12_sayPlaced (by decide +kernel)) rfl
theorem dX12_sayPlaced_4 : decode cX12_sayPlaced 4 = .ok (.invokevirtual 559, 3) := zo_182 (b1 := 2) (b2 := 47) (zkb3 zk_cX12_sayPlaced zn_cX12_sayPlaced (by decide +kernel)) rfl
theorem dX12_sayPlaced_7 : decode cX12_sayPlaced 7 = .ok (.aload_n 0, 1) := zo_42 (zkb zk_cX12_sayPlaced zn_cX12_sayPlaced (by decide +kernel))
theorem dX12_sayPlaced_8 : decode cX12_sayPlaced 8 = .ok (.iload_n 1, 1) := zo_27 (zkb zk_cX12_sayPlaced zn_cX12_sayPlaced (by decide +kernel))
theorem dX12_sayPlaced_9 : decode cX12_sayPlaced 9 = .ok (.iconst 4, 1) := zo_7 (zkb zk_cX12_sayPlaced zn_cX12_sayPlaced (by decide +kernel))
theorem dX12_sayPlaced_10 : decode cX12_sayPlaced 10 = .ok (.invokevirtual 579, 3) := zo_182 (b1 := 2) (b2 := 67) (zkb3 zk_cX12_sayPlaced zn_cX12_sayPlaced (by decide +kernel)) rfl
theorem dX12_sayPlaced_13 : decode cX12_sayPlaced 13 = .ok (.aload_n 0, 1) := zo_42 (zkb zk_cX12_sayPlaced zn_cX12_sayPlaced (by decide +kernel))
theorem dX12_sayPlaced_14 : decode cX12_sayPlaced 14 = .ok (.ldc_w 582, 3) := zo_19 (b1 := 2) (b2 := 70) (zkb3 zk_cX12_sayPlaced zn_cX12_sayPlaced (by decide +kernel)) rfl
theorem dX12_sayPlaced_17 : decode cX12_sayPlaced 17 = .ok (.invokevirtual 559, 3) := zo_182 (b1 := 2) (b2 := 47) (zkb3 zk_cX12_sayPlaced zn_cX12_sayPlaced (by decide +kernel)) rfl
theorem dX12_sayPlaced_20 : decode cX12_sayPlaced 20 = .ok (.return_, 1) := zo_177 (zkb zk_cX12_sayPlaced zn_cX12_sayPlaced (by decide +kernel))
def kn_cX12_sayJump : Nat := 0xb14302b6077e8f12601b2102b42a2a3cf700b82402b62a
theorem zk_cX12_sayJump : zkd cX12_sayJump.data.toList kn_cX12_sayJump = true := by decide +kernel
theorem zn_cX12_sayJump : cX12_sayJump.data.toList.length = 23 := by decide +kernel
theorem dX12_sayJump_0 : decode cX12_sayJump 0 = .ok (.aload_n 0, 1) := zo_42 (zkb zk_cX12_sayJump zn_cX12_sayJump (by decide +kernel))
theorem dX12_sayJump_1 : decode cX12_sayJump 1 = .ok (.invokevirtual 548, 3) := zo_182 (b1 := 2) (b2 := 36) (zkb3 zk_cX12_sayJump zn_cX12_sayJump (by decide +kernel)) rfl
theorem dX12_sayJump_4 : decode cX12_sayJump 4 = .ok (.invokestatic 247, 3) := zo_184 (b1 := 0) (b2 := 247) (zkb3 zk_cX12_sayJump zn_cX12_sayJump (by decide +kernel)) rfl
theorem dX12_sayJump_7 : decode cX12_sayJump 7 = .ok (.istore_n 1, 1) := zo_60 (zkb zk_cX12_sayJump zn_cX12_sayJump (by decide +kernel))
theorem dX12_sayJump_8 : decode cX12_sayJump 8 = .ok (.aload_n 0, 1) := zo_42 (zkb zk_cX12_sayJump zn_cX12_sayJump (by decide +kernel))
theorem dX12_sayJump_9 : decode cX12_sayJump 9 = .ok (.aload_n 0, 1) := zo_42 (zkb zk_cX12_sayJump zn_cX12_sayJump (by decide +kernel))
theorem dX12_sayJump_10 : decode cX12_sayJump 10 = .ok (.getfield 545, 3) := zo_180 (b1 := 2) (b2 := 33) (zkb3 zk_cX12_sayJump zn_cX12_sayJump (by decide +kernel)) rfl
theorem dX12_sayJump_13 : decode cX12_sayJump 13 = .ok (.iload_n 1, 1) := zo_27 (zkb zk_cX12_sayJump zn_cX12_sayJump (by decide +kernel))
theorem dX12_sayJump_14 : decode cX12_sayJump 14 = .ok (.iadd, 1) := zo_96 (zkb zk_cX12_sayJump zn_cX12_sayJump (by decide +kernel))
theorem dX12_sayJump_15 : decode cX12_sayJump 15 = .ok (.ldc 143, 2) := zo_18 (b1 := 143) (zkb2 zk_cX12_sayJump zn_cX12_sayJump (by decide +kernel))
theorem dX12_sayJump_17 : decode cX12_sayJump 17 = .ok (.iand, 1) := zo_126 (zkb zk_cX12_sayJump zn_cX12_sayJump (by decide +kernel))
theorem dX12_sayJump_18 : decode cX12_sayJump 18 = .ok (.iconst 4, 1) := zo_7 (zkb zk_cX12_sayJump zn_cX12_sayJump (by decide +kernel))
theorem dX12_sayJump_19 : decode cX12_sayJump 19 = .ok (.invokevirtual 579, 3) := zo_182 (b1 := 2) (b2 := 67) (zkb3 zk_cX12_sayJump zn_cX12_sayJump (by decide +kernel)) rfl
theorem dX12_sayJump_22 : decode cX12_sayJump 22 = .ok (.return_, 1) := zo_177 (zkb zk_cX12_sayJump zn_cX12_sayJump (by decide +kernel))
def kn_cX12_sayDo : Nat := 0xb12f02b68102130600a77f02130900a006101b1200a77d02130900a0081b1d00a77b02130900a0071b2800a77902130900a0061b3300a77702130900a0051b3e00a77502130900a0041b4900a773021309009a1b2a
theorem zk_cX12_sayDo : zkd cX12_sayDo.data.toList kn_cX12_sayDo = true := by decide +kernel
theorem zn_cX12_sayDo : cX12_sayDo.data.toList.length = 85 := by decide +kernel
theorem dX12_sayDo_0 : decode cX12_sayDo 0 = .ok (.aload_n 0, 1) := zo_42 (zkb zk_cX12_sayDo zn_cX12_sayDo (by decide +kernel))
theorem dX12_sayDo_1 : decode cX12_sayDo 1 = .ok (.iload_n 1, 1) := zo_27 (zkb zk_cX12_sayDo zn_cX12_sayDo (by decide +kernel))
theorem dX12_sayDo_2 : decode cX12_sayDo 2 = .ok (.ifCond .ne 9, 3) := zo_154 (b1 := 0) (b2 := 9) (zkb3 zk_cX12_sayDo zn_cX12_sayDo (by decide +kernel)) rfl
theorem dX12_sayDo_5 : decode cX12_sayDo 5 = .ok (.ldc_w 627, 3) := zo_19 (b1 := 2) (b2 := 115) (zkb3 zk_cX12_sayDo zn_cX12_sayDo (by decide +kernel)) rfl
theorem dX12_sayDo_8 : decode cX12_sayDo 8 = .ok (.goto 73, 3) := zo_167 (b1 := 0) (b2 := 73) (zkb3 zk_cX12_sayDo zn_cX12_sayDo (by decide +kernel)) rfl
theorem dX12_sayDo_11 : decode cX12_sayDo 11 = .ok (.iload_n 1, 1) := zo_27 (zkb zk_cX12_sayDo zn_cX12_sayDo (by decide +kernel))
theorem dX12_sayDo_12 : decode cX12_sayDo 12 = .ok (.iconst 1, 1) := zo_4 (zkb zk_cX12_sayDo zn_cX12_sayDo (by decide +kernel))
theorem dX12_sayDo_13 : decode cX12_sayDo 13 = .ok (.if_icmp .ne 9, 3) := zo_160 (b1 := 0) (b2 := 9) (zkb3 zk_cX12_sayDo zn_cX12_sayDo (by decide +kernel)) rfl
theorem dX12_sayDo_16 : decode cX12_sayDo 16 = .ok (.ldc_w 629, 3) := zo_19 (b1 := 2) (b2 := 117) (zkb3 zk_cX12_sayDo zn_cX12_sayDo (by decide +kernel)) rfl
theorem dX12_sayDo_19 : decode cX12_sayDo 19 = .ok (.goto 62, 3) := zo_167 (b1 := 0) (b2 := 62) (zkb3 zk_cX12_sayDo zn_cX12_sayDo (by decide +kernel)) rfl
theorem dX12_sayDo_22 : decode cX12_sayDo 22 = .ok (.iload_n 1, 1) := zo_27 (zkb zk_cX12_sayDo zn_cX12_sayDo (by decide +kernel))
theorem dX12_sayDo_23 : decode cX12_sayDo 23 = .ok (.iconst 2, 1) := zo_5 (zkb zk_cX12_sayDo zn_cX12_sayDo (by decide +kernel))
theorem dX12_sayDo_24 : decode cX12_sayDo 24 = .ok (.if_icmp .ne 9, 3) := zo_160 (b1 := 0) (b2 := 9) (zkb3 zk_cX12_sayDo zn_cX12_sayDo (by decide +kernel)) rfl
theorem dX12_sayDo_27 : decode cX12_sayDo 27 = .ok (.ldc_w 631, 3) := zo_19 (b1 := 2) (b2 := 119) (zkb3 zk_cX12_sayDo zn_cX12_sayDo (by decide +kernel)) rfl
theorem dX12_sayDo_30 : decode cX12_sayDo 30 = .ok (.goto 51, 3) := zo_167 (b1 := 0) (b2 := 51) (zkb3 zk_cX12_sayDo zn_cX12_sayDo (by decide +kernel)) rfl
theorem dX12_sayDo_33 : decode cX12_sayDo 33 = .ok (.iload_n 1, 1) := zo_27 (zkb zk_cX12_sayDo zn_cX12_sayDo (by decide +kernel))
theorem dX12_sayDo_34 : decode cX12_sayDo 34 = .ok (.iconst 3, 1) := zo_6 (zkb zk_cX12_sayDo zn_cX12_sayDo (by decide +kernel))
theorem dX12_sayDo_35 : decode cX12_sayDo 35 = .ok (.if_icmp .ne 9, 3) := zo_160 (b1 := 0) (b2 := 9) (zkb3 zk_cX12_sayDo zn_cX12_sayDo (by decide +kernel)) rfl
theorem dX12_sayDo_38 : decode cX12_sayDo 38 = .ok (.ldc_w 633, 3) := zo_19 (b1 := 2) (b2 := 121) (zkb3 zk_cX12_sayDo zn_cX12_sayDo (by decide +kernel)) rfl
theorem dX12_sayDo_41 : decode cX12_sayDo 41 = .ok (.goto 40, 3) := zo_167 (b1 := 0) (b2 := 40) (zkb3 zk_cX12_sayDo zn_cX12_sayDo (by decide +kernel)) rfl
theorem dX12_sayDo_44 : decode cX12_sayDo 44 = .ok (.iload_n 1, 1) := zo_27 (zkb zk_cX12_sayDo zn_cX12_sayDo (by decide +kernel))
theorem dX12_sayDo_45 : decode cX12_sayDo 45 = .ok (.iconst 4, 1) := zo_7 (zkb zk_cX12_sayDo zn_cX12_sayDo (by decide +kernel))
theorem dX12_sayDo_46 : decode cX12_sayDo 46 = .ok (.if_icmp .ne 9, 3) := zo_160 (b1 := 0) (b2 := 9) (zkb3 zk_cX12_sayDo zn_cX12_sayDo (by decide +kernel)) rfl
theorem dX12_sayDo_49 : decode cX12_sayDo 49 = .ok (.ldc_w 635, 3) := zo_19 (b1 := 2) (b2 := 123) (zkb3 zk_cX12_sayDo zn_cX12_sayDo (by decide +kernel)) rfl
theorem dX12_sayDo_52 : decode cX12_sayDo 52 = .ok (.goto 29, 3) := zo_167 (b1 := 0) (b2 := 29) (zkb3 zk_cX12_sayDo zn_cX12_sayDo (by decide +kernel)) rfl
theorem dX12_sayDo_55 : decode cX12_sayDo 55 = .ok (.iload_n 1, 1) := zo_27 (zkb zk_cX12_sayDo zn_cX12_sayDo (by decide +kernel))
theorem dX12_sayDo_56 : decode cX12_sayDo 56 = .ok (.iconst 5, 1) := zo_8 (zkb zk_cX12_sayDo zn_cX12_sayDo (by decide +kernel))
theorem dX12_sayDo_57 : decode cX12_sayDo 57 = .ok (.if_icmp .ne 9, 3) := zo_160 (b1 := 0) (b2 := 9) (zkb3 zk_cX12_sayDo zn_cX12_sayDo (by decide +kernel)) rfl
theorem dX12_sayDo_60 : decode cX12_sayDo 60 = .ok (.ldc_w 637, 3) := zo_19 (b1 := 2) (b2 := 125) (zkb3 zk_cX12_sayDo zn_cX12_sayDo (by decide +kernel)) rfl
theorem dX12_sayDo_63 : decode cX12_sayDo 63 = .ok (.goto 18, 3) := zo_167 (b1 := 0) (b2 := 18) (zkb3 zk_cX12_sayDo zn_cX12_sayDo (by decide +kernel)) rfl
theorem dX12_sayDo_66 : decode cX12_sayDo 66 = .ok (.iload_n 1, 1) := zo_27 (zkb zk_cX12_sayDo zn_cX12_sayDo (by decide +kernel))
theorem dX12_sayDo_67 : decode cX12_sayDo 67 = .ok (.bipush 6, 2) := zo_16 (b1 := 6) (zkb2 zk_cX12_sayDo zn_cX12_sayDo (by decide +kernel)) rfl
theorem dX12_sayDo_69 : decode cX12_sayDo 69 = .ok (.if_icmp .ne 9, 3) := zo_160 (b1 := 0) (b2 := 9) (zkb3 zk_cX12_sayDo zn_cX12_sayDo (by decide +kernel)) rfl
theorem dX12_sayDo_72 : decode cX12_sayDo 72 = .ok (.ldc_w 639, 3) := zo_19 (b1 := 2) (b2 := 127) (zkb3 zk_cX12_sayDo zn_cX12_sayDo (by decide +kernel)) rfl
theorem dX12_sayDo_75 : decode cX12_sayDo 75 = .ok (.goto 6, 3) := zo_167 (b1 := 0) (b2 := 6) (zkb3 zk_cX12_sayDo zn_cX12_sayDo (by decide +kernel)) rfl
theorem dX12_sayDo_78 : decode cX12_sayDo 78 = .ok (.ldc_w 641, 3) := zo_19 (b1 := 2) (b2 := 129) (zkb3 zk_cX12_sayDo zn_cX12_sayDo (by decide +kernel)) rfl
theorem dX12_sayDo_81 : decode cX12_sayDo 81 = .ok (.invokevirtual 559, 3) := zo_182 (b1 := 2) (b2 := 47) (zkb3 zk_cX12_sayDo zn_cX12_sayDo (by decide +kernel)) rfl
theorem dX12_sayDo_84 : decode cX12_sayDo 84 = .ok (.return_, 1) := zo_177 (zkb zk_cX12_sayDo zn_cX12_sayDo (by decide +kernel))
def kn_cX12_sayPrefixed : Nat := 0xb18c02b61c2a3c02b5f700b82402b62a2a0e00993302b42a3302b5030400a7040700a0061004150e00a00505151000a076101c0900a0061004150a009f06101d1600a004051529009f06101d0900a2071004151000a406041516009a05152ab19302b670081006152a2f02b69102132ab10400a0061070081006150d009f047a061006158602b68006107ef8001106152a06362402b62a3302b5042a3c02b5f700b82402b62a2a4b00a0cb00111c05367a06101c04367e07101c3e7e07107a061c2702b51b2a2102b560042102b4592ab12f02b68f02132a0b00a0fd00111c0a009fed00111c11009fdd00111c3da600b62102b42a2a
theorem zk_cX12_sayPrefixed : zkd cX12_sayPrefixed.data.toList kn_cX12_sayPrefixed = true := by decide +kernel
theorem zn_cX12_sayPrefixed : cX12_sayPrefixed.data.toList.length = 246 := by decide +kernel
theorem dX12_sayPrefixed_0 : decode cX12_sayPrefixed 0 = .ok (.aload_n 0, 1) := zo_42 (zkb zk_cX12_sayPrefixed zn_cX12_sayPrefixed (by decide +kernel))
theorem dX12_sayPrefixed_1 : decode cX12_sayPrefixed 1 = .ok (.aload_n 0, 1) := zo_42 (zkb zk_cX12_sayPrefixed zn_cX12_sayPrefixed (by decide +kernel))
theorem dX12_sayPrefixed_2 : decode cX12_sayPrefixed 2 = .ok (.getfield 545, 3) := zo_180 (b1 := 2) (b2 := 33) (zkb3 zk_cX12_sayPrefixed zn_cX12_sayPrefixed (by decide +kernel)) rfl
theorem dX12_sayPrefixed_5 : decode cX12_sayPrefixed 5 = .ok (.invokevirtual 166, 3) := zo_182 (b1 := 0) (b2 := 166) (zkb3 zk_cX12_sayPrefixed zn_cX12_sayPrefixed (by decide +kernel)) rfl
theorem dX12_sayPrefixed_8 : decode cX12_sayPrefixed 8 = .ok (.istore_n 2, 1) := zo_61 (zkb zk_cX12_sayPrefixed zn_cX12_sayPrefixed (by decide +kernel))
theorem dX12_sayPrefixed_9 : decode cX12_sayPrefixed 9 = .ok (.iload_n 2, 1) := zo_28 (zkb zk_cX12_sayPrefixed zn_cX12_sayPrefixed (by decide +kernel))
theorem dX12_sayPrefixed_10 : decode cX12_sayPrefixed 10 = .ok (.sipush 221, 3) := zo_17 (b1 := 0) (b2 := 221) (zkb3 zk_cX12_sayPrefixed zn_cX12_sayPrefixed (by decide +kernel)) rfl
theorem dX12_sayPrefixed_13 : decode cX12_sayPrefixed 13 = .ok (.if_icmp .eq 17, 3) := zo_159 (b1 := 0) (b2 := 17) (zkb3 zk_cX12_sayPrefixed zn_cX12_sayPrefixed (by decide +kernel)) rfl
theorem dX12_sayPrefixed_16 : decode cX12_sayPrefixed 16 = .ok (.iload_n 2, 1) := zo_28 (zkb zk_cX12_sayPrefixed zn_cX12_sayPrefixed (by decide +kernel))
theorem dX12_sayPrefixed_17 : decode cX12_sayPrefixed 17 = .ok (.sipush 237, 3) := zo_17 (b1 := 0) (b2 := 237) (zkb3 zk_cX12_sayPrefixed zn_cX12_sayPrefixed (by decide +kernel)) rfl
theorem dX12_sayPrefixed_20 : decode cX12_sayPrefixed 20 = .ok (.if_icmp .eq 10, 3) := zo_159 (b1 := 0) (b2 := 10) (zkb3 zk_cX12_sayPrefixed zn_cX12_sayPrefixed (by decide +kernel)) rfl
theorem dX12_sayPrefixed_23 : decode cX12_sayPrefixed 23 = .ok (.iload_n 2, 1) := zo_28 (zkb zk_cX12_sayPrefixed zn_cX12_sayPrefixed (by decide +kernel))
theorem dX12_sayPrefixed_24 : decode cX12_sayPrefixed 24 = .ok (.sipush 253, 3) := zo_17 (b1 := 0) (b2 := 253) (zkb3 zk_cX12_sayPrefixed zn_cX12_sayPrefixed (by decide +kernel)) rfl
theorem dX12_sayPrefixed_27 : decode cX12_sayPrefixed 27 = .ok (.if_icmp .ne 11, 3) := zo_160 (b1 := 0) (b2 := 11) (zkb3 zk_cX12_sayPrefixed zn_cX12_sayPrefixed (by decide +kernel)) rfl
theorem dX12_sayPrefixed_30 : decode cX12_sayPrefixed 30 = .ok (.aload_n 0, 1) := zo_42 (zkb zk_cX12_sayPrefixed zn_cX12_sayPrefixed (by decide +kernel))
theorem dX12_sayPrefixed_31 : decode cX12_sayPrefixed 31 = .ok (.ldc_w 655, 3) := zo_19 (b1 := 2) (b2 := 143) (zkb3 zk_cX12_sayPrefixed zn_cX12_sayPrefixed (by decide +kernel)) rfl
theorem dX12_sayPrefixed_34 : decode cX12_sayPrefixed 34 = .ok (.invokevirtual 559, 3) := zo_182 (b1 := 2) (b2 := 47) (zkb3 zk_cX12_sayPrefixed zn_cX12_sayPrefixed (by decide +kernel)) rfl
theorem dX12_sayPrefixed_37 : decode cX12_sayPrefixed 37 = .ok (.return_, 1) := zo_177 (zkb zk_cX12_sayPrefixed zn_cX12_sayPrefixed (by decide +kernel))
theorem dX12_sayPrefixed_38 : decode cX12_sayPrefixed 38 = .ok (.aload_n 0, 1) := zo_42 (zkb zk_cX12_sayPrefixed zn_cX12_sayPrefixed (by decide +kernel))
theorem dX12_sayPrefixed_39 : decode cX12_sayPrefixed 39 = .ok (.dup, 1) := zo_89 (zkb zk_cX12_sayPrefixed zn_cX12_sayPrefixed (by decide +kernel))
theorem dX12_sayPrefixed_40 : decode cX12_sayPrefixed 40 = .ok (.getfield 545, 3) := zo_180 (b1 := 2) (b2 := 33) (zkb3 zk_cX12_sayPrefixed zn_cX12_sayPrefixed (by decide +kernel)) rfl
theorem dX12_sayPrefixed_43 : decode cX12_sayPrefixed 43 = .ok (.iconst 1, 1) := zo_4 (zkb zk_cX12_sayPrefixed zn_cX12_sayPrefixed (by decide +kernel))
theorem dX12_sayPrefixed_44 : decode cX12_sayPrefixed 44 = .ok (.iadd, 1) := zo_96 (zkb zk_cX12_sayPrefixed zn_cX12_sayPrefixed (by decide +kernel))
theorem dX12_sayPrefixed_45 : decode cX12_sayPrefixed 45 = .ok (.putfield 545, 3) := zo_181 (b1 := 2) (b2 := 33) (zkb3 zk_cX12_sayPrefixed zn_cX12_sayPrefixed (by decide +kernel)) rfl
theorem dX12_sayPrefixed_48 : decode cX12_sayPrefixed 48 = .ok (.aload_n 0, 1) := zo_42 (zkb zk_cX12_sayPrefixed zn_cX12_sayPrefixed (by decide +kernel))
theorem dX12_sayPrefixed_49 : decode cX12_sayPrefixed 49 = .ok (.iload_n 1, 1) := zo_27 (zkb zk_cX12_sayPrefixed zn_cX12_sayPrefixed (by decide +kernel))
theorem dX12_sayPrefixed_50 : decode cX12_sayPrefixed 50 = .ok (.putfield 551, 3) := zo_181 (b1 := 2) (b2 := 39) (zkb3 zk_cX12_sayPrefixed zn_cX12_sayPrefixed (by decide +kernel)) rfl
theorem dX12_sayPrefixed_53 : decode cX12_sayPrefixed 53 = .ok (.iload_n 2, 1) := zo_28 (zkb zk_cX12_sayPrefixed zn_cX12_sayPrefixed (by decide +kernel))
theorem dX12_sayPrefixed_54 : decode cX12_sayPrefixed 54 = .ok (.iconst 3, 1) := zo_6 (zkb zk_cX12_sayPrefixed zn_cX12_sayPrefixed (by decide +kernel))
theorem dX12_sayPrefixed_55 : decode cX12_sayPrefixed 55 = .ok (.ishr, 1) := zo_122 (zkb zk_cX12_sayPrefixed zn_cX12_sayPrefixed (by decide +kernel))
theorem dX12_sayPrefixed_56 : decode cX12_sayPrefixed 56 = .ok (.bipush 7, 2) := zo_16 (b1 := 7) (zkb2 zk_cX12_sayPrefixed zn_cX12_sayPrefixed (by decide +kernel)) rfl
theorem dX12_sayPrefixed_58 : decode cX12_sayPrefixed 58 = .ok (.iand, 1) := zo_126 (zkb zk_cX12_sayPrefixed zn_cX12_sayPrefixed (by decide +kernel))
theorem dX12_sayPrefixed_59 : decode cX12_sayPrefixed 59 = .ok (.istore_n 3, 1) := zo_62 (zkb zk_cX12_sayPrefixed zn_cX12_sayPrefixed (by decide +kernel))
theorem dX12_sayPrefixed_60 : decode cX12_sayPrefixed 60 = .ok (.iload_n 2, 1) := zo_28 (zkb zk_cX12_sayPrefixed zn_cX12_sayPrefixed (by decide +kernel))
theorem dX12_sayPrefixed_61 : decode cX12_sayPrefixed 61 = .ok (.bipush 7, 2) := zo_16 (b1 := 7) (zkb2 zk_cX12_sayPrefixed zn_cX12_sayPrefixed (by decide +kernel)) rfl
theorem dX12_sayPrefixed_63 : decode cX12_sayPrefixed 63 = .ok (.iand, 1) := zo_126 (zkb zk_cX12_sayPrefixed zn_cX12_sayPrefixed (by decide +kernel))
theorem dX12_sayPrefixed_64 : decode cX12_sayPrefixed 64 = .ok (.istore 4, 2) := zo_54 (b1 := 4) (zkb2 zk_cX12_sayPrefixed zn_cX12_sayPrefixed (by decide +kernel))
theorem dX12_sayPrefixed_66 : decode cX12_sayPrefixed 66 = .ok (.iload_n 2, 1) := zo_28 (zkb zk_cX12_sayPrefixed zn_cX12_sayPrefixed (by decide +kernel))
theorem dX12_sayPrefixed_67 : decode cX12_sayPrefixed 67 = .ok (.bipush 6, 2) := zo_16 (b1 := 6) (zkb2 zk_cX12_sayPrefixed zn_cX12_sayPrefixed (by decide +kernel)) rfl
theorem dX12_sayPrefixed_69 : decode cX12_sayPrefixed 69 = .ok (.ishr, 1) := zo_122 (zkb zk_cX12_sayPrefixed zn_cX12_sayPrefixed (by decide +kernel))
theorem dX12_sayPrefixed_70 : decode cX12_sayPrefixed 70 = .ok (.istore 5, 2) := zo_54 (b1 := 5) (zkb2 zk_cX12_sayPrefixed zn_cX12_sayPrefixed (by decide +kernel))
theorem dX12_sayPrefixed_72 : decode cX12_sayPrefixed 72 = .ok (.iload_n 2, 1) := zo_28 (zkb zk_cX12_sayPrefixed zn_cX12_sayPrefixed (by decide +kernel))
theorem dX12_sayPrefixed_73 : decode cX12_sayPrefixed 73 = .ok (.sipush 203, 3) := zo_17 (b1 := 0) (b2 := 203) (zkb3 zk_cX12_sayPrefixed zn_cX12_sayPrefixed (by decide +kernel)) rfl
theorem dX12_sayPrefixed_76 : decode cX12_sayPrefixed 76 = .ok (.if_icmp .ne 75, 3) := zo_160 (b1 := 0) (b2 := 75) (zkb3 zk_cX12_sayPrefixed zn_cX12_sayPrefixed (by decide +kernel)) rfl
theorem dX12_sayPrefixed_79 : decode cX12_sayPrefixed 79 = .ok (.aload_n 0, 1) := zo_42 (zkb zk_cX12_sayPrefixed zn_cX12_sayPrefixed (by decide +kernel))
theorem dX12_sayPrefixed_80 : decode cX12_sayPrefixed 80 = .ok (.aload_n 0, 1) := zo_42 (zkb zk_cX12_sayPrefixed zn_cX12_sayPrefixed (by decide +kernel))
theorem dX12_sayPrefixed_81 : decode cX12_sayPrefixed 81 = .ok (.invokevirtual 548, 3) := zo_182 (b1 := 2) (b2 := 36) (zkb3 zk_cX12_sayPrefixed zn_cX12_sayPrefixed (by decide +kernel)) rfl
theorem dX12_sayPrefixed_84 : decode cX12_sayPrefixed 84 = .ok (.invokestatic 247, 3) := zo_184 (b1 := 0) (b2 := 247) (zkb3 zk_cX12_sayPrefixed zn_cX12_sayPrefixed (by decide +kernel)) rfl
theorem dX12_sayPrefixed_87 : decode cX12_sayPrefixed 87 = .ok (.putfield 572, 3) := zo_181 (b1 := 2) (b2 := 60) (zkb3 zk_cX12_sayPrefixed zn_cX12_sayPrefixed (by decide +kernel)) rfl
theorem dX12_sayPrefixed_90 : decode cX12_sayPrefixed 90 = .ok (.aload_n 0, 1) := zo_42 (zkb zk_cX12_sayPrefixed zn_cX12_sayPrefixed (by decide +kernel))
theorem dX12_sayPrefixed_91 : decode cX12_sayPrefixed 91 = .ok (.iconst 1, 1) := zo_4 (zkb zk_cX12_sayPrefixed zn_cX12_sayPrefixed (by decide +kernel))
theorem dX12_sayPrefixed_92 : decode cX12_sayPrefixed 92 = .ok (.putfield 563, 3) := zo_181 (b1 := 2) (b2 := 51) (zkb3 zk_cX12_sayPrefixed zn_cX12_sayPrefixed (by decide +kernel)) rfl
theorem dX12_sayPrefixed_95 : decode cX12_sayPrefixed 95 = .ok (.aload_n 0, 1) := zo_42 (zkb zk_cX12_sayPrefixed zn_cX12_sayPrefixed (by decide +kernel))
theorem dX12_sayPrefixed_96 : decode cX12_sayPrefixed 96 = .ok (.invokevirtual 548, 3) := zo_182 (b1 := 2) (b2 := 36) (zkb3 zk_cX12_sayPrefixed zn_cX12_sayPrefixed (by decide +kernel)) rfl
theorem dX12_sayPrefixed_99 : decode cX12_sayPrefixed 99 = .ok (.istore 6, 2) := zo_54 (b1 := 6) (zkb2 zk_cX12_sayPrefixed zn_cX12_sayPrefixed (by decide +kernel))
theorem dX12_sayPrefixed_101 : decode cX12_sayPrefixed 101 = .ok (.aload_n 0, 1) := zo_42 (zkb zk_cX12_sayPrefixed zn_cX12_sayPrefixed (by decide +kernel))
theorem dX12_sayPrefixed_102 : decode cX12_sayPrefixed 102 = .ok (.iload 6, 2) := zo_21 (b1 := 6) (zkb2 zk_cX12_sayPrefixed zn_cX12_sayPrefixed (by decide +kernel))
theorem dX12_sayPrefixed_104 : decode cX12_sayPrefixed 104 = .ok (.sipush 248, 3) := zo_17 (b1 := 0) (b2 := 248) (zkb3 zk_cX12_sayPrefixed zn_cX12_sayPrefixed (by decide +kernel)) rfl
theorem dX12_sayPrefixed_107 : decode cX12_sayPrefixed 107 = .ok (.iand, 1) := zo_126 (zkb zk_cX12_sayPrefixed zn_cX12_sayPrefixed (by decide +kernel))
theorem dX12_sayPrefixed_108 : decode cX12_sayPrefixed 108 = .ok (.bipush 6, 2) := zo_16 (b1 := 6) (zkb2 zk_cX12_sayPrefixed zn_cX12_sayPrefixed (by decide +kernel)) rfl
theorem dX12_sayPrefixed_110 : decode cX12_sayPrefixed 110 = .ok (.ior, 1) := zo_128 (zkb zk_cX12_sayPrefixed zn_cX12_sayPrefixed (by decide +kernel))
theorem dX12_sayPrefixed_111 : decode cX12_sayPrefixed 111 = .ok (.invokevirtual 646, 3) := zo_182 (b1 := 2) (b2 := 134) (zkb3 zk_cX12_sayPrefixed zn_cX12_sayPrefixed (by decide +kernel)) rfl
theorem dX12_sayPrefixed_114 : decode cX12_sayPrefixed 114 = .ok (.iload 6, 2) := zo_21 (b1 := 6) (zkb2 zk_cX12_sayPrefixed zn_cX12_sayPrefixed (by decide +kernel))
theorem dX12_sayPrefixed_116 : decode cX12_sayPrefixed 116 = .ok (.bipush 6, 2) := zo_16 (b1 := 6) (zkb2 zk_cX12_sayPrefixed zn_cX12_sayPrefixed (by decide +kernel)) rfl
theorem dX12_sayPrefixed_118 : decode cX12_sayPrefixed 118 = .ok (.ishr, 1) := zo_122 (zkb zk_cX12_sayPrefixed zn_cX12_sayPrefixed (by decide +kernel))
theorem dX12_sayPrefixed_119 : decode cX12_sayPrefixed 119 = .ok (.iconst 1, 1) := zo_4 (zkb zk_cX12_sayPrefixed zn_cX12_sayPrefixed (by decide +kernel))
theorem dX12_sayPrefixed_120 : decode cX12_sayPrefixed 120 = .ok (.if_icmp .eq 13, 3) := zo_159 (b1 := 0) (b2 := 13) (zkb3 zk_cX12_sayPrefixed zn_cX12_sayPrefixed (by decide +kernel)) rfl
theorem dX12_sayPrefixed_123 : decode cX12_sayPrefixed 123 = .ok (.iload 6, 2) := zo_21 (b1 := 6) (zkb2 zk_cX12_sayPrefixed zn_cX12_sayPrefixed (by decide +kernel))
theorem dX12_sayPrefixed_125 : decode cX12_sayPrefixed 125 = .ok (.bipush 8, 2) := zo_16 (b1 := 8) (zkb2 zk_cX12_sayPrefixed zn_cX12_sayPrefixed (by decide +kernel)) rfl
theorem dX12_sayPrefixed_127 : decode cX12_sayPrefixed 127 = .ok (.irem, 1) := zo_112 (zkb zk_cX12_sayPrefixed zn_cX12_sayPrefixed (by decide +kernel))
theorem dX12_sayPrefixed_128 : decode cX12_sayPrefixed 128 = .ok (.bipush 6, 2) := zo_16 (b1 := 6) (zkb2 zk_cX12_sayPrefixed zn_cX12_sayPrefixed (by decide +kernel)) rfl
theorem dX12_sayPrefixed_130 : decode cX12_sayPrefixed 130 = .ok (.if_icmp .ne 4, 3) := zo_160 (b1 := 0) (b2 := 4) (zkb3 zk_cX12_sayPrefixed zn_cX12_sayPrefixed (by decide +kernel)) rfl
theorem dX12_sayPrefixed_133 : decode cX12_sayPrefixed 133 = .ok (.return_, 1) := zo_177 (zkb zk_cX12_sayPrefixed zn_cX12_sayPrefixed (by decide +kernel))
theorem dX12_sayPrefixed_134 : decode cX12_sayPrefixed 134 = .ok (.aload_n 0, 1) := zo_42 (zkb zk_cX12_sayPrefixed zn_cX12_sayPrefixed (by decide +kernel))
theorem dX12_sayPrefixed_135 : decode cX12_sayPrefixed 135 = .ok (.ldc_w 657, 3) := zo_19 (b1 := 2) (b2 := 145) (zkb3 zk_cX12_sayPrefixed zn_cX12_sayPrefixed (by decide +kernel)) rfl
theorem dX12_sayPrefixed_138 : decode cX12_sayPrefixed 138 = .ok (.invokevirtual 559, 3) := zo_182 (b1 := 2) (b2 := 47) (zkb3 zk_cX12_sayPrefixed zn_cX12_sayPrefixed (by decide +kernel)) rfl
theorem dX12_sayPrefixed_141 : decode cX12_sayPrefixed 141 = .ok (.aload_n 0, 1) := zo_42 (zkb zk_cX12_sayPrefixed zn_cX12_sayPrefixed (by decide +kernel))
theorem dX12_sayPrefixed_142 : decode cX12_sayPrefixed 142 = .ok (.iload 6, 2) := zo_21 (b1 := 6) (zkb2 zk_cX12_sayPrefixed zn_cX12_sayPrefixed (by decide +kernel))
theorem dX12_sayPrefixed_144 : decode cX12_sayPrefixed 144 = .ok (.bipush 8, 2) := zo_16 (b1 := 8) (zkb2 zk_cX12_sayPrefixed zn_cX12_sayPrefixed (by decide +kernel)) rfl
theorem dX12_sayPrefixed_146 : decode cX12_sayPrefixed 146 = .ok (.irem, 1) := zo_112 (zkb zk_cX12_sayPrefixed zn_cX12_sayPrefixed (by decide +kernel))
theorem dX12_sayPrefixed_147 : decode cX12_sayPrefixed 147 = .ok (.invokevirtual 659, 3) := zo_182 (b1 := 2) (b2 := 147) (zkb3 zk_cX12_sayPrefixed zn_cX12_sayPrefixed (by decide +kernel)) rfl
theorem dX12_sayPrefixed_150 : decode cX12_sayPrefixed 150 = .ok (.return_, 1) := zo_177 (zkb zk_cX12_sayPrefixed zn_cX12_sayPrefixed (by decide +kernel))
theorem dX12_sayPrefixed_151 : decode cX12_sayPrefixed 151 = .ok (.aload_n 0, 1) := zo_42 (zkb zk_cX12_sayPrefixed zn_cX12_sayPrefixed (by decide +kernel))
theorem dX12_sayPrefixed_152 : decode cX12_sayPrefixed 152 = .ok (.iload 5, 2) := zo_21 (b1 := 5) (zkb2 zk_cX12_sayPrefixed zn_cX12_sayPrefixed (by decide +kernel))
theorem dX12_sayPrefixed_154 : decode cX12_sayPrefixed 154 = .ok (.ifCond .ne 22, 3) := zo_154 (b1 := 0) (b2 := 22) (zkb3 zk_cX12_sayPrefixed zn_cX12_sayPrefixed (by decide +kernel)) rfl
theorem dX12_sayPrefixed_157 : decode cX12_sayPrefixed 157 = .ok (.iload 4, 2) := zo_21 (b1 := 4) (zkb2 zk_cX12_sayPrefixed zn_cX12_sayPrefixed (by decide +kernel))
theorem dX12_sayPrefixed_159 : decode cX12_sayPrefixed 159 = .ok (.iconst 3, 1) := zo_6 (zkb zk_cX12_sayPrefixed zn_cX12_sayPrefixed (by decide +kernel))
theorem dX12_sayPrefixed_160 : decode cX12_sayPrefixed 160 = .ok (.if_icmp .le 16, 3) := zo_164 (b1 := 0) (b2 := 16) (zkb3 zk_cX12_sayPrefixed zn_cX12_sayPrefixed (by decide +kernel)) rfl
theorem dX12_sayPrefixed_163 : decode cX12_sayPrefixed 163 = .ok (.iload 4, 2) := zo_21 (b1 := 4) (zkb2 zk_cX12_sayPrefixed zn_cX12_sayPrefixed (by decide +kernel))
theorem dX12_sayPrefixed_165 : decode cX12_sayPrefixed 165 = .ok (.bipush 7, 2) := zo_16 (b1 := 7) (zkb2 zk_cX12_sayPrefixed zn_cX12_sayPrefixed (by decide +kernel)) rfl
theorem dX12_sayPrefixed_167 : decode cX12_sayPrefixed 167 = .ok (.if_icmp .ge 9, 3) := zo_162 (b1 := 0) (b2 := 9) (zkb3 zk_cX12_sayPrefixed zn_cX12_sayPrefixed (by decide +kernel)) rfl
theorem dX12_sayPrefixed_170 : decode cX12_sayPrefixed 170 = .ok (.iload_n 3, 1) := zo_29 (zkb zk_cX12_sayPrefixed zn_cX12_sayPrefixed (by decide +kernel))
theorem dX12_sayPrefixed_171 : decode cX12_sayPrefixed 171 = .ok (.bipush 6, 2) := zo_16 (b1 := 6) (zkb2 zk_cX12_sayPrefixed zn_cX12_sayPrefixed (by decide +kernel)) rfl
theorem dX12_sayPrefixed_173 : decode cX12_sayPrefixed 173 = .ok (.if_icmp .eq 41, 3) := zo_159 (b1 := 0) (b2 := 41) (zkb3 zk_cX12_sayPrefixed zn_cX12_sayPrefixed (by decide +kernel)) rfl
theorem dX12_sayPrefixed_176 : decode cX12_sayPrefixed 176 = .ok (.iload 5, 2) := zo_21 (b1 := 5) (zkb2 zk_cX12_sayPrefixed zn_cX12_sayPrefixed (by decide +kernel))
theorem dX12_sayPrefixed_178 : decode cX12_sayPrefixed 178 = .ok (.iconst 1, 1) := zo_4 (zkb zk_cX12_sayPrefixed zn_cX12_sayPrefixed (by decide +kernel))
theorem dX12_sayPrefixed_179 : decode cX12_sayPrefixed 179 = .ok (.if_icmp .ne 22, 3) := zo_160 (b1 := 0) (b2 := 22) (zkb3 zk_cX12_sayPrefixed zn_cX12_sayPrefixed (by decide +kernel)) rfl
theorem dX12_sayPrefixed_182 : decode cX12_sayPrefixed 182 = .ok (.iload_n 3, 1) := zo_29 (zkb zk_cX12_sayPrefixed zn_cX12_sayPrefixed (by decide +kernel))
theorem dX12_sayPrefixed_183 : decode cX12_sayPrefixed 183 = .ok (.bipush 6, 2) := zo_16 (b1 := 6) (zkb2 zk_cX12_sayPrefixed zn_cX12_sayPrefixed (by decide +kernel)) rfl
theorem dX12_sayPrefixed_185 : decode cX12_sayPrefixed 185 = .ok (.if_icmp .eq 10, 3) := zo_159 (b1 := 0) (b2 := 10) (zkb3 zk_cX12_sayPrefixed zn_cX12_sayPrefixed (by decide +kernel)) rfl
theorem dX12_sayPrefixed_188 : decode cX12_sayPrefixed 188 = .ok (.iload 4, 2) := zo_21 (b1 := 4) (zkb2 zk_cX12_sayPrefixed zn_cX12_sayPrefixed (by decide +kernel))
theorem dX12_sayPrefixed_190 : decode cX12_sayPrefixed 190 = .ok (.bipush 6, 2) := zo_16 (b1 := 6) (zkb2 zk_cX12_sayPrefixed zn_cX12_sayPrefixed (by decide +kernel)) rfl
theorem dX12_sayPrefixed_192 : decode cX12_sayPrefixed 192 = .ok (.if_icmp .ne 9, 3) := zo_160 (b1 := 0) (b2 := 9) (zkb3 zk_cX12_sayPrefixed zn_cX12_sayPrefixed (by decide +kernel)) rfl
theorem dX12_sayPrefixed_195 : decode cX12_sayPrefixed 195 = .ok (.iload_n 2, 1) := zo_28 (zkb zk_cX12_sayPrefixed zn_cX12_sayPrefixed (by decide +kernel))
theorem dX12_sayPrefixed_196 : decode cX12_sayPrefixed 196 = .ok (.bipush 118, 2) := zo_16 (b1 := 118) (zkb2 zk_cX12_sayPrefixed zn_cX12_sayPrefixed (by decide +kernel)) rfl
theorem dX12_sayPrefixed_198 : decode cX12_sayPrefixed 198 = .ok (.if_icmp .ne 16, 3) := zo_160 (b1 := 0) (b2 := 16) (zkb3 zk_cX12_sayPrefixed zn_cX12_sayPrefixed (by decide +kernel)) rfl
theorem dX12_sayPrefixed_201 : decode cX12_sayPrefixed 201 = .ok (.iload 5, 2) := zo_21 (b1 := 5) (zkb2 zk_cX12_sayPrefixed zn_cX12_sayPrefixed (by decide +kernel))
theorem dX12_sayPrefixed_203 : decode cX12_sayPrefixed 203 = .ok (.iconst 2, 1) := zo_5 (zkb zk_cX12_sayPrefixed zn_cX12_sayPrefixed (by decide +kernel))
theorem dX12_sayPrefixed_204 : decode cX12_sayPrefixed 204 = .ok (.if_icmp .ne 14, 3) := zo_160 (b1 := 0) (b2 := 14) (zkb3 zk_cX12_sayPrefixed zn_cX12_sayPrefixed (by decide +kernel)) rfl
theorem dX12_sayPrefixed_207 : decode cX12_sayPrefixed 207 = .ok (.iload 4, 2) := zo_21 (b1 := 4) (zkb2 zk_cX12_sayPrefixed zn_cX12_sayPrefixed (by decide +kernel))
theorem dX12_sayPrefixed_209 : decode cX12_sayPrefixed 209 = .ok (.bipush 6, 2) := zo_16 (b1 := 6) (zkb2 zk_cX12_sayPrefixed zn_cX12_sayPrefixed (by decide +kernel)) rfl
theorem dX12_sayPrefixed_211 : decode cX12_sayPrefixed 211 = .ok (.if_icmp .ne 7, 3) := zo_160 (b1 := 0) (b2 := 7) (zkb3 zk_cX12_sayPrefixed zn_cX12_sayPrefixed (by decide +kernel)) rfl
theorem dX12_sayPrefixed_214 : decode cX12_sayPrefixed 214 = .ok (.iconst 1, 1) := zo_4 (zkb zk_cX12_sayPrefixed zn_cX12_sayPrefixed (by decide +kernel))
theorem dX12_sayPrefixed_215 : decode cX12_sayPrefixed 215 = .ok (.goto 4, 3) := zo_167 (b1 := 0) (b2 := 4) (zkb3 zk_cX12_sayPrefixed zn_cX12_sayPrefixed (by decide +kernel)) rfl
theorem dX12_sayPrefixed_218 : decode cX12_sayPrefixed 218 = .ok (.iconst 0, 1) := zo_3 (zkb zk_cX12_sayPrefixed zn_cX12_sayPrefixed (by decide +kernel))
theorem dX12_sayPrefixed_219 : decode cX12_sayPrefixed 219 = .ok (.putfield 563, 3) := zo_181 (b1 := 2) (b2 := 51) (zkb3 zk_cX12_sayPrefixed zn_cX12_sayPrefixed (by decide +kernel)) rfl
theorem dX12_sayPrefixed_222 : decode cX12_sayPrefixed 222 = .ok (.aload_n 0, 1) := zo_42 (zkb zk_cX12_sayPrefixed zn_cX12_sayPrefixed (by decide +kernel))
theorem dX12_sayPrefixed_223 : decode cX12_sayPrefixed 223 = .ok (.getfield 563, 3) := zo_180 (b1 := 2) (b2 := 51) (zkb3 zk_cX12_sayPrefixed zn_cX12_sayPrefixed (by decide +kernel)) rfl
theorem dX12_sayPrefixed_226 : decode cX12_sayPrefixed 226 = .ok (.ifCond .eq 14, 3) := zo_153 (b1 := 0) (b2 := 14) (zkb3 zk_cX12_sayPrefixed zn_cX12_sayPrefixed (by decide +kernel)) rfl
theorem dX12_sayPrefixed_229 : decode cX12_sayPrefixed 229 = .ok (.aload_n 0, 1) := zo_42 (zkb zk_cX12_sayPrefixed zn_cX12_sayPrefixed (by decide +kernel))
theorem dX12_sayPrefixed_230 : decode cX12_sayPrefixed 230 = .ok (.aload_n 0, 1) := zo_42 (zkb zk_cX12_sayPrefixed zn_cX12_sayPrefixed (by decide +kernel))
theorem dX12_sayPrefixed_231 : decode cX12_sayPrefixed 231 = .ok (.invokevirtual 548, 3) := zo_182 (b1 := 2) (b2 := 36) (zkb3 zk_cX12_sayPrefixed zn_cX12_sayPrefixed (by decide +kernel)) rfl
theorem dX12_sayPrefixed_234 : decode cX12_sayPrefixed 234 = .ok (.invokestatic 247, 3) := zo_184 (b1 := 0) (b2 := 247) (zkb3 zk_cX12_sayPrefixed zn_cX12_sayPrefixed (by decide +kernel)) rfl
theorem dX12_sayPrefixed_237 : decode cX12_sayPrefixed 237 = .ok (.putfield 572, 3) := zo_181 (b1 := 2) (b2 := 60) (zkb3 zk_cX12_sayPrefixed zn_cX12_sayPrefixed (by decide +kernel)) rfl
theorem dX12_sayPrefixed_240 : decode cX12_sayPrefixed 240 = .ok (.aload_n 0, 1) := zo_42 (zkb zk_cX12_sayPrefixed zn_cX12_sayPrefixed (by decide +kernel))
theorem dX12_sayPrefixed_241 : decode cX12_sayPrefixed 241 = .ok (.iload_n 2, 1) := zo_28 (zkb zk_cX12_sayPrefixed zn_cX12_sayPrefixed (by decide +kernel))
theorem dX12_sayPrefixed_242 : decode cX12_sayPrefixed 242 = .ok (.invokevirtual 652, 3) := zo_182 (b1 := 2) (b2 := 140) (zkb3 zk_cX12_sayPrefixed zn_cX12_sayPrefixed (by decide +kernel)) rfl
theorem dX12_sayPrefixed_245 : decode cX12_sayPrefixed 245 = .ok (.return_, 1) := zo_177 (zkb zk_cX12_sayPrefixed zn_cX12_sayPrefixed (by decide +kernel))
def kn_cX12_sayTurn : Nat := 0xb19302b67e07101b2a2f02b69102132a4302b6041c2a2f02b6aa02130600a7a802130900a2c000111b1300a7a602130900a28000111b2a3100a72f02b6a402130600a7a202130900a006101c1200a7a002130900a0081c1d00a79e02130900a0071c2800a79c02130900a0061c3300a79a02130900a0051c3e00a79802130900a0041c4900a796021309009a1c2a5a00a240101b3d7e07107a061b
theorem zk_cX12_sayTurn : zkd cX12_sayTurn.data.toList kn_cX12_sayTurn = true := by decide +kernel
theorem zn_cX12_sayTurn : cX12_sayTurn.data.toList.length = 155 := by decide +kernel
theorem dX12_sayTurn_0 : decode cX12_sayTurn 0 = .ok (.iload_n 1, 1) := zo_27 (zkb zk_cX12_sayTurn zn_cX12_sayTurn (by decide +kernel))
theorem dX12_sayTurn_1 : decode cX12_sayTurn 1 = .ok (.iconst 3, 1) := zo_6 (zkb zk_cX12_sayTurn zn_cX12_sayTurn (by decide +kernel))
theorem dX12_sayTurn_2 : decode cX12_sayTurn 2 = .ok (.ishr, 1) := zo_122 (zkb zk_cX12_sayTurn zn_cX12_sayTurn (by decide +kernel))
theorem dX12_sayTurn_3 : decode cX12_sayTurn 3 = .ok (.bipush 7, 2) := zo_16 (b1 := 7) (zkb2 zk_cX12_sayTurn zn_cX12_sayTurn (by decide +kernel)) rfl
theorem dX12_sayTurn_5 : decode cX12_sayTurn 5 = .ok (.iand, 1) := zo_126 (zkb zk_cX12_sayTurn zn_cX12_sayTurn (by decide +kernel))
theorem dX12_sayTurn_6 : decode cX12_sayTurn 6 = .ok (.istore_n 2, 1) := zo_61 (zkb zk_cX12_sayTurn zn_cX12_sayTurn (by decide +kernel))
theorem dX12_sayTurn_7 : decode cX12_sayTurn 7 = .ok (.iload_n 1, 1) := zo_27 (zkb zk_cX12_sayTurn zn_cX12_sayTurn (by decide +kernel))
theorem dX12_sayTurn_8 : decode cX12_sayTurn 8 = .ok (.bipush 64, 2) := zo_16 (b1 := 64) (zkb2 zk_cX12_sayTurn zn_cX12_sayTurn (by decide +kernel)) rfl
theorem dX12_sayTurn_10 : decode cX12_sayTurn 10 = .ok (.if_icmp .ge 90, 3) := zo_162 (b1 := 0) (b2 := 90) (zkb3 zk_cX12_sayTurn zn_cX12_sayTurn (by decide +kernel)) rfl
theorem dX12_sayTurn_13 : decode cX12_sayTurn 13 = .ok (.aload_n 0, 1) := zo_42 (zkb zk_cX12_sayTurn zn_cX12_sayTurn (by decide +kernel))
theorem dX12_sayTurn_14 : decode cX12_sayTurn 14 = .ok (.iload_n 2, 1) := zo_28 (zkb zk_cX12_sayTurn zn_cX12_sayTurn (by decide +kernel))
theorem dX12_sayTurn_15 : decode cX12_sayTurn 15 = .ok (.ifCond .ne 9, 3) := zo_154 (b1 := 0) (b2 := 9) (zkb3 zk_cX12_sayTurn zn_cX12_sayTurn (by decide +kernel)) rfl
theorem dX12_sayTurn_18 : decode cX12_sayTurn 18 = .ok (.ldc_w 662, 3) := zo_19 (b1 := 2) (b2 := 150) (zkb3 zk_cX12_sayTurn zn_cX12_sayTurn (by decide +kernel)) rfl
theorem dX12_sayTurn_21 : decode cX12_sayTurn 21 = .ok (.goto 73, 3) := zo_167 (b1 := 0) (b2 := 73) (zkb3 zk_cX12_sayTurn zn_cX12_sayTurn (by decide +kernel)) rfl
theorem dX12_sayTurn_24 : decode cX12_sayTurn 24 = .ok (.iload_n 2, 1) := zo_28 (zkb zk_cX12_sayTurn zn_cX12_sayTurn (by decide +kernel))
theorem dX12_sayTurn_25 : decode cX12_sayTurn 25 = .ok (.iconst 1, 1) := zo_4 (zkb zk_cX12_sayTurn zn_cX12_sayTurn (by decide +kernel))
theorem dX12_sayTurn_26 : decode cX12_sayTurn 26 = .ok (.if_icmp .ne 9, 3) := zo_160 (b1 := 0) (b2 := 9) (zkb3 zk_cX12_sayTurn zn_cX12_sayTurn (by decide +kernel)) rfl
theorem dX12_sayTurn_29 : decode cX12_sayTurn 29 = .ok (.ldc_w 664, 3) := zo_19 (b1 := 2) (b2 := 152) (zkb3 zk_cX12_sayTurn zn_cX12_sayTurn (by decide +kernel)) rfl
theorem dX12_sayTurn_32 : decode cX12_sayTurn 32 = .ok (.goto 62, 3) := zo_167 (b1 := 0) (b2 := 62) (zkb3 zk_cX12_sayTurn zn_cX12_sayTurn (by decide +kernel)) rfl
theorem dX12_sayTurn_35 : decode cX12_sayTurn 35 = .ok (.iload_n 2, 1) := zo_28 (zkb zk_cX12_sayTurn zn_cX12_sayTurn (by decide +kernel))
theorem dX12_sayTurn_36 : decode cX12_sayTurn 36 = .ok (.iconst 2, 1) := zo_5 (zkb zk_cX12_sayTurn zn_cX12_sayTurn (by decide +kernel))
theorem dX12_sayTurn_37 : decode cX12_sayTurn 37 = .ok (.if_icmp .ne 9, 3) := zo_160 (b1 := 0) (b2 := 9) (zkb3 zk_cX12_sayTurn zn_cX12_sayTurn (by decide +kernel)) rfl
theorem dX12_sayTurn_40 : decode cX12_sayTurn 40 = .ok (.ldc_w 666, 3) := zo_19 (b1 := 2) (b2 := 154) (zkb3 zk_cX12_sayTurn zn_cX12_sayTurn (by decide +kernel)) rfl
theorem dX12_sayTurn_43 : decode cX12_sayTurn 43 = .ok (.goto 51, 3) := zo_167 (b1 := 0) (b2 := 51) (zkb3 zk_cX12_sayTurn zn_cX12_sayTurn (by decide +kernel)) rfl
theorem dX12_sayTurn_46 : decode cX12_sayTurn 46 = .ok (.iload_n 2, 1) := zo_28 (zkb zk_cX12_sayTurn zn_cX12_sayTurn (by decide +kernel))
theorem dX12_sayTurn_47 : decode cX12_sayTurn 47 = .ok (.iconst 3, 1) := zo_6 (zkb zk_cX12_sayTurn zn_cX12_sayTurn (by decide +kernel))
theorem dX12_sayTurn_48 : decode cX12_sayTurn 48 = .ok (.if_icmp .ne 9, 3) := zo_160 (b1 := 0) (b2 := 9) (zkb3 zk_cX12_sayTurn zn_cX12_sayTurn (by decide +kernel)) rfl
theorem dX12_sayTurn_51 : decode cX12_sayTurn 51 = .ok (.ldc_w 668, 3) := zo_19 (b1 := 2) (b2 := 156) (zkb3 zk_cX12_sayTurn zn_cX12_sayTurn (by decide +kernel)) rfl
theorem dX12_sayTurn_54 : decode cX12_sayTurn 54 = .ok (.goto 40, 3) := zo_167 (b1 := 0) (b2 := 40) (zkb3 zk_cX12_sayTurn zn_cX12_sayTurn (by decide +kernel)) rfl
theorem dX12_sayTurn_57 : decode cX12_sayTurn 57 = .ok (.iload_n 2, 1) := zo_28 (zkb zk_cX12_sayTurn zn_cX12_sayTurn (by decide +kernel))
theorem dX12_sayTurn_58 : decode cX12_sayTurn 58 = .ok (.iconst 4, 1) := zo_7 (zkb zk_cX12_sayTurn zn_cX12_sayTurn (by decide +kernel))
theorem dX12_sayTurn_59 : decode cX12_sayTurn 59 = .ok (.if_icmp .ne 9, 3) := zo_160 (b1 := 0) (b2 := 9) (zkb3 zk_cX12_sayTurn zn_cX12_sayTurn (by decide +kernel)) rfl
theorem dX12_sayTurn_62 : decode cX12_sayTurn 62 = .ok (.ldc_w 670, 3) := zo_19 (b1 := 2) (b2 := 158) (zkb3 zk_cX12_sayTurn zn_cX12_sayTurn (by decide +kernel)) rfl
theorem dX12_sayTurn_65 : decode cX12_sayTurn 65 = .ok (.goto 29, 3) := zo_167 (b1 := 0) (b2 := 29) (zkb3 zk_cX12_sayTurn zn_cX12_sayTurn (by decide +kernel)) rfl
theorem dX12_sayTurn_68 : decode cX12_sayTurn 68 = .ok (.iload_n 2, 1) := zo_28 (zkb zk_cX12_sayTurn zn_cX12_sayTurn (by decide +kernel))
theorem dX12_sayTurn_69 : decode cX12_sayTurn 69 = .ok (.iconst 5, 1) := zo_8 (zkb zk_cX12_sayTurn zn_cX12_sayTurn (by decide +kernel))
theorem dX12_sayTurn_70 : decode cX12_sayTurn 70 = .ok (.if_icmp .ne 9, 3) := zo_160 (b1 := 0) (b2 := 9) (zkb3 zk_cX12_sayTurn zn_cX12_sayTurn (by decide +kernel)) rfl
theorem dX12_sayTurn_73 : decode cX12_sayTurn 73 = .ok (.ldc_w 672, 3) := zo_19 (b1 := 2) (b2 := 160) (zkb3 zk_cX12_sayTurn zn_cX12_sayTurn (by decide +kernel)) rfl
theorem dX12_sayTurn_76 : decode cX12_sayTurn 76 = .ok (.goto 18, 3) := zo_167 (b1 := 0) (b2 := 18) (zkb3 zk_cX12_sayTurn zn_cX12_sayTurn (by decide +kernel)) rfl
theorem dX12_sayTurn_79 : decode cX12_sayTurn 79 = .ok (.iload_n 2, 1) := zo_28 (zkb zk_cX12_sayTurn zn_cX12_sayTurn (by decide +kernel))
theorem dX12_sayTurn_80 : decode cX12_sayTurn 80 = .ok (.bipush 6, 2) := zo_16 (b1 := 6) (zkb2 zk_cX12_sayTurn zn_cX12_sayTurn (by decide +kernel)) rfl
theorem dX12_sayTurn_82 : decode cX12_sayTurn 82 = .ok (.if_icmp .ne 9, 3) := zo_160 (b1 := 0) (b2 := 9) (zkb3 zk_cX12_sayTurn zn_cX12_sayTurn (by decide +kernel)) rfl
theorem dX12_sayTurn_85 : decode cX12_sayTurn 85 = .ok (.ldc_w 674, 3) := zo_19 (b1 := 2) (b2 := 162) (zkb3 zk_cX12_sayTurn zn_cX12_sayTurn (by decide +kernel)) rfl
theorem dX12_sayTurn_88 : decode cX12_sayTurn 88 = .ok (.goto 6, 3) := zo_167 (b1 := 0) (b2 := 6) (zkb3 zk_cX12_sayTurn zn_cX12_sayTurn (by decide +kernel)) rfl
theorem dX12_sayTurn_91 : decode cX12_sayTurn 91 = .ok (.ldc_w 676, 3) := zo_19 (b1 := 2) (b2 := 164) (zkb3 zk_cX12_sayTurn zn_cX12_sayTurn (by decide +kernel)) rfl
theorem dX12_sayTurn_94 : decode cX12_sayTurn 94 = .ok (.invokevirtual 559, 3) := zo_182 (b1 := 2) (b2 := 47) (zkb3 zk_cX12_sayTurn zn_cX12_sayTurn (by decide +kernel)) rfl
theorem dX12_sayTurn_97 : decode cX12_sayTurn 97 = .ok (.goto 49, 3) := zo_167 (b1 := 0) (b2 := 49) (zkb3 zk_cX12_sayTurn zn_cX12_sayTurn (by decide +kernel)) rfl
theorem dX12_sayTurn_100 : decode cX12_sayTurn 100 = .ok (.aload_n 0, 1) := zo_42 (zkb zk_cX12_sayTurn zn_cX12_sayTurn (by decide +kernel))
theorem dX12_sayTurn_101 : decode cX12_sayTurn 101 = .ok (.iload_n 1, 1) := zo_27 (zkb zk_cX12_sayTurn zn_cX12_sayTurn (by decide +kernel))
theorem dX12_sayTurn_102 : decode cX12_sayTurn 102 = .ok (.sipush 128, 3) := zo_17 (b1 := 0) (b2 := 128) (zkb3 zk_cX12_sayTurn zn_cX12_sayTurn (by decide +kernel)) rfl
theorem dX12_sayTurn_105 : decode cX12_sayTurn 105 = .ok (.if_icmp .ge 9, 3) := zo_162 (b1 := 0) (b2 := 9) (zkb3 zk_cX12_sayTurn zn_cX12_sayTurn (by decide +kernel)) rfl
theorem dX12_sayTurn_108 : decode cX12_sayTurn 108 = .ok (.ldc_w 678, 3) := zo_19 (b1 := 2) (b2 := 166) (zkb3 zk_cX12_sayTurn zn_cX12_sayTurn (by decide +kernel)) rfl
theorem dX12_sayTurn_111 : decode cX12_sayTurn 111 = .ok (.goto 19, 3) := zo_167 (b1 := 0) (b2 := 19) (zkb3 zk_cX12_sayTurn zn_cX12_sayTurn (by decide +kernel)) rfl
theorem dX12_sayTurn_114 : decode cX12_sayTurn 114 = .ok (.iload_n 1, 1) := zo_27 (zkb zk_cX12_sayTurn zn_cX12_sayTurn (by decide +kernel))
theorem dX12_sayTurn_115 : decode cX12_sayTurn 115 = .ok (.sipush 192, 3) := zo_17 (b1 := 0) (b2 := 192) (zkb3 zk_cX12_sayTurn zn_cX12_sayTurn (by decide +kernel)) rfl
theorem dX12_sayTurn_118 : decode cX12_sayTurn 118 = .ok (.if_icmp .ge 9, 3) := zo_162 (b1 := 0) (b2 := 9) (zkb3 zk_cX12_sayTurn zn_cX12_sayTurn (by decide +kernel)) rfl
theorem dX12_sayTurn_121 : decode cX12_sayTurn 121 = .ok (.ldc_w 680, 3) := zo_19 (b1 := 2) (b2 := 168) (zkb3 zk_cX12_sayTurn zn_cX12_sayTurn (by decide +kernel)) rfl
theorem dX12_sayTurn_124 : decode cX12_sayTurn 124 = .ok (.goto 6, 3) := zo_167 (b1 := 0) (b2 := 6) (zkb3 zk_cX12_sayTurn zn_cX12_sayTurn (by decide +kernel)) rfl
theorem dX12_sayTurn_127 : decode cX12_sayTurn 127 = .ok (.ldc_w 682, 3) := zo_19 (b1 := 2) (b2 := 170) (zkb3 zk_cX12_sayTurn zn_cX12_sayTurn (by decide +kernel)) rfl
theorem dX12_sayTurn_130 : decode cX12_sayTurn 130 = .ok (.invokevirtual 559, 3) := zo_182 (b1 := 2) (b2 := 47) (zkb3 zk_cX12_sayTurn zn_cX12_sayTurn (by decide +kernel)) rfl
theorem dX12_sayTurn_133 : decode cX12_sayTurn 133 = .ok (.aload_n 0, 1) := zo_42 (zkb zk_cX12_sayTurn zn_cX12_sayTurn (by decide +kernel))
theorem dX12_sayTurn_134 : decode cX12_sayTurn 134 = .ok (.iload_n 2, 1) := zo_28 (zkb zk_cX12_sayTurn zn_cX12_sayTurn (by decide +kernel))
theorem dX12_sayTurn_135 : decode cX12_sayTurn 135 = .ok (.iconst 1, 1) := zo_4 (zkb zk_cX12_sayTurn zn_cX12_sayTurn (by decide +kernel))
theorem dX12_sayTurn_136 : decode cX12_sayTurn 136 = .ok (.invokevirtual 579, 3) := zo_182 (b1 := 2) (b2 := 67) (zkb3 zk_cX12_sayTurn zn_cX12_sayTurn (by decide +kernel)) rfl
theorem dX12_sayTurn_139 : decode cX12_sayTurn 139 = .ok (.aload_n 0, 1) := zo_42 (zkb zk_cX12_sayTurn zn_cX12_sayTurn (by decide +kernel))
theorem dX12_sayTurn_140 : decode cX12_sayTurn 140 = .ok (.ldc_w 657, 3) := zo_19 (b1 := 2) (b2 := 145) (zkb3 zk_cX12_sayTurn zn_cX12_sayTurn (by decide +kernel)) rfl
theorem dX12_sayTurn_143 : decode cX12_sayTurn 143 = .ok (.invokevirtual 559, 3) := zo_182 (b1 := 2) (b2 := 47) (zkb3 zk_cX12_sayTurn zn_cX12_sayTurn (by decide +kernel)) rfl
theorem dX12_sayTurn_146 : decode cX12_sayTurn 146 = .ok (.aload_n 0, 1) := zo_42 (zkb zk_cX12_sayTurn zn_cX12_sayTurn (by decide +kernel))
theorem dX12_sayTurn_147 : decode cX12_sayTurn 147 = .ok (.iload_n 1, 1) := zo_27 (zkb zk_cX12_sayTurn zn_cX12_sayTurn (by decide +kernel))
theorem dX12_sayTurn_148 : decode cX12_sayTurn 148 = .ok (.bipush 7, 2) := zo_16 (b1 := 7) (zkb2 zk_cX12_sayTurn zn_cX12_sayTurn (by decide +kernel)) rfl
theorem dX12_sayTurn_150 : decode cX12_sayTurn 150 = .ok (.iand, 1) := zo_126 (zkb zk_cX12_sayTurn zn_cX12_sayTurn (by decide +kernel))
theorem dX12_sayTurn_151 : decode cX12_sayTurn 151 = .ok (.invokevirtual 659, 3) := zo_182 (b1 := 2) (b2 := 147) (zkb3 zk_cX12_sayTurn zn_cX12_sayTurn (by decide +kernel)) rfl
theorem dX12_sayTurn_154 : decode cX12_sayTurn 154 = .ok (.return_, 1) := zo_177 (zkb zk_cX12_sayTurn zn_cX12_sayTurn (by decide +kernel))
def kn_cX12_sayPlain : Nat := 0xb1bc02b61d1c2a0900a7b902b61d1c2a0c00a2071d1700a79302b61d2ab602b61c2a1000a2c000111b2b00a79302b61d2a2f02b69102132a9302b61c2a2f02b6b402132a1e00a28000111b4d00a72f02b6b202132a0d00a076101b5d00a7af02b61d1c2a0c00a240101b6c00a7ac02b61d1c2a0c00a2071d1100a240101b3e7e07101b3d7e07107a061b
theorem zk_cX12_sayPlain : zkd cX12_sayPlain.data.toList kn_cX12_sayPlain = true := by decide +kernel
theorem zn_cX12_sayPlain : cX12_sayPlain.data.toList.length = 138 := by decide +kernel
theorem dX12_sayPlain_0 : decode cX12_sayPlain 0 = .ok (.iload_n 1, 1) := zo_27 (zkb zk_cX12_sayPlain zn_cX12_sayPlain (by decide +kernel))
theorem dX12_sayPlain_1 : decode cX12_sayPlain 1 = .ok (.iconst 3, 1) := zo_6 (zkb zk_cX12_sayPlain zn_cX12_sayPlain (by decide +kernel))
theorem dX12_sayPlain_2 : decode cX12_sayPlain 2 = .ok (.ishr, 1) := zo_122 (zkb zk_cX12_sayPlain zn_cX12_sayPlain (by decide +kernel))
theorem dX12_sayPlain_3 : decode cX12_sayPlain 3 = .ok (.bipush 7, 2) := zo_16 (b1 := 7) (zkb2 zk_cX12_sayPlain zn_cX12_sayPlain (by decide +kernel)) rfl
theorem dX12_sayPlain_5 : decode cX12_sayPlain 5 = .ok (.iand, 1) := zo_126 (zkb zk_cX12_sayPlain zn_cX12_sayPlain (by decide +kernel))
theorem dX12_sayPlain_6 : decode cX12_sayPlain 6 = .ok (.istore_n 2, 1) := zo_61 (zkb zk_cX12_sayPlain zn_cX12_sayPlain (by decide +kernel))
theorem dX12_sayPlain_7 : decode cX12_sayPlain 7 = .ok (.iload_n 1, 1) := zo_27 (zkb zk_cX12_sayPlain zn_cX12_sayPlain (by decide +kernel))
theorem dX12_sayPlain_8 : decode cX12_sayPlain 8 = .ok (.bipush 7, 2) := zo_16 (b1 := 7) (zkb2 zk_cX12_sayPlain zn_cX12_sayPlain (by decide +kernel)) rfl
theorem dX12_sayPlain_10 : decode cX12_sayPlain 10 = .ok (.iand, 1) := zo_126 (zkb zk_cX12_sayPlain zn_cX12_sayPlain (by decide +kernel))
theorem dX12_sayPlain_11 : decode cX12_sayPlain 11 = .ok (.istore_n 3, 1) := zo_62 (zkb zk_cX12_sayPlain zn_cX12_sayPlain (by decide +kernel))
theorem dX12_sayPlain_12 : decode cX12_sayPlain 12 = .ok (.iload_n 1, 1) := zo_27 (zkb zk_cX12_sayPlain zn_cX12_sayPlain (by decide +kernel))
theorem dX12_sayPlain_13 : decode cX12_sayPlain 13 = .ok (.bipush 64, 2) := zo_16 (b1 := 64) (zkb2 zk_cX12_sayPlain zn_cX12_sayPlain (by decide +kernel)) rfl
theorem dX12_sayPlain_15 : decode cX12_sayPlain 15 = .ok (.if_icmp .ge 17, 3) := zo_162 (b1 := 0) (b2 := 17) (zkb3 zk_cX12_sayPlain zn_cX12_sayPlain (by decide +kernel)) rfl
theorem dX12_sayPlain_18 : decode cX12_sayPlain 18 = .ok (.iload_n 3, 1) := zo_29 (zkb zk_cX12_sayPlain zn_cX12_sayPlain (by decide +kernel))
theorem dX12_sayPlain_19 : decode cX12_sayPlain 19 = .ok (.iconst 4, 1) := zo_7 (zkb zk_cX12_sayPlain zn_cX12_sayPlain (by decide +kernel))
theorem dX12_sayPlain_20 : decode cX12_sayPlain 20 = .ok (.if_icmp .ge 12, 3) := zo_162 (b1 := 0) (b2 := 12) (zkb3 zk_cX12_sayPlain zn_cX12_sayPlain (by decide +kernel)) rfl
theorem dX12_sayPlain_23 : decode cX12_sayPlain 23 = .ok (.aload_n 0, 1) := zo_42 (zkb zk_cX12_sayPlain zn_cX12_sayPlain (by decide +kernel))
theorem dX12_sayPlain_24 : decode cX12_sayPlain 24 = .ok (.iload_n 2, 1) := zo_28 (zkb zk_cX12_sayPlain zn_cX12_sayPlain (by decide +kernel))
theorem dX12_sayPlain_25 : decode cX12_sayPlain 25 = .ok (.iload_n 3, 1) := zo_29 (zkb zk_cX12_sayPlain zn_cX12_sayPlain (by decide +kernel))
theorem dX12_sayPlain_26 : decode cX12_sayPlain 26 = .ok (.invokevirtual 684, 3) := zo_182 (b1 := 2) (b2 := 172) (zkb3 zk_cX12_sayPlain zn_cX12_sayPlain (by decide +kernel)) rfl
theorem dX12_sayPlain_29 : decode cX12_sayPlain 29 = .ok (.goto 108, 3) := zo_167 (b1 := 0) (b2 := 108) (zkb3 zk_cX12_sayPlain zn_cX12_sayPlain (by decide +kernel)) rfl
theorem dX12_sayPlain_32 : decode cX12_sayPlain 32 = .ok (.iload_n 1, 1) := zo_27 (zkb zk_cX12_sayPlain zn_cX12_sayPlain (by decide +kernel))
theorem dX12_sayPlain_33 : decode cX12_sayPlain 33 = .ok (.bipush 64, 2) := zo_16 (b1 := 64) (zkb2 zk_cX12_sayPlain zn_cX12_sayPlain (by decide +kernel)) rfl
theorem dX12_sayPlain_35 : decode cX12_sayPlain 35 = .ok (.if_icmp .ge 12, 3) := zo_162 (b1 := 0) (b2 := 12) (zkb3 zk_cX12_sayPlain zn_cX12_sayPlain (by decide +kernel)) rfl
theorem dX12_sayPlain_38 : decode cX12_sayPlain 38 = .ok (.aload_n 0, 1) := zo_42 (zkb zk_cX12_sayPlain zn_cX12_sayPlain (by decide +kernel))
theorem dX12_sayPlain_39 : decode cX12_sayPlain 39 = .ok (.iload_n 2, 1) := zo_28 (zkb zk_cX12_sayPlain zn_cX12_sayPlain (by decide +kernel))
theorem dX12_sayPlain_40 : decode cX12_sayPlain 40 = .ok (.iload_n 3, 1) := zo_29 (zkb zk_cX12_sayPlain zn_cX12_sayPlain (by decide +kernel))
theorem dX12_sayPlain_41 : decode cX12_sayPlain 41 = .ok (.invokevirtual 687, 3) := zo_182 (b1 := 2) (b2 := 175) (zkb3 zk_cX12_sayPlain zn_cX12_sayPlain (by decide +kernel)) rfl
theorem dX12_sayPlain_44 : decode cX12_sayPlain 44 = .ok (.goto 93, 3) := zo_167 (b1 := 0) (b2 := 93) (zkb3 zk_cX12_sayPlain zn_cX12_sayPlain (by decide +kernel)) rfl
theorem dX12_sayPlain_47 : decode cX12_sayPlain 47 = .ok (.iload_n 1, 1) := zo_27 (zkb zk_cX12_sayPlain zn_cX12_sayPlain (by decide +kernel))
theorem dX12_sayPlain_48 : decode cX12_sayPlain 48 = .ok (.bipush 118, 2) := zo_16 (b1 := 118) (zkb2 zk_cX12_sayPlain zn_cX12_sayPlain (by decide +kernel)) rfl
theorem dX12_sayPlain_50 : decode cX12_sayPlain 50 = .ok (.if_icmp .ne 13, 3) := zo_160 (b1 := 0) (b2 := 13) (zkb3 zk_cX12_sayPlain zn_cX12_sayPlain (by decide +kernel)) rfl
theorem dX12_sayPlain_53 : decode cX12_sayPlain 53 = .ok (.aload_n 0, 1) := zo_42 (zkb zk_cX12_sayPlain zn_cX12_sayPlain (by decide +kernel))
theorem dX12_sayPlain_54 : decode cX12_sayPlain 54 = .ok (.ldc_w 690, 3) := zo_19 (b1 := 2) (b2 := 178) (zkb3 zk_cX12_sayPlain zn_cX12_sayPlain (by decide +kernel)) rfl
theorem dX12_sayPlain_57 : decode cX12_sayPlain 57 = .ok (.invokevirtual 559, 3) := zo_182 (b1 := 2) (b2 := 47) (zkb3 zk_cX12_sayPlain zn_cX12_sayPlain (by decide +kernel)) rfl
theorem dX12_sayPlain_60 : decode cX12_sayPlain 60 = .ok (.goto 77, 3) := zo_167 (b1 := 0) (b2 := 77) (zkb3 zk_cX12_sayPlain zn_cX12_sayPlain (by decide +kernel)) rfl
theorem dX12_sayPlain_63 : decode cX12_sayPlain 63 = .ok (.iload_n 1, 1) := zo_27 (zkb zk_cX12_sayPlain zn_cX12_sayPlain (by decide +kernel))
theorem dX12_sayPlain_64 : decode cX12_sayPlain 64 = .ok (.sipush 128, 3) := zo_17 (b1 := 0) (b2 := 128) (zkb3 zk_cX12_sayPlain zn_cX12_sayPlain (by decide +kernel)) rfl
theorem dX12_sayPlain_67 : decode cX12_sayPlain 67 = .ok (.if_icmp .ge 30, 3) := zo_162 (b1 := 0) (b2 := 30) (zkb3 zk_cX12_sayPlain zn_cX12_sayPlain (by decide +kernel)) rfl
theorem dX12_sayPlain_70 : decode cX12_sayPlain 70 = .ok (.aload_n 0, 1) := zo_42 (zkb zk_cX12_sayPlain zn_cX12_sayPlain (by decide +kernel))
theorem dX12_sayPlain_71 : decode cX12_sayPlain 71 = .ok (.ldc_w 692, 3) := zo_19 (b1 := 2) (b2 := 180) (zkb3 zk_cX12_sayPlain zn_cX12_sayPlain (by decide +kernel)) rfl
theorem dX12_sayPlain_74 : decode cX12_sayPlain 74 = .ok (.invokevirtual 559, 3) := zo_182 (b1 := 2) (b2 := 47) (zkb3 zk_cX12_sayPlain zn_cX12_sayPlain (by decide +kernel)) rfl
theorem dX12_sayPlain_77 : decode cX12_sayPlain 77 = .ok (.aload_n 0, 1) := zo_42 (zkb zk_cX12_sayPlain zn_cX12_sayPlain (by decide +kernel))
theorem dX12_sayPlain_78 : decode cX12_sayPlain 78 = .ok (.iload_n 2, 1) := zo_28 (zkb zk_cX12_sayPlain zn_cX12_sayPlain (by decide +kernel))
theorem dX12_sayPlain_79 : decode cX12_sayPlain 79 = .ok (.invokevirtual 659, 3) := zo_182 (b1 := 2) (b2 := 147) (zkb3 zk_cX12_sayPlain zn_cX12_sayPlain (by decide +kernel)) rfl
theorem dX12_sayPlain_82 : decode cX12_sayPlain 82 = .ok (.aload_n 0, 1) := zo_42 (zkb zk_cX12_sayPlain zn_cX12_sayPlain (by decide +kernel))
theorem dX12_sayPlain_83 : decode cX12_sayPlain 83 = .ok (.ldc_w 657, 3) := zo_19 (b1 := 2) (b2 := 145) (zkb3 zk_cX12_sayPlain zn_cX12_sayPlain (by decide +kernel)) rfl
theorem dX12_sayPlain_86 : decode cX12_sayPlain 86 = .ok (.invokevirtual 559, 3) := zo_182 (b1 := 2) (b2 := 47) (zkb3 zk_cX12_sayPlain zn_cX12_sayPlain (by decide +kernel)) rfl
theorem dX12_sayPlain_89 : decode cX12_sayPlain 89 = .ok (.aload_n 0, 1) := zo_42 (zkb zk_cX12_sayPlain zn_cX12_sayPlain (by decide +kernel))
theorem dX12_sayPlain_90 : decode cX12_sayPlain 90 = .ok (.iload_n 3, 1) := zo_29 (zkb zk_cX12_sayPlain zn_cX12_sayPlain (by decide +kernel))
theorem dX12_sayPlain_91 : decode cX12_sayPlain 91 = .ok (.invokevirtual 659, 3) := zo_182 (b1 := 2) (b2 := 147) (zkb3 zk_cX12_sayPlain zn_cX12_sayPlain (by decide +kernel)) rfl
theorem dX12_sayPlain_94 : decode cX12_sayPlain 94 = .ok (.goto 43, 3) := zo_167 (b1 := 0) (b2 := 43) (zkb3 zk_cX12_sayPlain zn_cX12_sayPlain (by decide +kernel)) rfl
theorem dX12_sayPlain_97 : decode cX12_sayPlain 97 = .ok (.iload_n 1, 1) := zo_27 (zkb zk_cX12_sayPlain zn_cX12_sayPlain (by decide +kernel))
theorem dX12_sayPlain_98 : decode cX12_sayPlain 98 = .ok (.sipush 192, 3) := zo_17 (b1 := 0) (b2 := 192) (zkb3 zk_cX12_sayPlain zn_cX12_sayPlain (by decide +kernel)) rfl
theorem dX12_sayPlain_101 : decode cX12_sayPlain 101 = .ok (.if_icmp .ge 16, 3) := zo_162 (b1 := 0) (b2 := 16) (zkb3 zk_cX12_sayPlain zn_cX12_sayPlain (by decide +kernel)) rfl
theorem dX12_sayPlain_104 : decode cX12_sayPlain 104 = .ok (.aload_n 0, 1) := zo_42 (zkb zk_cX12_sayPlain zn_cX12_sayPlain (by decide +kernel))
theorem dX12_sayPlain_105 : decode cX12_sayPlain 105 = .ok (.iload_n 2, 1) := zo_28 (zkb zk_cX12_sayPlain zn_cX12_sayPlain (by decide +kernel))
theorem dX12_sayPlain_106 : decode cX12_sayPlain 106 = .ok (.invokevirtual 694, 3) := zo_182 (b1 := 2) (b2 := 182) (zkb3 zk_cX12_sayPlain zn_cX12_sayPlain (by decide +kernel)) rfl
theorem dX12_sayPlain_109 : decode cX12_sayPlain 109 = .ok (.aload_n 0, 1) := zo_42 (zkb zk_cX12_sayPlain zn_cX12_sayPlain (by decide +kernel))
theorem dX12_sayPlain_110 : decode cX12_sayPlain 110 = .ok (.iload_n 3, 1) := zo_29 (zkb zk_cX12_sayPlain zn_cX12_sayPlain (by decide +kernel))
theorem dX12_sayPlain_111 : decode cX12_sayPlain 111 = .ok (.invokevirtual 659, 3) := zo_182 (b1 := 2) (b2 := 147) (zkb3 zk_cX12_sayPlain zn_cX12_sayPlain (by decide +kernel)) rfl
theorem dX12_sayPlain_114 : decode cX12_sayPlain 114 = .ok (.goto 23, 3) := zo_167 (b1 := 0) (b2 := 23) (zkb3 zk_cX12_sayPlain zn_cX12_sayPlain (by decide +kernel)) rfl
theorem dX12_sayPlain_117 : decode cX12_sayPlain 117 = .ok (.iload_n 3, 1) := zo_29 (zkb zk_cX12_sayPlain zn_cX12_sayPlain (by decide +kernel))
theorem dX12_sayPlain_118 : decode cX12_sayPlain 118 = .ok (.iconst 4, 1) := zo_7 (zkb zk_cX12_sayPlain zn_cX12_sayPlain (by decide +kernel))
theorem dX12_sayPlain_119 : decode cX12_sayPlain 119 = .ok (.if_icmp .ge 12, 3) := zo_162 (b1 := 0) (b2 := 12) (zkb3 zk_cX12_sayPlain zn_cX12_sayPlain (by decide +kernel)) rfl
theorem dX12_sayPlain_122 : decode cX12_sayPlain 122 = .ok (.aload_n 0, 1) := zo_42 (zkb zk_cX12_sayPlain zn_cX12_sayPlain (by decide +kernel))
theorem dX12_sayPlain_123 : decode cX12_sayPlain 123 = .ok (.iload_n 2, 1) := zo_28 (zkb zk_cX12_sayPlain zn_cX12_sayPlain (by decide +kernel))
theorem dX12_sayPlain_124 : decode cX12_sayPlain 124 = .ok (.iload_n 3, 1) := zo_29 (zkb zk_cX12_sayPlain zn_cX12_sayPlain (by decide +kernel))
theorem dX12_sayPlain_125 : decode cX12_sayPlain 125 = .ok (.invokevirtual 697, 3) := zo_182 (b1 := 2) (b2 := 185) (zkb3 zk_cX12_sayPlain zn_cX12_sayPlain (by decide +kernel)) rfl
theorem dX12_sayPlain_128 : decode cX12_sayPlain 128 = .ok (.goto 9, 3) := zo_167 (b1 := 0) (b2 := 9) (zkb3 zk_cX12_sayPlain zn_cX12_sayPlain (by decide +kernel)) rfl
theorem dX12_sayPlain_131 : decode cX12_sayPlain 131 = .ok (.aload_n 0, 1) := zo_42 (zkb zk_cX12_sayPlain zn_cX12_sayPlain (by decide +kernel))
theorem dX12_sayPlain_132 : decode cX12_sayPlain 132 = .ok (.iload_n 2, 1) := zo_28 (zkb zk_cX12_sayPlain zn_cX12_sayPlain (by decide +kernel))
theorem dX12_sayPlain_133 : decode cX12_sayPlain 133 = .ok (.iload_n 3, 1) := zo_29 (zkb zk_cX12_sayPlain zn_cX12_sayPlain (by decide +kernel))
theorem dX12_sayPlain_134 : decode cX12_sayPlain 134 = .ok (.invokevirtual 700, 3) := zo_182 (b1 := 2) (b2 := 188) (zkb3 zk_cX12_sayPlain zn_cX12_sayPlain (by decide +kernel)) rfl
theorem dX12_sayPlain_137 : decode cX12_sayPlain 137 = .ok (.return_, 1) := zo_177 (zkb zk_cX12_sayPlain zn_cX12_sayPlain (by decide +kernel))
def kn_cX12_sayZero : Nat := 0xb12f02b65a02132a0a00a74b02b62a0a00a0051d2f02b69102132ab10400990415d902b6ce02b62a2a0b00a72f02b6d702130600a7d5021309009a1d2a1700a2051d2f02b69102132a2f02b65a02132a0a00a74b02b62a0a00a0051d1d009904152f02b6b402132a6a00a7cb02b6031d2a2f02b6d302130600a7d1021309009904152a1e00a0061c8a00a74302b607ce02b62a2a9600a7cb02b6031d2a0c009904152f02b69102132acb02b6031d2a0900a74b02b62a0a009904152f02b6b402130600a773021309009904152a4800a0041cd400a7c802b62adb00a4041b2f02b69102132ac502b664071b2a1100a4061b2f02b6c302130600a7c102130900a0051b1100a7bf02130900a0041b1c00a78f021309009a1b2a49009a1c0436030400a7040700a00470051b3e7a041b
theorem zk_cX12_sayZero : zkd cX12_sayZero.data.toList kn_cX12_sayZero = true := by decide +kernel
theorem zn_cX12_sayZero : cX12_sayZero.data.toList.length = 302 := by decide +kernel
theorem dX12_sayZero_0 : decode cX12_sayZero 0 = .ok (.iload_n 1, 1) := zo_27 (zkb zk_cX12_sayZero zn_cX12_sayZero (by decide +kernel))
theorem dX12_sayZero_1 : decode cX12_sayZero 1 = .ok (.iconst 1, 1) := zo_4 (zkb zk_cX12_sayZero zn_cX12_sayZero (by decide +kernel))
theorem dX12_sayZero_2 : decode cX12_sayZero 2 = .ok (.ishr, 1) := zo_122 (zkb zk_cX12_sayZero zn_cX12_sayZero (by decide +kernel))
theorem dX12_sayZero_3 : decode cX12_sayZero 3 = .ok (.istore_n 3, 1) := zo_62 (zkb zk_cX12_sayZero zn_cX12_sayZero (by decide +kernel))
theorem dX12_sayZero_4 : decode cX12_sayZero 4 = .ok (.iload_n 1, 1) := zo_27 (zkb zk_cX12_sayZero zn_cX12_sayZero (by decide +kernel))
theorem dX12_sayZero_5 : decode cX12_sayZero 5 = .ok (.iconst 2, 1) := zo_5 (zkb zk_cX12_sayZero zn_cX12_sayZero (by decide +kernel))
theorem dX12_sayZero_6 : decode cX12_sayZero 6 = .ok (.irem, 1) := zo_112 (zkb zk_cX12_sayZero zn_cX12_sayZero (by decide +kernel))
theorem dX12_sayZero_7 : decode cX12_sayZero 7 = .ok (.iconst 1, 1) := zo_4 (zkb zk_cX12_sayZero zn_cX12_sayZero (by decide +kernel))
theorem dX12_sayZero_8 : decode cX12_sayZero 8 = .ok (.if_icmp .ne 7, 3) := zo_160 (b1 := 0) (b2 := 7) (zkb3 zk_cX12_sayZero zn_cX12_sayZero (by decide +kernel)) rfl
theorem dX12_sayZero_11 : decode cX12_sayZero 11 = .ok (.iconst 1, 1) := zo_4 (zkb zk_cX12_sayZero zn_cX12_sayZero (by decide +kernel))
theorem dX12_sayZero_12 : decode cX12_sayZero 12 = .ok (.goto 4, 3) := zo_167 (b1 := 0) (b2 := 4) (zkb3 zk_cX12_sayZero zn_cX12_sayZero (by decide +kernel)) rfl
theorem dX12_sayZero_15 : decode cX12_sayZero 15 = .ok (.iconst 0, 1) := zo_3 (zkb zk_cX12_sayZero zn_cX12_sayZero (by decide +kernel))
theorem dX12_sayZero_16 : decode cX12_sayZero 16 = .ok (.istore 4, 2) := zo_54 (b1 := 4) (zkb2 zk_cX12_sayZero zn_cX12_sayZero (by decide +kernel))
theorem dX12_sayZero_18 : decode cX12_sayZero 18 = .ok (.iload_n 2, 1) := zo_28 (zkb zk_cX12_sayZero zn_cX12_sayZero (by decide +kernel))
theorem dX12_sayZero_19 : decode cX12_sayZero 19 = .ok (.ifCond .ne 73, 3) := zo_154 (b1 := 0) (b2 := 73) (zkb3 zk_cX12_sayZero zn_cX12_sayZero (by decide +kernel)) rfl
theorem dX12_sayZero_22 : decode cX12_sayZero 22 = .ok (.aload_n 0, 1) := zo_42 (zkb zk_cX12_sayZero zn_cX12_sayZero (by decide +kernel))
theorem dX12_sayZero_23 : decode cX12_sayZero 23 = .ok (.iload_n 1, 1) := zo_27 (zkb zk_cX12_sayZero zn_cX12_sayZero (by decide +kernel))
theorem dX12_sayZero_24 : decode cX12_sayZero 24 = .ok (.ifCond .ne 9, 3) := zo_154 (b1 := 0) (b2 := 9) (zkb3 zk_cX12_sayZero zn_cX12_sayZero (by decide +kernel)) rfl
theorem dX12_sayZero_27 : decode cX12_sayZero 27 = .ok (.ldc_w 655, 3) := zo_19 (b1 := 2) (b2 := 143) (zkb3 zk_cX12_sayZero zn_cX12_sayZero (by decide +kernel)) rfl
theorem dX12_sayZero_30 : decode cX12_sayZero 30 = .ok (.goto 28, 3) := zo_167 (b1 := 0) (b2 := 28) (zkb3 zk_cX12_sayZero zn_cX12_sayZero (by decide +kernel)) rfl
theorem dX12_sayZero_33 : decode cX12_sayZero 33 = .ok (.iload_n 1, 1) := zo_27 (zkb zk_cX12_sayZero zn_cX12_sayZero (by decide +kernel))
theorem dX12_sayZero_34 : decode cX12_sayZero 34 = .ok (.iconst 1, 1) := zo_4 (zkb zk_cX12_sayZero zn_cX12_sayZero (by decide +kernel))
theorem dX12_sayZero_35 : decode cX12_sayZero 35 = .ok (.if_icmp .ne 9, 3) := zo_160 (b1 := 0) (b2 := 9) (zkb3 zk_cX12_sayZero zn_cX12_sayZero (by decide +kernel)) rfl
theorem dX12_sayZero_38 : decode cX12_sayZero 38 = .ok (.ldc_w 703, 3) := zo_19 (b1 := 2) (b2 := 191) (zkb3 zk_cX12_sayZero zn_cX12_sayZero (by decide +kernel)) rfl
theorem dX12_sayZero_41 : decode cX12_sayZero 41 = .ok (.goto 17, 3) := zo_167 (b1 := 0) (b2 := 17) (zkb3 zk_cX12_sayZero zn_cX12_sayZero (by decide +kernel)) rfl
theorem dX12_sayZero_44 : decode cX12_sayZero 44 = .ok (.iload_n 1, 1) := zo_27 (zkb zk_cX12_sayZero zn_cX12_sayZero (by decide +kernel))
theorem dX12_sayZero_45 : decode cX12_sayZero 45 = .ok (.iconst 2, 1) := zo_5 (zkb zk_cX12_sayZero zn_cX12_sayZero (by decide +kernel))
theorem dX12_sayZero_46 : decode cX12_sayZero 46 = .ok (.if_icmp .ne 9, 3) := zo_160 (b1 := 0) (b2 := 9) (zkb3 zk_cX12_sayZero zn_cX12_sayZero (by decide +kernel)) rfl
theorem dX12_sayZero_49 : decode cX12_sayZero 49 = .ok (.ldc_w 705, 3) := zo_19 (b1 := 2) (b2 := 193) (zkb3 zk_cX12_sayZero zn_cX12_sayZero (by decide +kernel)) rfl
theorem dX12_sayZero_52 : decode cX12_sayZero 52 = .ok (.goto 6, 3) := zo_167 (b1 := 0) (b2 := 6) (zkb3 zk_cX12_sayZero zn_cX12_sayZero (by decide +kernel)) rfl
theorem dX12_sayZero_55 : decode cX12_sayZero 55 = .ok (.ldc_w 707, 3) := zo_19 (b1 := 2) (b2 := 195) (zkb3 zk_cX12_sayZero zn_cX12_sayZero (by decide +kernel)) rfl
theorem dX12_sayZero_58 : decode cX12_sayZero 58 = .ok (.invokevirtual 559, 3) := zo_182 (b1 := 2) (b2 := 47) (zkb3 zk_cX12_sayZero zn_cX12_sayZero (by decide +kernel)) rfl
theorem dX12_sayZero_61 : decode cX12_sayZero 61 = .ok (.iload_n 1, 1) := zo_27 (zkb zk_cX12_sayZero zn_cX12_sayZero (by decide +kernel))
theorem dX12_sayZero_62 : decode cX12_sayZero 62 = .ok (.iconst 3, 1) := zo_6 (zkb zk_cX12_sayZero zn_cX12_sayZero (by decide +kernel))
theorem dX12_sayZero_63 : decode cX12_sayZero 63 = .ok (.if_icmp .le 17, 3) := zo_164 (b1 := 0) (b2 := 17) (zkb3 zk_cX12_sayZero zn_cX12_sayZero (by decide +kernel)) rfl
theorem dX12_sayZero_66 : decode cX12_sayZero 66 = .ok (.aload_n 0, 1) := zo_42 (zkb zk_cX12_sayZero zn_cX12_sayZero (by decide +kernel))
theorem dX12_sayZero_67 : decode cX12_sayZero 67 = .ok (.iload_n 1, 1) := zo_27 (zkb zk_cX12_sayZero zn_cX12_sayZero (by decide +kernel))
theorem dX12_sayZero_68 : decode cX12_sayZero 68 = .ok (.iconst 4, 1) := zo_7 (zkb zk_cX12_sayZero zn_cX12_sayZero (by decide +kernel))
theorem dX12_sayZero_69 : decode cX12_sayZero 69 = .ok (.isub, 1) := zo_100 (zkb zk_cX12_sayZero zn_cX12_sayZero (by decide +kernel))
theorem dX12_sayZero_70 : decode cX12_sayZero 70 = .ok (.invokevirtual 709, 3) := zo_182 (b1 := 2) (b2 := 197) (zkb3 zk_cX12_sayZero zn_cX12_sayZero (by decide +kernel)) rfl
theorem dX12_sayZero_73 : decode cX12_sayZero 73 = .ok (.aload_n 0, 1) := zo_42 (zkb zk_cX12_sayZero zn_cX12_sayZero (by decide +kernel))
theorem dX12_sayZero_74 : decode cX12_sayZero 74 = .ok (.ldc_w 657, 3) := zo_19 (b1 := 2) (b2 := 145) (zkb3 zk_cX12_sayZero zn_cX12_sayZero (by decide +kernel)) rfl
theorem dX12_sayZero_77 : decode cX12_sayZero 77 = .ok (.invokevirtual 559, 3) := zo_182 (b1 := 2) (b2 := 47) (zkb3 zk_cX12_sayZero zn_cX12_sayZero (by decide +kernel)) rfl
theorem dX12_sayZero_80 : decode cX12_sayZero 80 = .ok (.iload_n 1, 1) := zo_27 (zkb zk_cX12_sayZero zn_cX12_sayZero (by decide +kernel))
theorem dX12_sayZero_81 : decode cX12_sayZero 81 = .ok (.iconst 1, 1) := zo_4 (zkb zk_cX12_sayZero zn_cX12_sayZero (by decide +kernel))
theorem dX12_sayZero_82 : decode cX12_sayZero 82 = .ok (.if_icmp .le 219, 3) := zo_164 (b1 := 0) (b2 := 219) (zkb3 zk_cX12_sayZero zn_cX12_sayZero (by decide +kernel)) rfl
theorem dX12_sayZero_85 : decode cX12_sayZero 85 = .ok (.aload_n 0, 1) := zo_42 (zkb zk_cX12_sayZero zn_cX12_sayZero (by decide +kernel))
theorem dX12_sayZero_86 : decode cX12_sayZero 86 = .ok (.invokevirtual 712, 3) := zo_182 (b1 := 2) (b2 := 200) (zkb3 zk_cX12_sayZero zn_cX12_sayZero (by decide +kernel)) rfl
theorem dX12_sayZero_89 : decode cX12_sayZero 89 = .ok (.goto 212, 3) := zo_167 (b1 := 0) (b2 := 212) (zkb3 zk_cX12_sayZero zn_cX12_sayZero (by decide +kernel)) rfl
theorem dX12_sayZero_92 : decode cX12_sayZero 92 = .ok (.iload_n 2, 1) := zo_28 (zkb zk_cX12_sayZero zn_cX12_sayZero (by decide +kernel))
theorem dX12_sayZero_93 : decode cX12_sayZero 93 = .ok (.iconst 1, 1) := zo_4 (zkb zk_cX12_sayZero zn_cX12_sayZero (by decide +kernel))
theorem dX12_sayZero_94 : decode cX12_sayZero 94 = .ok (.if_icmp .ne 72, 3) := zo_160 (b1 := 0) (b2 := 72) (zkb3 zk_cX12_sayZero zn_cX12_sayZero (by decide +kernel)) rfl
theorem dX12_sayZero_97 : decode cX12_sayZero 97 = .ok (.aload_n 0, 1) := zo_42 (zkb zk_cX12_sayZero zn_cX12_sayZero (by decide +kernel))
theorem dX12_sayZero_98 : decode cX12_sayZero 98 = .ok (.iload 4, 2) := zo_21 (b1 := 4) (zkb2 zk_cX12_sayZero zn_cX12_sayZero (by decide +kernel))
theorem dX12_sayZero_100 : decode cX12_sayZero 100 = .ok (.ifCond .eq 9, 3) := zo_153 (b1 := 0) (b2 := 9) (zkb3 zk_cX12_sayZero zn_cX12_sayZero (by decide +kernel)) rfl
theorem dX12_sayZero_103 : decode cX12_sayZero 103 = .ok (.ldc_w 627, 3) := zo_19 (b1 := 2) (b2 := 115) (zkb3 zk_cX12_sayZero zn_cX12_sayZero (by decide +kernel)) rfl
theorem dX12_sayZero_106 : decode cX12_sayZero 106 = .ok (.goto 6, 3) := zo_167 (b1 := 0) (b2 := 6) (zkb3 zk_cX12_sayZero zn_cX12_sayZero (by decide +kernel)) rfl
theorem dX12_sayZero_109 : decode cX12_sayZero 109 = .ok (.ldc_w 692, 3) := zo_19 (b1 := 2) (b2 := 180) (zkb3 zk_cX12_sayZero zn_cX12_sayZero (by decide +kernel)) rfl
theorem dX12_sayZero_112 : decode cX12_sayZero 112 = .ok (.invokevirtual 559, 3) := zo_182 (b1 := 2) (b2 := 47) (zkb3 zk_cX12_sayZero zn_cX12_sayZero (by decide +kernel)) rfl
theorem dX12_sayZero_115 : decode cX12_sayZero 115 = .ok (.iload 4, 2) := zo_21 (b1 := 4) (zkb2 zk_cX12_sayZero zn_cX12_sayZero (by decide +kernel))
theorem dX12_sayZero_117 : decode cX12_sayZero 117 = .ok (.ifCond .eq 10, 3) := zo_153 (b1 := 0) (b2 := 10) (zkb3 zk_cX12_sayZero zn_cX12_sayZero (by decide +kernel)) rfl
theorem dX12_sayZero_120 : decode cX12_sayZero 120 = .ok (.aload_n 0, 1) := zo_42 (zkb zk_cX12_sayZero zn_cX12_sayZero (by decide +kernel))
theorem dX12_sayZero_121 : decode cX12_sayZero 121 = .ok (.invokevirtual 587, 3) := zo_182 (b1 := 2) (b2 := 75) (zkb3 zk_cX12_sayZero zn_cX12_sayZero (by decide +kernel)) rfl
theorem dX12_sayZero_124 : decode cX12_sayZero 124 = .ok (.goto 9, 3) := zo_167 (b1 := 0) (b2 := 9) (zkb3 zk_cX12_sayZero zn_cX12_sayZero (by decide +kernel)) rfl
theorem dX12_sayZero_127 : decode cX12_sayZero 127 = .ok (.aload_n 0, 1) := zo_42 (zkb zk_cX12_sayZero zn_cX12_sayZero (by decide +kernel))
theorem dX12_sayZero_128 : decode cX12_sayZero 128 = .ok (.iload_n 3, 1) := zo_29 (zkb zk_cX12_sayZero zn_cX12_sayZero (by decide +kernel))
theorem dX12_sayZero_129 : decode cX12_sayZero 129 = .ok (.iconst 0, 1) := zo_3 (zkb zk_cX12_sayZero zn_cX12_sayZero (by decide +kernel))
theorem dX12_sayZero_130 : decode cX12_sayZero 130 = .ok (.invokevirtual 715, 3) := zo_182 (b1 := 2) (b2 := 203) (zkb3 zk_cX12_sayZero zn_cX12_sayZero (by decide +kernel)) rfl
theorem dX12_sayZero_133 : decode cX12_sayZero 133 = .ok (.aload_n 0, 1) := zo_42 (zkb zk_cX12_sayZero zn_cX12_sayZero (by decide +kernel))
theorem dX12_sayZero_134 : decode cX12_sayZero 134 = .ok (.ldc_w 657, 3) := zo_19 (b1 := 2) (b2 := 145) (zkb3 zk_cX12_sayZero zn_cX12_sayZero (by decide +kernel)) rfl
theorem dX12_sayZero_137 : decode cX12_sayZero 137 = .ok (.invokevirtual 559, 3) := zo_182 (b1 := 2) (b2 := 47) (zkb3 zk_cX12_sayZero zn_cX12_sayZero (by decide +kernel)) rfl
theorem dX12_sayZero_140 : decode cX12_sayZero 140 = .ok (.iload 4, 2) := zo_21 (b1 := 4) (zkb2 zk_cX12_sayZero zn_cX12_sayZero (by decide +kernel))
theorem dX12_sayZero_142 : decode cX12_sayZero 142 = .ok (.ifCond .eq 12, 3) := zo_153 (b1 := 0) (b2 := 12) (zkb3 zk_cX12_sayZero zn_cX12_sayZero (by decide +kernel)) rfl
theorem dX12_sayZero_145 : decode cX12_sayZero 145 = .ok (.aload_n 0, 1) := zo_42 (zkb zk_cX12_sayZero zn_cX12_sayZero (by decide +kernel))
theorem dX12_sayZero_146 : decode cX12_sayZero 146 = .ok (.iload_n 3, 1) := zo_29 (zkb zk_cX12_sayZero zn_cX12_sayZero (by decide +kernel))
theorem dX12_sayZero_147 : decode cX12_sayZero 147 = .ok (.iconst 0, 1) := zo_3 (zkb zk_cX12_sayZero zn_cX12_sayZero (by decide +kernel))
theorem dX12_sayZero_148 : decode cX12_sayZero 148 = .ok (.invokevirtual 715, 3) := zo_182 (b1 := 2) (b2 := 203) (zkb3 zk_cX12_sayZero zn_cX12_sayZero (by decide +kernel)) rfl
theorem dX12_sayZero_151 : decode cX12_sayZero 151 = .ok (.goto 150, 3) := zo_167 (b1 := 0) (b2 := 150) (zkb3 zk_cX12_sayZero zn_cX12_sayZero (by decide +kernel)) rfl
theorem dX12_sayZero_154 : decode cX12_sayZero 154 = .ok (.aload_n 0, 1) := zo_42 (zkb zk_cX12_sayZero zn_cX12_sayZero (by decide +kernel))
theorem dX12_sayZero_155 : decode cX12_sayZero 155 = .ok (.aload_n 0, 1) := zo_42 (zkb zk_cX12_sayZero zn_cX12_sayZero (by decide +kernel))
theorem dX12_sayZero_156 : decode cX12_sayZero 156 = .ok (.invokevirtual 718, 3) := zo_182 (b1 := 2) (b2 := 206) (zkb3 zk_cX12_sayZero zn_cX12_sayZero (by decide +kernel)) rfl
theorem dX12_sayZero_159 : decode cX12_sayZero 159 = .ok (.iconst 4, 1) := zo_7 (zkb zk_cX12_sayZero zn_cX12_sayZero (by decide +kernel))
theorem dX12_sayZero_160 : decode cX12_sayZero 160 = .ok (.invokevirtual 579, 3) := zo_182 (b1 := 2) (b2 := 67) (zkb3 zk_cX12_sayZero zn_cX12_sayZero (by decide +kernel)) rfl
theorem dX12_sayZero_163 : decode cX12_sayZero 163 = .ok (.goto 138, 3) := zo_167 (b1 := 0) (b2 := 138) (zkb3 zk_cX12_sayZero zn_cX12_sayZero (by decide +kernel)) rfl
theorem dX12_sayZero_166 : decode cX12_sayZero 166 = .ok (.iload_n 2, 1) := zo_28 (zkb zk_cX12_sayZero zn_cX12_sayZero (by decide +kernel))
theorem dX12_sayZero_167 : decode cX12_sayZero 167 = .ok (.iconst 3, 1) := zo_6 (zkb zk_cX12_sayZero zn_cX12_sayZero (by decide +kernel))
theorem dX12_sayZero_168 : decode cX12_sayZero 168 = .ok (.if_icmp .ne 30, 3) := zo_160 (b1 := 0) (b2 := 30) (zkb3 zk_cX12_sayZero zn_cX12_sayZero (by decide +kernel)) rfl
theorem dX12_sayZero_171 : decode cX12_sayZero 171 = .ok (.aload_n 0, 1) := zo_42 (zkb zk_cX12_sayZero zn_cX12_sayZero (by decide +kernel))
theorem dX12_sayZero_172 : decode cX12_sayZero 172 = .ok (.iload 4, 2) := zo_21 (b1 := 4) (zkb2 zk_cX12_sayZero zn_cX12_sayZero (by decide +kernel))
theorem dX12_sayZero_174 : decode cX12_sayZero 174 = .ok (.ifCond .eq 9, 3) := zo_153 (b1 := 0) (b2 := 9) (zkb3 zk_cX12_sayZero zn_cX12_sayZero (by decide +kernel)) rfl
theorem dX12_sayZero_177 : decode cX12_sayZero 177 = .ok (.ldc_w 721, 3) := zo_19 (b1 := 2) (b2 := 209) (zkb3 zk_cX12_sayZero zn_cX12_sayZero (by decide +kernel)) rfl
theorem dX12_sayZero_180 : decode cX12_sayZero 180 = .ok (.goto 6, 3) := zo_167 (b1 := 0) (b2 := 6) (zkb3 zk_cX12_sayZero zn_cX12_sayZero (by decide +kernel)) rfl
theorem dX12_sayZero_183 : decode cX12_sayZero 183 = .ok (.ldc_w 723, 3) := zo_19 (b1 := 2) (b2 := 211) (zkb3 zk_cX12_sayZero zn_cX12_sayZero (by decide +kernel)) rfl
theorem dX12_sayZero_186 : decode cX12_sayZero 186 = .ok (.invokevirtual 559, 3) := zo_182 (b1 := 2) (b2 := 47) (zkb3 zk_cX12_sayZero zn_cX12_sayZero (by decide +kernel)) rfl
theorem dX12_sayZero_189 : decode cX12_sayZero 189 = .ok (.aload_n 0, 1) := zo_42 (zkb zk_cX12_sayZero zn_cX12_sayZero (by decide +kernel))
theorem dX12_sayZero_190 : decode cX12_sayZero 190 = .ok (.iload_n 3, 1) := zo_29 (zkb zk_cX12_sayZero zn_cX12_sayZero (by decide +kernel))
theorem dX12_sayZero_191 : decode cX12_sayZero 191 = .ok (.iconst 0, 1) := zo_3 (zkb zk_cX12_sayZero zn_cX12_sayZero (by decide +kernel))
theorem dX12_sayZero_192 : decode cX12_sayZero 192 = .ok (.invokevirtual 715, 3) := zo_182 (b1 := 2) (b2 := 203) (zkb3 zk_cX12_sayZero zn_cX12_sayZero (by decide +kernel)) rfl
theorem dX12_sayZero_195 : decode cX12_sayZero 195 = .ok (.goto 106, 3) := zo_167 (b1 := 0) (b2 := 106) (zkb3 zk_cX12_sayZero zn_cX12_sayZero (by decide +kernel)) rfl
theorem dX12_sayZero_198 : decode cX12_sayZero 198 = .ok (.aload_n 0, 1) := zo_42 (zkb zk_cX12_sayZero zn_cX12_sayZero (by decide +kernel))
theorem dX12_sayZero_199 : decode cX12_sayZero 199 = .ok (.ldc_w 692, 3) := zo_19 (b1 := 2) (b2 := 180) (zkb3 zk_cX12_sayZero zn_cX12_sayZero (by decide +kernel)) rfl
theorem dX12_sayZero_202 : decode cX12_sayZero 202 = .ok (.invokevirtual 559, 3) := zo_182 (b1 := 2) (b2 := 47) (zkb3 zk_cX12_sayZero zn_cX12_sayZero (by decide +kernel)) rfl
theorem dX12_sayZero_205 : decode cX12_sayZero 205 = .ok (.iload 4, 2) := zo_21 (b1 := 4) (zkb2 zk_cX12_sayZero zn_cX12_sayZero (by decide +kernel))
theorem dX12_sayZero_207 : decode cX12_sayZero 207 = .ok (.ifCond .eq 29, 3) := zo_153 (b1 := 0) (b2 := 29) (zkb3 zk_cX12_sayZero zn_cX12_sayZero (by decide +kernel)) rfl
theorem dX12_sayZero_210 : decode cX12_sayZero 210 = .ok (.iload_n 3, 1) := zo_29 (zkb zk_cX12_sayZero zn_cX12_sayZero (by decide +kernel))
theorem dX12_sayZero_211 : decode cX12_sayZero 211 = .ok (.iconst 2, 1) := zo_5 (zkb zk_cX12_sayZero zn_cX12_sayZero (by decide +kernel))
theorem dX12_sayZero_212 : decode cX12_sayZero 212 = .ok (.if_icmp .ne 10, 3) := zo_160 (b1 := 0) (b2 := 10) (zkb3 zk_cX12_sayZero zn_cX12_sayZero (by decide +kernel)) rfl
theorem dX12_sayZero_215 : decode cX12_sayZero 215 = .ok (.aload_n 0, 1) := zo_42 (zkb zk_cX12_sayZero zn_cX12_sayZero (by decide +kernel))
theorem dX12_sayZero_216 : decode cX12_sayZero 216 = .ok (.invokevirtual 587, 3) := zo_182 (b1 := 2) (b2 := 75) (zkb3 zk_cX12_sayZero zn_cX12_sayZero (by decide +kernel)) rfl
theorem dX12_sayZero_219 : decode cX12_sayZero 219 = .ok (.goto 10, 3) := zo_167 (b1 := 0) (b2 := 10) (zkb3 zk_cX12_sayZero zn_cX12_sayZero (by decide +kernel)) rfl
theorem dX12_sayZero_222 : decode cX12_sayZero 222 = .ok (.aload_n 0, 1) := zo_42 (zkb zk_cX12_sayZero zn_cX12_sayZero (by decide +kernel))
theorem dX12_sayZero_223 : decode cX12_sayZero 223 = .ok (.ldc_w 602, 3) := zo_19 (b1 := 2) (b2 := 90) (zkb3 zk_cX12_sayZero zn_cX12_sayZero (by decide +kernel)) rfl
theorem dX12_sayZero_226 : decode cX12_sayZero 226 = .ok (.invokevirtual 559, 3) := zo_182 (b1 := 2) (b2 := 47) (zkb3 zk_cX12_sayZero zn_cX12_sayZero (by decide +kernel)) rfl
theorem dX12_sayZero_229 : decode cX12_sayZero 229 = .ok (.aload_n 0, 1) := zo_42 (zkb zk_cX12_sayZero zn_cX12_sayZero (by decide +kernel))
theorem dX12_sayZero_230 : decode cX12_sayZero 230 = .ok (.ldc_w 657, 3) := zo_19 (b1 := 2) (b2 := 145) (zkb3 zk_cX12_sayZero zn_cX12_sayZero (by decide +kernel)) rfl
theorem dX12_sayZero_233 : decode cX12_sayZero 233 = .ok (.invokevirtual 559, 3) := zo_182 (b1 := 2) (b2 := 47) (zkb3 zk_cX12_sayZero zn_cX12_sayZero (by decide +kernel)) rfl
theorem dX12_sayZero_236 : decode cX12_sayZero 236 = .ok (.iload_n 3, 1) := zo_29 (zkb zk_cX12_sayZero zn_cX12_sayZero (by decide +kernel))
theorem dX12_sayZero_237 : decode cX12_sayZero 237 = .ok (.iconst 2, 1) := zo_5 (zkb zk_cX12_sayZero zn_cX12_sayZero (by decide +kernel))
theorem dX12_sayZero_238 : decode cX12_sayZero 238 = .ok (.if_icmp .ge 23, 3) := zo_162 (b1 := 0) (b2 := 23) (zkb3 zk_cX12_sayZero zn_cX12_sayZero (by decide +kernel)) rfl
theorem dX12_sayZero_241 : decode cX12_sayZero 241 = .ok (.aload_n 0, 1) := zo_42 (zkb zk_cX12_sayZero zn_cX12_sayZero (by decide +kernel))
theorem dX12_sayZero_242 : decode cX12_sayZero 242 = .ok (.iload_n 3, 1) := zo_29 (zkb zk_cX12_sayZero zn_cX12_sayZero (by decide +kernel))
theorem dX12_sayZero_243 : decode cX12_sayZero 243 = .ok (.ifCond .ne 9, 3) := zo_154 (b1 := 0) (b2 := 9) (zkb3 zk_cX12_sayZero zn_cX12_sayZero (by decide +kernel)) rfl
theorem dX12_sayZero_246 : decode cX12_sayZero 246 = .ok (.ldc_w 725, 3) := zo_19 (b1 := 2) (b2 := 213) (zkb3 zk_cX12_sayZero zn_cX12_sayZero (by decide +kernel)) rfl
theorem dX12_sayZero_249 : decode cX12_sayZero 249 = .ok (.goto 6, 3) := zo_167 (b1 := 0) (b2 := 6) (zkb3 zk_cX12_sayZero zn_cX12_sayZero (by decide +kernel)) rfl
theorem dX12_sayZero_252 : decode cX12_sayZero 252 = .ok (.ldc_w 727, 3) := zo_19 (b1 := 2) (b2 := 215) (zkb3 zk_cX12_sayZero zn_cX12_sayZero (by decide +kernel)) rfl
theorem dX12_sayZero_255 : decode cX12_sayZero 255 = .ok (.invokevirtual 559, 3) := zo_182 (b1 := 2) (b2 := 47) (zkb3 zk_cX12_sayZero zn_cX12_sayZero (by decide +kernel)) rfl
theorem dX12_sayZero_258 : decode cX12_sayZero 258 = .ok (.goto 11, 3) := zo_167 (b1 := 0) (b2 := 11) (zkb3 zk_cX12_sayZero zn_cX12_sayZero (by decide +kernel)) rfl
theorem dX12_sayZero_261 : decode cX12_sayZero 261 = .ok (.aload_n 0, 1) := zo_42 (zkb zk_cX12_sayZero zn_cX12_sayZero (by decide +kernel))
theorem dX12_sayZero_262 : decode cX12_sayZero 262 = .ok (.aload_n 0, 1) := zo_42 (zkb zk_cX12_sayZero zn_cX12_sayZero (by decide +kernel))
theorem dX12_sayZero_263 : decode cX12_sayZero 263 = .ok (.invokevirtual 718, 3) := zo_182 (b1 := 2) (b2 := 206) (zkb3 zk_cX12_sayZero zn_cX12_sayZero (by decide +kernel)) rfl
theorem dX12_sayZero_266 : decode cX12_sayZero 266 = .ok (.invokevirtual 729, 3) := zo_182 (b1 := 2) (b2 := 217) (zkb3 zk_cX12_sayZero zn_cX12_sayZero (by decide +kernel)) rfl
theorem dX12_sayZero_269 : decode cX12_sayZero 269 = .ok (.iload 4, 2) := zo_21 (b1 := 4) (zkb2 zk_cX12_sayZero zn_cX12_sayZero (by decide +kernel))
theorem dX12_sayZero_271 : decode cX12_sayZero 271 = .ok (.ifCond .eq 4, 3) := zo_153 (b1 := 0) (b2 := 4) (zkb3 zk_cX12_sayZero zn_cX12_sayZero (by decide +kernel)) rfl
theorem dX12_sayZero_274 : decode cX12_sayZero 274 = .ok (.return_, 1) := zo_177 (zkb zk_cX12_sayZero zn_cX12_sayZero (by decide +kernel))
theorem dX12_sayZero_275 : decode cX12_sayZero 275 = .ok (.aload_n 0, 1) := zo_42 (zkb zk_cX12_sayZero zn_cX12_sayZero (by decide +kernel))
theorem dX12_sayZero_276 : decode cX12_sayZero 276 = .ok (.ldc_w 657, 3) := zo_19 (b1 := 2) (b2 := 145) (zkb3 zk_cX12_sayZero zn_cX12_sayZero (by decide +kernel)) rfl
theorem dX12_sayZero_279 : decode cX12_sayZero 279 = .ok (.invokevirtual 559, 3) := zo_182 (b1 := 2) (b2 := 47) (zkb3 zk_cX12_sayZero zn_cX12_sayZero (by decide +kernel)) rfl
theorem dX12_sayZero_282 : decode cX12_sayZero 282 = .ok (.iload_n 3, 1) := zo_29 (zkb zk_cX12_sayZero zn_cX12_sayZero (by decide +kernel))
theorem dX12_sayZero_283 : decode cX12_sayZero 283 = .ok (.iconst 2, 1) := zo_5 (zkb zk_cX12_sayZero zn_cX12_sayZero (by decide +kernel))
theorem dX12_sayZero_284 : decode cX12_sayZero 284 = .ok (.if_icmp .ne 10, 3) := zo_160 (b1 := 0) (b2 := 10) (zkb3 zk_cX12_sayZero zn_cX12_sayZero (by decide +kernel)) rfl
theorem dX12_sayZero_287 : decode cX12_sayZero 287 = .ok (.aload_n 0, 1) := zo_42 (zkb zk_cX12_sayZero zn_cX12_sayZero (by decide +kernel))
theorem dX12_sayZero_288 : decode cX12_sayZero 288 = .ok (.invokevirtual 587, 3) := zo_182 (b1 := 2) (b2 := 75) (zkb3 zk_cX12_sayZero zn_cX12_sayZero (by decide +kernel)) rfl
theorem dX12_sayZero_291 : decode cX12_sayZero 291 = .ok (.goto 10, 3) := zo_167 (b1 := 0) (b2 := 10) (zkb3 zk_cX12_sayZero zn_cX12_sayZero (by decide +kernel)) rfl
theorem dX12_sayZero_294 : decode cX12_sayZero 294 = .ok (.aload_n 0, 1) := zo_42 (zkb zk_cX12_sayZero zn_cX12_sayZero (by decide +kernel))
theorem dX12_sayZero_295 : decode cX12_sayZero 295 = .ok (.ldc_w 602, 3) := zo_19 (b1 := 2) (b2 := 90) (zkb3 zk_cX12_sayZero zn_cX12_sayZero (by decide +kernel)) rfl
theorem dX12_sayZero_298 : decode cX12_sayZero 298 = .ok (.invokevirtual 559, 3) := zo_182 (b1 := 2) (b2 := 47) (zkb3 zk_cX12_sayZero zn_cX12_sayZero (by decide +kernel)) rfl
theorem dX12_sayZero_301 : decode cX12_sayZero 301 = .ok (.return_, 1) := zo_177 (zkb zk_cX12_sayZero zn_cX12_sayZero (by decide +kernel))
def kn_cX12_saySingle : Nat := 0xb14302b6052402b62a2a2f02b69102132ab10400a206101c9302b61b2a2f02b6b402130600a7d102130900a0081c1100a7d302130900a0071c2ab12f02b6ea02130600a7e802130900a006101b1200a7e602130900a0081b1d00a7e402130900a0071b2800a7e202130900a0061b3300a7e002130900a0051b3e00a7de02130900a0041b4900a7dc021309009a1b2a5800a007101c
theorem zk_cX12_saySingle : zkd cX12_saySingle.data.toList kn_cX12_saySingle = true := by decide +kernel
theorem zn_cX12_saySingle : cX12_saySingle.data.toList.length = 149 := by decide +kernel
theorem dX12_saySingle_0 : decode cX12_saySingle 0 = .ok (.iload_n 2, 1) := zo_28 (zkb zk_cX12_saySingle zn_cX12_saySingle (by decide +kernel))
theorem dX12_saySingle_1 : decode cX12_saySingle 1 = .ok (.bipush 7, 2) := zo_16 (b1 := 7) (zkb2 zk_cX12_saySingle zn_cX12_saySingle (by decide +kernel)) rfl
theorem dX12_saySingle_3 : decode cX12_saySingle 3 = .ok (.if_icmp .ne 88, 3) := zo_160 (b1 := 0) (b2 := 88) (zkb3 zk_cX12_saySingle zn_cX12_saySingle (by decide +kernel)) rfl
theorem dX12_saySingle_6 : decode cX12_saySingle 6 = .ok (.aload_n 0, 1) := zo_42 (zkb zk_cX12_saySingle zn_cX12_saySingle (by decide +kernel))
theorem dX12_saySingle_7 : decode cX12_saySingle 7 = .ok (.iload_n 1, 1) := zo_27 (zkb zk_cX12_saySingle zn_cX12_saySingle (by decide +kernel))
theorem dX12_saySingle_8 : decode cX12_saySingle 8 = .ok (.ifCond .ne 9, 3) := zo_154 (b1 := 0) (b2 := 9) (zkb3 zk_cX12_saySingle zn_cX12_saySingle (by decide +kernel)) rfl
theorem dX12_saySingle_11 : decode cX12_saySingle 11 = .ok (.ldc_w 732, 3) := zo_19 (b1 := 2) (b2 := 220) (zkb3 zk_cX12_saySingle zn_cX12_saySingle (by decide +kernel)) rfl
theorem dX12_saySingle_14 : decode cX12_saySingle 14 = .ok (.goto 73, 3) := zo_167 (b1 := 0) (b2 := 73) (zkb3 zk_cX12_saySingle zn_cX12_saySingle (by decide +kernel)) rfl
theorem dX12_saySingle_17 : decode cX12_saySingle 17 = .ok (.iload_n 1, 1) := zo_27 (zkb zk_cX12_saySingle zn_cX12_saySingle (by decide +kernel))
theorem dX12_saySingle_18 : decode cX12_saySingle 18 = .ok (.iconst 1, 1) := zo_4 (zkb zk_cX12_saySingle zn_cX12_saySingle (by decide +kernel))
theorem dX12_saySingle_19 : decode cX12_saySingle 19 = .ok (.if_icmp .ne 9, 3) := zo_160 (b1 := 0) (b2 := 9) (zkb3 zk_cX12_saySingle zn_cX12_saySingle (by decide +kernel)) rfl
theorem dX12_saySingle_22 : decode cX12_saySingle 22 = .ok (.ldc_w 734, 3) := zo_19 (b1 := 2) (b2 := 222) (zkb3 zk_cX12_saySingle zn_cX12_saySingle (by decide +kernel)) rfl
theorem dX12_saySingle_25 : decode cX12_saySingle 25 = .ok (.goto 62, 3) := zo_167 (b1 := 0) (b2 := 62) (zkb3 zk_cX12_saySingle zn_cX12_saySingle (by decide +kernel)) rfl
theorem dX12_saySingle_28 : decode cX12_saySingle 28 = .ok (.iload_n 1, 1) := zo_27 (zkb zk_cX12_saySingle zn_cX12_saySingle (by decide +kernel))
theorem dX12_saySingle_29 : decode cX12_saySingle 29 = .ok (.iconst 2, 1) := zo_5 (zkb zk_cX12_saySingle zn_cX12_saySingle (by decide +kernel))
theorem dX12_saySingle_30 : decode cX12_saySingle 30 = .ok (.if_icmp .ne 9, 3) := zo_160 (b1 := 0) (b2 := 9) (zkb3 zk_cX12_saySingle zn_cX12_saySingle (by decide +kernel)) rfl
theorem dX12_saySingle_33 : decode cX12_saySingle 33 = .ok (.ldc_w 736, 3) := zo_19 (b1 := 2) (b2 := 224) (zkb3 zk_cX12_saySingle zn_cX12_saySingle (by decide +kernel)) rfl
theorem dX12_saySingle_36 : decode cX12_saySingle 36 = .ok (.goto 51, 3) := zo_167 (b1 := 0) (b2 := 51) (zkb3 zk_cX12_saySingle zn_cX12_saySingle (by decide +kernel)) rfl
theorem dX12_saySingle_39 : decode cX12_saySingle 39 = .ok (.iload_n 1, 1) := zo_27 (zkb zk_cX12_saySingle zn_cX12_saySingle (by decide +kernel))
theorem dX12_saySingle_40 : decode cX12_saySingle 40 = .ok (.iconst 3, 1) := zo_6 (zkb zk_cX12_saySingle zn_cX12_saySingle (by decide +kernel))
theorem dX12_saySingle_41 : decode cX12_saySingle 41 = .ok (.if_icmp .ne 9, 3) := zo_160 (b1 := 0) (b2 := 9) (zkb3 zk_cX12_saySingle zn_cX12_saySingle (by decide +kernel)) rfl
theorem dX12_saySingle_44 : decode cX12_saySingle 44 = .ok (.ldc_w 738, 3) := zo_19 (b1 := 2) (b2 := 226) (zkb3 zk_cX12_saySingle zn_cX12_saySingle (by decide +kernel)) rfl
theorem dX12_saySingle_47 : decode cX12_saySingle 47 = .ok (.goto 40, 3) := zo_167 (b1 := 0) (b2 := 40) (zkb3 zk_cX12_saySingle zn_cX12_saySingle (by decide +kernel)) rfl
theorem dX12_saySingle_50 : decode cX12_saySingle 50 = .ok (.iload_n 1, 1) := zo_27 (zkb zk_cX12_saySingle zn_cX12_saySingle (by decide +kernel))
theorem dX12_saySingle_51 : decode cX12_saySingle 51 = .ok (.iconst 4, 1) := zo_7 (zkb zk_cX12_saySingle zn_cX12_saySingle (by decide +kernel))
theorem dX12_saySingle_52 : decode cX12_saySingle 52 = .ok (.if_icmp .ne 9, 3) := zo_160 (b1 := 0) (b2 := 9) (zkb3 zk_cX12_saySingle zn_cX12_saySingle (by decide +kernel)) rfl
theorem dX12_saySingle_55 : decode cX12_saySingle 55 = .ok (.ldc_w 740, 3) := zo_19 (b1 := 2) (b2 := 228) (zkb3 zk_cX12_saySingle zn_cX12_saySingle (by decide +kernel)) rfl
theorem dX12_saySingle_58 : decode cX12_saySingle 58 = .ok (.goto 29, 3) := zo_167 (b1 := 0) (b2 := 29) (zkb3 zk_cX12_saySingle zn_cX12_saySingle (by decide +kernel)) rfl
theorem dX12_saySingle_61 : decode cX12_saySingle 61 = .ok (.iload_n 1, 1) := zo_27 (zkb zk_cX12_saySingle zn_cX12_saySingle (by decide +kernel))
theorem dX12_saySingle_62 : decode cX12_saySingle 62 = .ok (.iconst 5, 1) := zo_8 (zkb zk_cX12_saySingle zn_cX12_saySingle (by decide +kernel))
theorem dX12_saySingle_63 : decode cX12_saySingle 63 = .ok (.if_icmp .ne 9, 3) := zo_160 (b1 := 0) (b2 := 9) (zkb3 zk_cX12_saySingle zn_cX12_saySingle (by decide +kernel)) rfl
theorem dX12_saySingle_66 : decode cX12_saySingle 66 = .ok (.ldc_w 742, 3) := zo_19 (b1 := 2) (b2 := 230) (zkb3 zk_cX12_saySingle zn_cX12_saySingle (by decide +kernel)) rfl
theorem dX12_saySingle_69 : decode cX12_saySingle 69 = .ok (.goto 18, 3) := zo_167 (b1 := 0) (b2 := 18) (zkb3 zk_cX12_saySingle zn_cX12_saySingle (by decide +kernel)) rfl
theorem dX12_saySingle_72 : decode cX12_saySingle 72 = .ok (.iload_n 1, 1) := zo_27 (zkb zk_cX12_saySingle zn_cX12_saySingle (by decide +kernel))
theorem dX12_saySingle_73 : decode cX12_saySingle 73 = .ok (.bipush 6, 2) := zo_16 (b1 := 6) (zkb2 zk_cX12_saySingle zn_cX12_saySingle (by decide +kernel)) rfl
theorem dX12_saySingle_75 : decode cX12_saySingle 75 = .ok (.if_icmp .ne 9, 3) := zo_160 (b1 := 0) (b2 := 9) (zkb3 zk_cX12_saySingle zn_cX12_saySingle (by decide +kernel)) rfl
theorem dX12_saySingle_78 : decode cX12_saySingle 78 = .ok (.ldc_w 744, 3) := zo_19 (b1 := 2) (b2 := 232) (zkb3 zk_cX12_saySingle zn_cX12_saySingle (by decide +kernel)) rfl
theorem dX12_saySingle_81 : decode cX12_saySingle 81 = .ok (.goto 6, 3) := zo_167 (b1 := 0) (b2 := 6) (zkb3 zk_cX12_saySingle zn_cX12_saySingle (by decide +kernel)) rfl
theorem dX12_saySingle_84 : decode cX12_saySingle 84 = .ok (.ldc_w 746, 3) := zo_19 (b1 := 2) (b2 := 234) (zkb3 zk_cX12_saySingle zn_cX12_saySingle (by decide +kernel)) rfl
theorem dX12_saySingle_87 : decode cX12_saySingle 87 = .ok (.invokevirtual 559, 3) := zo_182 (b1 := 2) (b2 := 47) (zkb3 zk_cX12_saySingle zn_cX12_saySingle (by decide +kernel)) rfl
theorem dX12_saySingle_90 : decode cX12_saySingle 90 = .ok (.return_, 1) := zo_177 (zkb zk_cX12_saySingle zn_cX12_saySingle (by decide +kernel))
theorem dX12_saySingle_91 : decode cX12_saySingle 91 = .ok (.aload_n 0, 1) := zo_42 (zkb zk_cX12_saySingle zn_cX12_saySingle (by decide +kernel))
theorem dX12_saySingle_92 : decode cX12_saySingle 92 = .ok (.iload_n 2, 1) := zo_28 (zkb zk_cX12_saySingle zn_cX12_saySingle (by decide +kernel))
theorem dX12_saySingle_93 : decode cX12_saySingle 93 = .ok (.iconst 4, 1) := zo_7 (zkb zk_cX12_saySingle zn_cX12_saySingle (by decide +kernel))
theorem dX12_saySingle_94 : decode cX12_saySingle 94 = .ok (.if_icmp .ne 9, 3) := zo_160 (b1 := 0) (b2 := 9) (zkb3 zk_cX12_saySingle zn_cX12_saySingle (by decide +kernel)) rfl
theorem dX12_saySingle_97 : decode cX12_saySingle 97 = .ok (.ldc_w 723, 3) := zo_19 (b1 := 2) (b2 := 211) (zkb3 zk_cX12_saySingle zn_cX12_saySingle (by decide +kernel)) rfl
theorem dX12_saySingle_100 : decode cX12_saySingle 100 = .ok (.goto 17, 3) := zo_167 (b1 := 0) (b2 := 17) (zkb3 zk_cX12_saySingle zn_cX12_saySingle (by decide +kernel)) rfl
theorem dX12_saySingle_103 : decode cX12_saySingle 103 = .ok (.iload_n 2, 1) := zo_28 (zkb zk_cX12_saySingle zn_cX12_saySingle (by decide +kernel))
theorem dX12_saySingle_104 : decode cX12_saySingle 104 = .ok (.iconst 5, 1) := zo_8 (zkb zk_cX12_saySingle zn_cX12_saySingle (by decide +kernel))
theorem dX12_saySingle_105 : decode cX12_saySingle 105 = .ok (.if_icmp .ne 9, 3) := zo_160 (b1 := 0) (b2 := 9) (zkb3 zk_cX12_saySingle zn_cX12_saySingle (by decide +kernel)) rfl
theorem dX12_saySingle_108 : decode cX12_saySingle 108 = .ok (.ldc_w 721, 3) := zo_19 (b1 := 2) (b2 := 209) (zkb3 zk_cX12_saySingle zn_cX12_saySingle (by decide +kernel)) rfl
theorem dX12_saySingle_111 : decode cX12_saySingle 111 = .ok (.goto 6, 3) := zo_167 (b1 := 0) (b2 := 6) (zkb3 zk_cX12_saySingle zn_cX12_saySingle (by decide +kernel)) rfl
theorem dX12_saySingle_114 : decode cX12_saySingle 114 = .ok (.ldc_w 692, 3) := zo_19 (b1 := 2) (b2 := 180) (zkb3 zk_cX12_saySingle zn_cX12_saySingle (by decide +kernel)) rfl
theorem dX12_saySingle_117 : decode cX12_saySingle 117 = .ok (.invokevirtual 559, 3) := zo_182 (b1 := 2) (b2 := 47) (zkb3 zk_cX12_saySingle zn_cX12_saySingle (by decide +kernel)) rfl
theorem dX12_saySingle_120 : decode cX12_saySingle 120 = .ok (.aload_n 0, 1) := zo_42 (zkb zk_cX12_saySingle zn_cX12_saySingle (by decide +kernel))
theorem dX12_saySingle_121 : decode cX12_saySingle 121 = .ok (.iload_n 1, 1) := zo_27 (zkb zk_cX12_saySingle zn_cX12_saySingle (by decide +kernel))
theorem dX12_saySingle_122 : decode cX12_saySingle 122 = .ok (.invokevirtual 659, 3) := zo_182 (b1 := 2) (b2 := 147) (zkb3 zk_cX12_saySingle zn_cX12_saySingle (by decide +kernel)) rfl
theorem dX12_saySingle_125 : decode cX12_saySingle 125 = .ok (.iload_n 2, 1) := zo_28 (zkb zk_cX12_saySingle zn_cX12_saySingle (by decide +kernel))
theorem dX12_saySingle_126 : decode cX12_saySingle 126 = .ok (.bipush 6, 2) := zo_16 (b1 := 6) (zkb2 zk_cX12_saySingle zn_cX12_saySingle (by decide +kernel)) rfl
theorem dX12_saySingle_128 : decode cX12_saySingle 128 = .ok (.if_icmp .ge 4, 3) := zo_162 (b1 := 0) (b2 := 4) (zkb3 zk_cX12_saySingle zn_cX12_saySingle (by decide +kernel)) rfl
theorem dX12_saySingle_131 : decode cX12_saySingle 131 = .ok (.return_, 1) := zo_177 (zkb zk_cX12_saySingle zn_cX12_saySingle (by decide +kernel))
theorem dX12_saySingle_132 : decode cX12_saySingle 132 = .ok (.aload_n 0, 1) := zo_42 (zkb zk_cX12_saySingle zn_cX12_saySingle (by decide +kernel))
theorem dX12_saySingle_133 : decode cX12_saySingle 133 = .ok (.ldc_w 657, 3) := zo_19 (b1 := 2) (b2 := 145) (zkb3 zk_cX12_saySingle zn_cX12_saySingle (by decide +kernel)) rfl
theorem dX12_saySingle_136 : decode cX12_saySingle 136 = .ok (.invokevirtual 559, 3) := zo_182 (b1 := 2) (b2 := 47) (zkb3 zk_cX12_saySingle zn_cX12_saySingle (by decide +kernel)) rfl
theorem dX12_saySingle_139 : decode cX12_saySingle 139 = .ok (.aload_n 0, 1) := zo_42 (zkb zk_cX12_saySingle zn_cX12_saySingle (by decide +kernel))
theorem dX12_saySingle_140 : decode cX12_saySingle 140 = .ok (.aload_n 0, 1) := zo_42 (zkb zk_cX12_saySingle zn_cX12_saySingle (by decide +kernel))
theorem dX12_saySingle_141 : decode cX12_saySingle 141 = .ok (.invokevirtual 548, 3) := zo_182 (b1 := 2) (b2 := 36) (zkb3 zk_cX12_saySingle zn_cX12_saySingle (by decide +kernel)) rfl
theorem dX12_saySingle_144 : decode cX12_saySingle 144 = .ok (.iconst 2, 1) := zo_5 (zkb zk_cX12_saySingle zn_cX12_saySingle (by decide +kernel))
theorem dX12_saySingle_145 : decode cX12_saySingle 145 = .ok (.invokevirtual 579, 3) := zo_182 (b1 := 2) (b2 := 67) (zkb3 zk_cX12_saySingle zn_cX12_saySingle (by decide +kernel)) rfl
theorem dX12_saySingle_148 : decode cX12_saySingle 148 = .ok (.return_, 1) := zo_177 (zkb zk_cX12_saySingle zn_cX12_saySingle (by decide +kernel))
def kn_cX12_sayThree : Nat := 0xb14b02b62a0700a0071b2f02b60603130600a70403130900a006101b1200a70203130900a0081b1d00a70003130900a0071b2a3500a72f02b64602130600a7fe02130900a0051b2a4302b6052402b62a2a2f02b6fc02130600a7fa02130900a0051b2a3300a2071b6a00a74302b607ce02b62a2a2f02b69102132ac502b61b2a0f00a0051c2f02b6f802132a27009a1b07009f051c9700a72f02b64602132aa100a0051d4b02b62a0700a4041d2f02b6f602130600a7f402130900a0051d1100a7f202130900a0041d1c00a7f0021309009a1d2a4200a0041cdb00a7cb02b6041d2a2f02b6ee02132a13009a70051b1900a0041cf600a7c502b61b2a2f02b6ec02132a12009a1c3e7a041b
theorem zk_cX12_sayThree : zkd cX12_sayThree.data.toList kn_cX12_sayThree = true := by decide +kernel
theorem zn_cX12_sayThree : cX12_sayThree.data.toList.length = 267 := by decide +kernel
theorem dX12_sayThree_0 : decode cX12_sayThree 0 = .ok (.iload_n 1, 1) := zo_27 (zkb zk_cX12_sayThree zn_cX12_sayThree (by decide +kernel))
theorem dX12_sayThree_1 : decode cX12_sayThree 1 = .ok (.iconst 1, 1) := zo_4 (zkb zk_cX12_sayThree zn_cX12_sayThree (by decide +kernel))
theorem dX12_sayThree_2 : decode cX12_sayThree 2 = .ok (.ishr, 1) := zo_122 (zkb zk_cX12_sayThree zn_cX12_sayThree (by decide +kernel))
theorem dX12_sayThree_3 : decode cX12_sayThree 3 = .ok (.istore_n 3, 1) := zo_62 (zkb zk_cX12_sayThree zn_cX12_sayThree (by decide +kernel))
theorem dX12_sayThree_4 : decode cX12_sayThree 4 = .ok (.iload_n 2, 1) := zo_28 (zkb zk_cX12_sayThree zn_cX12_sayThree (by decide +kernel))
theorem dX12_sayThree_5 : decode cX12_sayThree 5 = .ok (.ifCond .ne 18, 3) := zo_154 (b1 := 0) (b2 := 18) (zkb3 zk_cX12_sayThree zn_cX12_sayThree (by decide +kernel)) rfl
theorem dX12_sayThree_8 : decode cX12_sayThree 8 = .ok (.aload_n 0, 1) := zo_42 (zkb zk_cX12_sayThree zn_cX12_sayThree (by decide +kernel))
theorem dX12_sayThree_9 : decode cX12_sayThree 9 = .ok (.ldc_w 748, 3) := zo_19 (b1 := 2) (b2 := 236) (zkb3 zk_cX12_sayThree zn_cX12_sayThree (by decide +kernel)) rfl
theorem dX12_sayThree_12 : decode cX12_sayThree 12 = .ok (.invokevirtual 559, 3) := zo_182 (b1 := 2) (b2 := 47) (zkb3 zk_cX12_sayThree zn_cX12_sayThree (by decide +kernel)) rfl
theorem dX12_sayThree_15 : decode cX12_sayThree 15 = .ok (.aload_n 0, 1) := zo_42 (zkb zk_cX12_sayThree zn_cX12_sayThree (by decide +kernel))
theorem dX12_sayThree_16 : decode cX12_sayThree 16 = .ok (.iload_n 1, 1) := zo_27 (zkb zk_cX12_sayThree zn_cX12_sayThree (by decide +kernel))
theorem dX12_sayThree_17 : decode cX12_sayThree 17 = .ok (.invokevirtual 709, 3) := zo_182 (b1 := 2) (b2 := 197) (zkb3 zk_cX12_sayThree zn_cX12_sayThree (by decide +kernel)) rfl
theorem dX12_sayThree_20 : decode cX12_sayThree 20 = .ok (.goto 246, 3) := zo_167 (b1 := 0) (b2 := 246) (zkb3 zk_cX12_sayThree zn_cX12_sayThree (by decide +kernel)) rfl
theorem dX12_sayThree_23 : decode cX12_sayThree 23 = .ok (.iload_n 2, 1) := zo_28 (zkb zk_cX12_sayThree zn_cX12_sayThree (by decide +kernel))
theorem dX12_sayThree_24 : decode cX12_sayThree 24 = .ok (.iconst 1, 1) := zo_4 (zkb zk_cX12_sayThree zn_cX12_sayThree (by decide +kernel))
theorem dX12_sayThree_25 : decode cX12_sayThree 25 = .ok (.if_icmp .ne 25, 3) := zo_160 (b1 := 0) (b2 := 25) (zkb3 zk_cX12_sayThree zn_cX12_sayThree (by decide +kernel)) rfl
theorem dX12_sayThree_28 : decode cX12_sayThree 28 = .ok (.iload_n 1, 1) := zo_27 (zkb zk_cX12_sayThree zn_cX12_sayThree (by decide +kernel))
theorem dX12_sayThree_29 : decode cX12_sayThree 29 = .ok (.iconst 2, 1) := zo_5 (zkb zk_cX12_sayThree zn_cX12_sayThree (by decide +kernel))
theorem dX12_sayThree_30 : decode cX12_sayThree 30 = .ok (.irem, 1) := zo_112 (zkb zk_cX12_sayThree zn_cX12_sayThree (by decide +kernel))
theorem dX12_sayThree_31 : decode cX12_sayThree 31 = .ok (.ifCond .ne 19, 3) := zo_154 (b1 := 0) (b2 := 19) (zkb3 zk_cX12_sayThree zn_cX12_sayThree (by decide +kernel)) rfl
theorem dX12_sayThree_34 : decode cX12_sayThree 34 = .ok (.aload_n 0, 1) := zo_42 (zkb zk_cX12_sayThree zn_cX12_sayThree (by decide +kernel))
theorem dX12_sayThree_35 : decode cX12_sayThree 35 = .ok (.ldc_w 750, 3) := zo_19 (b1 := 2) (b2 := 238) (zkb3 zk_cX12_sayThree zn_cX12_sayThree (by decide +kernel)) rfl
theorem dX12_sayThree_38 : decode cX12_sayThree 38 = .ok (.invokevirtual 559, 3) := zo_182 (b1 := 2) (b2 := 47) (zkb3 zk_cX12_sayThree zn_cX12_sayThree (by decide +kernel)) rfl
theorem dX12_sayThree_41 : decode cX12_sayThree 41 = .ok (.aload_n 0, 1) := zo_42 (zkb zk_cX12_sayThree zn_cX12_sayThree (by decide +kernel))
theorem dX12_sayThree_42 : decode cX12_sayThree 42 = .ok (.iload_n 3, 1) := zo_29 (zkb zk_cX12_sayThree zn_cX12_sayThree (by decide +kernel))
theorem dX12_sayThree_43 : decode cX12_sayThree 43 = .ok (.iconst 1, 1) := zo_4 (zkb zk_cX12_sayThree zn_cX12_sayThree (by decide +kernel))
theorem dX12_sayThree_44 : decode cX12_sayThree 44 = .ok (.invokevirtual 715, 3) := zo_182 (b1 := 2) (b2 := 203) (zkb3 zk_cX12_sayThree zn_cX12_sayThree (by decide +kernel)) rfl
theorem dX12_sayThree_47 : decode cX12_sayThree 47 = .ok (.goto 219, 3) := zo_167 (b1 := 0) (b2 := 219) (zkb3 zk_cX12_sayThree zn_cX12_sayThree (by decide +kernel)) rfl
theorem dX12_sayThree_50 : decode cX12_sayThree 50 = .ok (.iload_n 2, 1) := zo_28 (zkb zk_cX12_sayThree zn_cX12_sayThree (by decide +kernel))
theorem dX12_sayThree_51 : decode cX12_sayThree 51 = .ok (.iconst 1, 1) := zo_4 (zkb zk_cX12_sayThree zn_cX12_sayThree (by decide +kernel))
theorem dX12_sayThree_52 : decode cX12_sayThree 52 = .ok (.if_icmp .ne 66, 3) := zo_160 (b1 := 0) (b2 := 66) (zkb3 zk_cX12_sayThree zn_cX12_sayThree (by decide +kernel)) rfl
theorem dX12_sayThree_55 : decode cX12_sayThree 55 = .ok (.aload_n 0, 1) := zo_42 (zkb zk_cX12_sayThree zn_cX12_sayThree (by decide +kernel))
theorem dX12_sayThree_56 : decode cX12_sayThree 56 = .ok (.iload_n 3, 1) := zo_29 (zkb zk_cX12_sayThree zn_cX12_sayThree (by decide +kernel))
theorem dX12_sayThree_57 : decode cX12_sayThree 57 = .ok (.ifCond .ne 9, 3) := zo_154 (b1 := 0) (b2 := 9) (zkb3 zk_cX12_sayThree zn_cX12_sayThree (by decide +kernel)) rfl
theorem dX12_sayThree_60 : decode cX12_sayThree 60 = .ok (.ldc_w 752, 3) := zo_19 (b1 := 2) (b2 := 240) (zkb3 zk_cX12_sayThree zn_cX12_sayThree (by decide +kernel)) rfl
theorem dX12_sayThree_63 : decode cX12_sayThree 63 = .ok (.goto 28, 3) := zo_167 (b1 := 0) (b2 := 28) (zkb3 zk_cX12_sayThree zn_cX12_sayThree (by decide +kernel)) rfl
theorem dX12_sayThree_66 : decode cX12_sayThree 66 = .ok (.iload_n 3, 1) := zo_29 (zkb zk_cX12_sayThree zn_cX12_sayThree (by decide +kernel))
theorem dX12_sayThree_67 : decode cX12_sayThree 67 = .ok (.iconst 1, 1) := zo_4 (zkb zk_cX12_sayThree zn_cX12_sayThree (by decide +kernel))
theorem dX12_sayThree_68 : decode cX12_sayThree 68 = .ok (.if_icmp .ne 9, 3) := zo_160 (b1 := 0) (b2 := 9) (zkb3 zk_cX12_sayThree zn_cX12_sayThree (by decide +kernel)) rfl
theorem dX12_sayThree_71 : decode cX12_sayThree 71 = .ok (.ldc_w 754, 3) := zo_19 (b1 := 2) (b2 := 242) (zkb3 zk_cX12_sayThree zn_cX12_sayThree (by decide +kernel)) rfl
theorem dX12_sayThree_74 : decode cX12_sayThree 74 = .ok (.goto 17, 3) := zo_167 (b1 := 0) (b2 := 17) (zkb3 zk_cX12_sayThree zn_cX12_sayThree (by decide +kernel)) rfl
theorem dX12_sayThree_77 : decode cX12_sayThree 77 = .ok (.iload_n 3, 1) := zo_29 (zkb zk_cX12_sayThree zn_cX12_sayThree (by decide +kernel))
theorem dX12_sayThree_78 : decode cX12_sayThree 78 = .ok (.iconst 2, 1) := zo_5 (zkb zk_cX12_sayThree zn_cX12_sayThree (by decide +kernel))
theorem dX12_sayThree_79 : decode cX12_sayThree 79 = .ok (.if_icmp .ne 9, 3) := zo_160 (b1 := 0) (b2 := 9) (zkb3 zk_cX12_sayThree zn_cX12_sayThree (by decide +kernel)) rfl
theorem dX12_sayThree_82 : decode cX12_sayThree 82 = .ok (.ldc_w 756, 3) := zo_19 (b1 := 2) (b2 := 244) (zkb3 zk_cX12_sayThree zn_cX12_sayThree (by decide +kernel)) rfl
theorem dX12_sayThree_85 : decode cX12_sayThree 85 = .ok (.goto 6, 3) := zo_167 (b1 := 0) (b2 := 6) (zkb3 zk_cX12_sayThree zn_cX12_sayThree (by decide +kernel)) rfl
theorem dX12_sayThree_88 : decode cX12_sayThree 88 = .ok (.ldc_w 758, 3) := zo_19 (b1 := 2) (b2 := 246) (zkb3 zk_cX12_sayThree zn_cX12_sayThree (by decide +kernel)) rfl
theorem dX12_sayThree_91 : decode cX12_sayThree 91 = .ok (.invokevirtual 559, 3) := zo_182 (b1 := 2) (b2 := 47) (zkb3 zk_cX12_sayThree zn_cX12_sayThree (by decide +kernel)) rfl
theorem dX12_sayThree_94 : decode cX12_sayThree 94 = .ok (.iload_n 3, 1) := zo_29 (zkb zk_cX12_sayThree zn_cX12_sayThree (by decide +kernel))
theorem dX12_sayThree_95 : decode cX12_sayThree 95 = .ok (.iconst 1, 1) := zo_4 (zkb zk_cX12_sayThree zn_cX12_sayThree (by decide +kernel))
theorem dX12_sayThree_96 : decode cX12_sayThree 96 = .ok (.if_icmp .le 7, 3) := zo_164 (b1 := 0) (b2 := 7) (zkb3 zk_cX12_sayThree zn_cX12_sayThree (by decide +kernel)) rfl
theorem dX12_sayThree_99 : decode cX12_sayThree 99 = .ok (.aload_n 0, 1) := zo_42 (zkb zk_cX12_sayThree zn_cX12_sayThree (by decide +kernel))
theorem dX12_sayThree_100 : decode cX12_sayThree 100 = .ok (.invokevirtual 587, 3) := zo_182 (b1 := 2) (b2 := 75) (zkb3 zk_cX12_sayThree zn_cX12_sayThree (by decide +kernel)) rfl
theorem dX12_sayThree_103 : decode cX12_sayThree 103 = .ok (.iload_n 3, 1) := zo_29 (zkb zk_cX12_sayThree zn_cX12_sayThree (by decide +kernel))
theorem dX12_sayThree_104 : decode cX12_sayThree 104 = .ok (.iconst 2, 1) := zo_5 (zkb zk_cX12_sayThree zn_cX12_sayThree (by decide +kernel))
theorem dX12_sayThree_105 : decode cX12_sayThree 105 = .ok (.if_icmp .ne 161, 3) := zo_160 (b1 := 0) (b2 := 161) (zkb3 zk_cX12_sayThree zn_cX12_sayThree (by decide +kernel)) rfl
theorem dX12_sayThree_108 : decode cX12_sayThree 108 = .ok (.aload_n 0, 1) := zo_42 (zkb zk_cX12_sayThree zn_cX12_sayThree (by decide +kernel))
theorem dX12_sayThree_109 : decode cX12_sayThree 109 = .ok (.ldc_w 582, 3) := zo_19 (b1 := 2) (b2 := 70) (zkb3 zk_cX12_sayThree zn_cX12_sayThree (by decide +kernel)) rfl
theorem dX12_sayThree_112 : decode cX12_sayThree 112 = .ok (.invokevirtual 559, 3) := zo_182 (b1 := 2) (b2 := 47) (zkb3 zk_cX12_sayThree zn_cX12_sayThree (by decide +kernel)) rfl
theorem dX12_sayThree_115 : decode cX12_sayThree 115 = .ok (.goto 151, 3) := zo_167 (b1 := 0) (b2 := 151) (zkb3 zk_cX12_sayThree zn_cX12_sayThree (by decide +kernel)) rfl
theorem dX12_sayThree_118 : decode cX12_sayThree 118 = .ok (.iload_n 2, 1) := zo_28 (zkb zk_cX12_sayThree zn_cX12_sayThree (by decide +kernel))
theorem dX12_sayThree_119 : decode cX12_sayThree 119 = .ok (.iconst 2, 1) := zo_5 (zkb zk_cX12_sayThree zn_cX12_sayThree (by decide +kernel))
theorem dX12_sayThree_120 : decode cX12_sayThree 120 = .ok (.if_icmp .eq 7, 3) := zo_159 (b1 := 0) (b2 := 7) (zkb3 zk_cX12_sayThree zn_cX12_sayThree (by decide +kernel)) rfl
theorem dX12_sayThree_123 : decode cX12_sayThree 123 = .ok (.iload_n 1, 1) := zo_27 (zkb zk_cX12_sayThree zn_cX12_sayThree (by decide +kernel))
theorem dX12_sayThree_124 : decode cX12_sayThree 124 = .ok (.ifCond .ne 39, 3) := zo_154 (b1 := 0) (b2 := 39) (zkb3 zk_cX12_sayThree zn_cX12_sayThree (by decide +kernel)) rfl
theorem dX12_sayThree_127 : decode cX12_sayThree 127 = .ok (.aload_n 0, 1) := zo_42 (zkb zk_cX12_sayThree zn_cX12_sayThree (by decide +kernel))
theorem dX12_sayThree_128 : decode cX12_sayThree 128 = .ok (.ldc_w 760, 3) := zo_19 (b1 := 2) (b2 := 248) (zkb3 zk_cX12_sayThree zn_cX12_sayThree (by decide +kernel)) rfl
theorem dX12_sayThree_131 : decode cX12_sayThree 131 = .ok (.invokevirtual 559, 3) := zo_182 (b1 := 2) (b2 := 47) (zkb3 zk_cX12_sayThree zn_cX12_sayThree (by decide +kernel)) rfl
theorem dX12_sayThree_134 : decode cX12_sayThree 134 = .ok (.iload_n 2, 1) := zo_28 (zkb zk_cX12_sayThree zn_cX12_sayThree (by decide +kernel))
theorem dX12_sayThree_135 : decode cX12_sayThree 135 = .ok (.iconst 2, 1) := zo_5 (zkb zk_cX12_sayThree zn_cX12_sayThree (by decide +kernel))
theorem dX12_sayThree_136 : decode cX12_sayThree 136 = .ok (.if_icmp .ne 15, 3) := zo_160 (b1 := 0) (b2 := 15) (zkb3 zk_cX12_sayThree zn_cX12_sayThree (by decide +kernel)) rfl
theorem dX12_sayThree_139 : decode cX12_sayThree 139 = .ok (.aload_n 0, 1) := zo_42 (zkb zk_cX12_sayThree zn_cX12_sayThree (by decide +kernel))
theorem dX12_sayThree_140 : decode cX12_sayThree 140 = .ok (.iload_n 1, 1) := zo_27 (zkb zk_cX12_sayThree zn_cX12_sayThree (by decide +kernel))
theorem dX12_sayThree_141 : decode cX12_sayThree 141 = .ok (.invokevirtual 709, 3) := zo_182 (b1 := 2) (b2 := 197) (zkb3 zk_cX12_sayThree zn_cX12_sayThree (by decide +kernel)) rfl
theorem dX12_sayThree_144 : decode cX12_sayThree 144 = .ok (.aload_n 0, 1) := zo_42 (zkb zk_cX12_sayThree zn_cX12_sayThree (by decide +kernel))
theorem dX12_sayThree_145 : decode cX12_sayThree 145 = .ok (.ldc_w 657, 3) := zo_19 (b1 := 2) (b2 := 145) (zkb3 zk_cX12_sayThree zn_cX12_sayThree (by decide +kernel)) rfl
theorem dX12_sayThree_148 : decode cX12_sayThree 148 = .ok (.invokevirtual 559, 3) := zo_182 (b1 := 2) (b2 := 47) (zkb3 zk_cX12_sayThree zn_cX12_sayThree (by decide +kernel)) rfl
theorem dX12_sayThree_151 : decode cX12_sayThree 151 = .ok (.aload_n 0, 1) := zo_42 (zkb zk_cX12_sayThree zn_cX12_sayThree (by decide +kernel))
theorem dX12_sayThree_152 : decode cX12_sayThree 152 = .ok (.aload_n 0, 1) := zo_42 (zkb zk_cX12_sayThree zn_cX12_sayThree (by decide +kernel))
theorem dX12_sayThree_153 : decode cX12_sayThree 153 = .ok (.invokevirtual 718, 3) := zo_182 (b1 := 2) (b2 := 206) (zkb3 zk_cX12_sayThree zn_cX12_sayThree (by decide +kernel)) rfl
theorem dX12_sayThree_156 : decode cX12_sayThree 156 = .ok (.iconst 4, 1) := zo_7 (zkb zk_cX12_sayThree zn_cX12_sayThree (by decide +kernel))
theorem dX12_sayThree_157 : decode cX12_sayThree 157 = .ok (.invokevirtual 579, 3) := zo_182 (b1 := 2) (b2 := 67) (zkb3 zk_cX12_sayThree zn_cX12_sayThree (by decide +kernel)) rfl
theorem dX12_sayThree_160 : decode cX12_sayThree 160 = .ok (.goto 106, 3) := zo_167 (b1 := 0) (b2 := 106) (zkb3 zk_cX12_sayThree zn_cX12_sayThree (by decide +kernel)) rfl
theorem dX12_sayThree_163 : decode cX12_sayThree 163 = .ok (.iload_n 1, 1) := zo_27 (zkb zk_cX12_sayThree zn_cX12_sayThree (by decide +kernel))
theorem dX12_sayThree_164 : decode cX12_sayThree 164 = .ok (.iconst 4, 1) := zo_7 (zkb zk_cX12_sayThree zn_cX12_sayThree (by decide +kernel))
theorem dX12_sayThree_165 : decode cX12_sayThree 165 = .ok (.if_icmp .ge 51, 3) := zo_162 (b1 := 0) (b2 := 51) (zkb3 zk_cX12_sayThree zn_cX12_sayThree (by decide +kernel)) rfl
theorem dX12_sayThree_168 : decode cX12_sayThree 168 = .ok (.aload_n 0, 1) := zo_42 (zkb zk_cX12_sayThree zn_cX12_sayThree (by decide +kernel))
theorem dX12_sayThree_169 : decode cX12_sayThree 169 = .ok (.iload_n 1, 1) := zo_27 (zkb zk_cX12_sayThree zn_cX12_sayThree (by decide +kernel))
theorem dX12_sayThree_170 : decode cX12_sayThree 170 = .ok (.iconst 2, 1) := zo_5 (zkb zk_cX12_sayThree zn_cX12_sayThree (by decide +kernel))
theorem dX12_sayThree_171 : decode cX12_sayThree 171 = .ok (.if_icmp .ne 9, 3) := zo_160 (b1 := 0) (b2 := 9) (zkb3 zk_cX12_sayThree zn_cX12_sayThree (by decide +kernel)) rfl
theorem dX12_sayThree_174 : decode cX12_sayThree 174 = .ok (.ldc_w 762, 3) := zo_19 (b1 := 2) (b2 := 250) (zkb3 zk_cX12_sayThree zn_cX12_sayThree (by decide +kernel)) rfl
theorem dX12_sayThree_177 : decode cX12_sayThree 177 = .ok (.goto 6, 3) := zo_167 (b1 := 0) (b2 := 6) (zkb3 zk_cX12_sayThree zn_cX12_sayThree (by decide +kernel)) rfl
theorem dX12_sayThree_180 : decode cX12_sayThree 180 = .ok (.ldc_w 764, 3) := zo_19 (b1 := 2) (b2 := 252) (zkb3 zk_cX12_sayThree zn_cX12_sayThree (by decide +kernel)) rfl
theorem dX12_sayThree_183 : decode cX12_sayThree 183 = .ok (.invokevirtual 559, 3) := zo_182 (b1 := 2) (b2 := 47) (zkb3 zk_cX12_sayThree zn_cX12_sayThree (by decide +kernel)) rfl
theorem dX12_sayThree_186 : decode cX12_sayThree 186 = .ok (.aload_n 0, 1) := zo_42 (zkb zk_cX12_sayThree zn_cX12_sayThree (by decide +kernel))
theorem dX12_sayThree_187 : decode cX12_sayThree 187 = .ok (.aload_n 0, 1) := zo_42 (zkb zk_cX12_sayThree zn_cX12_sayThree (by decide +kernel))
theorem dX12_sayThree_188 : decode cX12_sayThree 188 = .ok (.invokevirtual 548, 3) := zo_182 (b1 := 2) (b2 := 36) (zkb3 zk_cX12_sayThree zn_cX12_sayThree (by decide +kernel)) rfl
theorem dX12_sayThree_191 : decode cX12_sayThree 191 = .ok (.iconst 2, 1) := zo_5 (zkb zk_cX12_sayThree zn_cX12_sayThree (by decide +kernel))
theorem dX12_sayThree_192 : decode cX12_sayThree 192 = .ok (.invokevirtual 579, 3) := zo_182 (b1 := 2) (b2 := 67) (zkb3 zk_cX12_sayThree zn_cX12_sayThree (by decide +kernel)) rfl
theorem dX12_sayThree_195 : decode cX12_sayThree 195 = .ok (.aload_n 0, 1) := zo_42 (zkb zk_cX12_sayThree zn_cX12_sayThree (by decide +kernel))
theorem dX12_sayThree_196 : decode cX12_sayThree 196 = .ok (.iload_n 1, 1) := zo_27 (zkb zk_cX12_sayThree zn_cX12_sayThree (by decide +kernel))
theorem dX12_sayThree_197 : decode cX12_sayThree 197 = .ok (.iconst 2, 1) := zo_5 (zkb zk_cX12_sayThree zn_cX12_sayThree (by decide +kernel))
theorem dX12_sayThree_198 : decode cX12_sayThree 198 = .ok (.if_icmp .ne 9, 3) := zo_160 (b1 := 0) (b2 := 9) (zkb3 zk_cX12_sayThree zn_cX12_sayThree (by decide +kernel)) rfl
theorem dX12_sayThree_201 : decode cX12_sayThree 201 = .ok (.ldc_w 766, 3) := zo_19 (b1 := 2) (b2 := 254) (zkb3 zk_cX12_sayThree zn_cX12_sayThree (by decide +kernel)) rfl
theorem dX12_sayThree_204 : decode cX12_sayThree 204 = .ok (.goto 6, 3) := zo_167 (b1 := 0) (b2 := 6) (zkb3 zk_cX12_sayThree zn_cX12_sayThree (by decide +kernel)) rfl
theorem dX12_sayThree_207 : decode cX12_sayThree 207 = .ok (.ldc_w 582, 3) := zo_19 (b1 := 2) (b2 := 70) (zkb3 zk_cX12_sayThree zn_cX12_sayThree (by decide +kernel)) rfl
theorem dX12_sayThree_210 : decode cX12_sayThree 210 = .ok (.invokevirtual 559, 3) := zo_182 (b1 := 2) (b2 := 47) (zkb3 zk_cX12_sayThree zn_cX12_sayThree (by decide +kernel)) rfl
theorem dX12_sayThree_213 : decode cX12_sayThree 213 = .ok (.goto 53, 3) := zo_167 (b1 := 0) (b2 := 53) (zkb3 zk_cX12_sayThree zn_cX12_sayThree (by decide +kernel)) rfl
theorem dX12_sayThree_216 : decode cX12_sayThree 216 = .ok (.aload_n 0, 1) := zo_42 (zkb zk_cX12_sayThree zn_cX12_sayThree (by decide +kernel))
theorem dX12_sayThree_217 : decode cX12_sayThree 217 = .ok (.iload_n 1, 1) := zo_27 (zkb zk_cX12_sayThree zn_cX12_sayThree (by decide +kernel))
theorem dX12_sayThree_218 : decode cX12_sayThree 218 = .ok (.iconst 4, 1) := zo_7 (zkb zk_cX12_sayThree zn_cX12_sayThree (by decide +kernel))
theorem dX12_sayThree_219 : decode cX12_sayThree 219 = .ok (.if_icmp .ne 9, 3) := zo_160 (b1 := 0) (b2 := 9) (zkb3 zk_cX12_sayThree zn_cX12_sayThree (by decide +kernel)) rfl
theorem dX12_sayThree_222 : decode cX12_sayThree 222 = .ok (.ldc_w 768, 3) := zo_19 (b1 := 3) (b2 := 0) (zkb3 zk_cX12_sayThree zn_cX12_sayThree (by decide +kernel)) rfl
theorem dX12_sayThree_225 : decode cX12_sayThree 225 = .ok (.goto 29, 3) := zo_167 (b1 := 0) (b2 := 29) (zkb3 zk_cX12_sayThree zn_cX12_sayThree (by decide +kernel)) rfl
theorem dX12_sayThree_228 : decode cX12_sayThree 228 = .ok (.iload_n 1, 1) := zo_27 (zkb zk_cX12_sayThree zn_cX12_sayThree (by decide +kernel))
theorem dX12_sayThree_229 : decode cX12_sayThree 229 = .ok (.iconst 5, 1) := zo_8 (zkb zk_cX12_sayThree zn_cX12_sayThree (by decide +kernel))
theorem dX12_sayThree_230 : decode cX12_sayThree 230 = .ok (.if_icmp .ne 9, 3) := zo_160 (b1 := 0) (b2 := 9) (zkb3 zk_cX12_sayThree zn_cX12_sayThree (by decide +kernel)) rfl
theorem dX12_sayThree_233 : decode cX12_sayThree 233 = .ok (.ldc_w 770, 3) := zo_19 (b1 := 3) (b2 := 2) (zkb3 zk_cX12_sayThree zn_cX12_sayThree (by decide +kernel)) rfl
theorem dX12_sayThree_236 : decode cX12_sayThree 236 = .ok (.goto 18, 3) := zo_167 (b1 := 0) (b2 := 18) (zkb3 zk_cX12_sayThree zn_cX12_sayThree (by decide +kernel)) rfl
theorem dX12_sayThree_239 : decode cX12_sayThree 239 = .ok (.iload_n 1, 1) := zo_27 (zkb zk_cX12_sayThree zn_cX12_sayThree (by decide +kernel))
theorem dX12_sayThree_240 : decode cX12_sayThree 240 = .ok (.bipush 6, 2) := zo_16 (b1 := 6) (zkb2 zk_cX12_sayThree zn_cX12_sayThree (by decide +kernel)) rfl
theorem dX12_sayThree_242 : decode cX12_sayThree 242 = .ok (.if_icmp .ne 9, 3) := zo_160 (b1 := 0) (b2 := 9) (zkb3 zk_cX12_sayThree zn_cX12_sayThree (by decide +kernel)) rfl
theorem dX12_sayThree_245 : decode cX12_sayThree 245 = .ok (.ldc_w 772, 3) := zo_19 (b1 := 3) (b2 := 4) (zkb3 zk_cX12_sayThree zn_cX12_sayThree (by decide +kernel)) rfl
theorem dX12_sayThree_248 : decode cX12_sayThree 248 = .ok (.goto 6, 3) := zo_167 (b1 := 0) (b2 := 6) (zkb3 zk_cX12_sayThree zn_cX12_sayThree (by decide +kernel)) rfl
theorem dX12_sayThree_251 : decode cX12_sayThree 251 = .ok (.ldc_w 774, 3) := zo_19 (b1 := 3) (b2 := 6) (zkb3 zk_cX12_sayThree zn_cX12_sayThree (by decide +kernel)) rfl
theorem dX12_sayThree_254 : decode cX12_sayThree 254 = .ok (.invokevirtual 559, 3) := zo_182 (b1 := 2) (b2 := 47) (zkb3 zk_cX12_sayThree zn_cX12_sayThree (by decide +kernel)) rfl
theorem dX12_sayThree_257 : decode cX12_sayThree 257 = .ok (.iload_n 1, 1) := zo_27 (zkb zk_cX12_sayThree zn_cX12_sayThree (by decide +kernel))
theorem dX12_sayThree_258 : decode cX12_sayThree 258 = .ok (.iconst 4, 1) := zo_7 (zkb zk_cX12_sayThree zn_cX12_sayThree (by decide +kernel))
theorem dX12_sayThree_259 : decode cX12_sayThree 259 = .ok (.if_icmp .ne 7, 3) := zo_160 (b1 := 0) (b2 := 7) (zkb3 zk_cX12_sayThree zn_cX12_sayThree (by decide +kernel)) rfl
theorem dX12_sayThree_262 : decode cX12_sayThree 262 = .ok (.aload_n 0, 1) := zo_42 (zkb zk_cX12_sayThree zn_cX12_sayThree (by decide +kernel))
theorem dX12_sayThree_263 : decode cX12_sayThree 263 = .ok (.invokevirtual 587, 3) := zo_182 (b1 := 2) (b2 := 75) (zkb3 zk_cX12_sayThree zn_cX12_sayThree (by decide +kernel)) rfl
theorem dX12_sayThree_266 : decode cX12_sayThree 266 = .ok (.return_, 1) := zo_177 (zkb zk_cX12_sayThree zn_cX12_sayThree (by decide +kernel))
def kn_cX12_sayLast : Nat := 0xb14302b605681b08102a2f02b60c03132a1300a74302b6052402b62a2ab602b61b2a1400a006101c2a00a7cb02b6041d2a2f02b60a03132a1300a0081c3f00a74302b607ce02b62a2a2f02b69102132ac502b61b2a0f00a0071c2f02b60803132a2700a0041b2c00a0081c0d009f071c3e7a041b
theorem zk_cX12_sayLast : zkd cX12_sayLast.data.toList kn_cX12_sayLast = true := by decide +kernel
theorem zn_cX12_sayLast : cX12_sayLast.data.toList.length = 116 := by decide +kernel
theorem dX12_sayLast_0 : decode cX12_sayLast 0 = .ok (.iload_n 1, 1) := zo_27 (zkb zk_cX12_sayLast zn_cX12_sayLast (by decide +kernel))
theorem dX12_sayLast_1 : decode cX12_sayLast 1 = .ok (.iconst 1, 1) := zo_4 (zkb zk_cX12_sayLast zn_cX12_sayLast (by decide +kernel))
theorem dX12_sayLast_2 : decode cX12_sayLast 2 = .ok (.ishr, 1) := zo_122 (zkb zk_cX12_sayLast zn_cX12_sayLast (by decide +kernel))
theorem dX12_sayLast_3 : decode cX12_sayLast 3 = .ok (.istore_n 3, 1) := zo_62 (zkb zk_cX12_sayLast zn_cX12_sayLast (by decide +kernel))
theorem dX12_sayLast_4 : decode cX12_sayLast 4 = .ok (.iload_n 2, 1) := zo_28 (zkb zk_cX12_sayLast zn_cX12_sayLast (by decide +kernel))
theorem dX12_sayLast_5 : decode cX12_sayLast 5 = .ok (.iconst 4, 1) := zo_7 (zkb zk_cX12_sayLast zn_cX12_sayLast (by decide +kernel))
theorem dX12_sayLast_6 : decode cX12_sayLast 6 = .ok (.if_icmp .eq 13, 3) := zo_159 (b1 := 0) (b2 := 13) (zkb3 zk_cX12_sayLast zn_cX12_sayLast (by decide +kernel)) rfl
theorem dX12_sayLast_9 : decode cX12_sayLast 9 = .ok (.iload_n 2, 1) := zo_28 (zkb zk_cX12_sayLast zn_cX12_sayLast (by decide +kernel))
theorem dX12_sayLast_10 : decode cX12_sayLast 10 = .ok (.iconst 5, 1) := zo_8 (zkb zk_cX12_sayLast zn_cX12_sayLast (by decide +kernel))
theorem dX12_sayLast_11 : decode cX12_sayLast 11 = .ok (.if_icmp .ne 44, 3) := zo_160 (b1 := 0) (b2 := 44) (zkb3 zk_cX12_sayLast zn_cX12_sayLast (by decide +kernel)) rfl
theorem dX12_sayLast_14 : decode cX12_sayLast 14 = .ok (.iload_n 1, 1) := zo_27 (zkb zk_cX12_sayLast zn_cX12_sayLast (by decide +kernel))
theorem dX12_sayLast_15 : decode cX12_sayLast 15 = .ok (.iconst 1, 1) := zo_4 (zkb zk_cX12_sayLast zn_cX12_sayLast (by decide +kernel))
theorem dX12_sayLast_16 : decode cX12_sayLast 16 = .ok (.if_icmp .ne 39, 3) := zo_160 (b1 := 0) (b2 := 39) (zkb3 zk_cX12_sayLast zn_cX12_sayLast (by decide +kernel)) rfl
theorem dX12_sayLast_19 : decode cX12_sayLast 19 = .ok (.aload_n 0, 1) := zo_42 (zkb zk_cX12_sayLast zn_cX12_sayLast (by decide +kernel))
theorem dX12_sayLast_20 : decode cX12_sayLast 20 = .ok (.ldc_w 776, 3) := zo_19 (b1 := 3) (b2 := 8) (zkb3 zk_cX12_sayLast zn_cX12_sayLast (by decide +kernel)) rfl
theorem dX12_sayLast_23 : decode cX12_sayLast 23 = .ok (.invokevirtual 559, 3) := zo_182 (b1 := 2) (b2 := 47) (zkb3 zk_cX12_sayLast zn_cX12_sayLast (by decide +kernel)) rfl
theorem dX12_sayLast_26 : decode cX12_sayLast 26 = .ok (.iload_n 2, 1) := zo_28 (zkb zk_cX12_sayLast zn_cX12_sayLast (by decide +kernel))
theorem dX12_sayLast_27 : decode cX12_sayLast 27 = .ok (.iconst 4, 1) := zo_7 (zkb zk_cX12_sayLast zn_cX12_sayLast (by decide +kernel))
theorem dX12_sayLast_28 : decode cX12_sayLast 28 = .ok (.if_icmp .ne 15, 3) := zo_160 (b1 := 0) (b2 := 15) (zkb3 zk_cX12_sayLast zn_cX12_sayLast (by decide +kernel)) rfl
theorem dX12_sayLast_31 : decode cX12_sayLast 31 = .ok (.aload_n 0, 1) := zo_42 (zkb zk_cX12_sayLast zn_cX12_sayLast (by decide +kernel))
theorem dX12_sayLast_32 : decode cX12_sayLast 32 = .ok (.iload_n 1, 1) := zo_27 (zkb zk_cX12_sayLast zn_cX12_sayLast (by decide +kernel))
theorem dX12_sayLast_33 : decode cX12_sayLast 33 = .ok (.invokevirtual 709, 3) := zo_182 (b1 := 2) (b2 := 197) (zkb3 zk_cX12_sayLast zn_cX12_sayLast (by decide +kernel)) rfl
theorem dX12_sayLast_36 : decode cX12_sayLast 36 = .ok (.aload_n 0, 1) := zo_42 (zkb zk_cX12_sayLast zn_cX12_sayLast (by decide +kernel))
theorem dX12_sayLast_37 : decode cX12_sayLast 37 = .ok (.ldc_w 657, 3) := zo_19 (b1 := 2) (b2 := 145) (zkb3 zk_cX12_sayLast zn_cX12_sayLast (by decide +kernel)) rfl
theorem dX12_sayLast_40 : decode cX12_sayLast 40 = .ok (.invokevirtual 559, 3) := zo_182 (b1 := 2) (b2 := 47) (zkb3 zk_cX12_sayLast zn_cX12_sayLast (by decide +kernel)) rfl
theorem dX12_sayLast_43 : decode cX12_sayLast 43 = .ok (.aload_n 0, 1) := zo_42 (zkb zk_cX12_sayLast zn_cX12_sayLast (by decide +kernel))
theorem dX12_sayLast_44 : decode cX12_sayLast 44 = .ok (.aload_n 0, 1) := zo_42 (zkb zk_cX12_sayLast zn_cX12_sayLast (by decide +kernel))
theorem dX12_sayLast_45 : decode cX12_sayLast 45 = .ok (.invokevirtual 718, 3) := zo_182 (b1 := 2) (b2 := 206) (zkb3 zk_cX12_sayLast zn_cX12_sayLast (by decide +kernel)) rfl
theorem dX12_sayLast_48 : decode cX12_sayLast 48 = .ok (.iconst 4, 1) := zo_7 (zkb zk_cX12_sayLast zn_cX12_sayLast (by decide +kernel))
theorem dX12_sayLast_49 : decode cX12_sayLast 49 = .ok (.invokevirtual 579, 3) := zo_182 (b1 := 2) (b2 := 67) (zkb3 zk_cX12_sayLast zn_cX12_sayLast (by decide +kernel)) rfl
theorem dX12_sayLast_52 : decode cX12_sayLast 52 = .ok (.goto 63, 3) := zo_167 (b1 := 0) (b2 := 63) (zkb3 zk_cX12_sayLast zn_cX12_sayLast (by decide +kernel)) rfl
theorem dX12_sayLast_55 : decode cX12_sayLast 55 = .ok (.iload_n 2, 1) := zo_28 (zkb zk_cX12_sayLast zn_cX12_sayLast (by decide +kernel))
theorem dX12_sayLast_56 : decode cX12_sayLast 56 = .ok (.iconst 5, 1) := zo_8 (zkb zk_cX12_sayLast zn_cX12_sayLast (by decide +kernel))
theorem dX12_sayLast_57 : decode cX12_sayLast 57 = .ok (.if_icmp .ne 19, 3) := zo_160 (b1 := 0) (b2 := 19) (zkb3 zk_cX12_sayLast zn_cX12_sayLast (by decide +kernel)) rfl
theorem dX12_sayLast_60 : decode cX12_sayLast 60 = .ok (.aload_n 0, 1) := zo_42 (zkb zk_cX12_sayLast zn_cX12_sayLast (by decide +kernel))
theorem dX12_sayLast_61 : decode cX12_sayLast 61 = .ok (.ldc_w 778, 3) := zo_19 (b1 := 3) (b2 := 10) (zkb3 zk_cX12_sayLast zn_cX12_sayLast (by decide +kernel)) rfl
theorem dX12_sayLast_64 : decode cX12_sayLast 64 = .ok (.invokevirtual 559, 3) := zo_182 (b1 := 2) (b2 := 47) (zkb3 zk_cX12_sayLast zn_cX12_sayLast (by decide +kernel)) rfl
theorem dX12_sayLast_67 : decode cX12_sayLast 67 = .ok (.aload_n 0, 1) := zo_42 (zkb zk_cX12_sayLast zn_cX12_sayLast (by decide +kernel))
theorem dX12_sayLast_68 : decode cX12_sayLast 68 = .ok (.iload_n 3, 1) := zo_29 (zkb zk_cX12_sayLast zn_cX12_sayLast (by decide +kernel))
theorem dX12_sayLast_69 : decode cX12_sayLast 69 = .ok (.iconst 1, 1) := zo_4 (zkb zk_cX12_sayLast zn_cX12_sayLast (by decide +kernel))
theorem dX12_sayLast_70 : decode cX12_sayLast 70 = .ok (.invokevirtual 715, 3) := zo_182 (b1 := 2) (b2 := 203) (zkb3 zk_cX12_sayLast zn_cX12_sayLast (by decide +kernel)) rfl
theorem dX12_sayLast_73 : decode cX12_sayLast 73 = .ok (.goto 42, 3) := zo_167 (b1 := 0) (b2 := 42) (zkb3 zk_cX12_sayLast zn_cX12_sayLast (by decide +kernel)) rfl
theorem dX12_sayLast_76 : decode cX12_sayLast 76 = .ok (.iload_n 2, 1) := zo_28 (zkb zk_cX12_sayLast zn_cX12_sayLast (by decide +kernel))
theorem dX12_sayLast_77 : decode cX12_sayLast 77 = .ok (.bipush 6, 2) := zo_16 (b1 := 6) (zkb2 zk_cX12_sayLast zn_cX12_sayLast (by decide +kernel)) rfl
theorem dX12_sayLast_79 : decode cX12_sayLast 79 = .ok (.if_icmp .ne 20, 3) := zo_160 (b1 := 0) (b2 := 20) (zkb3 zk_cX12_sayLast zn_cX12_sayLast (by decide +kernel)) rfl
theorem dX12_sayLast_82 : decode cX12_sayLast 82 = .ok (.aload_n 0, 1) := zo_42 (zkb zk_cX12_sayLast zn_cX12_sayLast (by decide +kernel))
theorem dX12_sayLast_83 : decode cX12_sayLast 83 = .ok (.iload_n 1, 1) := zo_27 (zkb zk_cX12_sayLast zn_cX12_sayLast (by decide +kernel))
theorem dX12_sayLast_84 : decode cX12_sayLast 84 = .ok (.invokevirtual 694, 3) := zo_182 (b1 := 2) (b2 := 182) (zkb3 zk_cX12_sayLast zn_cX12_sayLast (by decide +kernel)) rfl
theorem dX12_sayLast_87 : decode cX12_sayLast 87 = .ok (.aload_n 0, 1) := zo_42 (zkb zk_cX12_sayLast zn_cX12_sayLast (by decide +kernel))
theorem dX12_sayLast_88 : decode cX12_sayLast 88 = .ok (.aload_n 0, 1) := zo_42 (zkb zk_cX12_sayLast zn_cX12_sayLast (by decide +kernel))
theorem dX12_sayLast_89 : decode cX12_sayLast 89 = .ok (.invokevirtual 548, 3) := zo_182 (b1 := 2) (b2 := 36) (zkb3 zk_cX12_sayLast zn_cX12_sayLast (by decide +kernel)) rfl
theorem dX12_sayLast_92 : decode cX12_sayLast 92 = .ok (.iconst 2, 1) := zo_5 (zkb zk_cX12_sayLast zn_cX12_sayLast (by decide +kernel))
theorem dX12_sayLast_93 : decode cX12_sayLast 93 = .ok (.invokevirtual 579, 3) := zo_182 (b1 := 2) (b2 := 67) (zkb3 zk_cX12_sayLast zn_cX12_sayLast (by decide +kernel)) rfl
theorem dX12_sayLast_96 : decode cX12_sayLast 96 = .ok (.goto 19, 3) := zo_167 (b1 := 0) (b2 := 19) (zkb3 zk_cX12_sayLast zn_cX12_sayLast (by decide +kernel)) rfl
theorem dX12_sayLast_99 : decode cX12_sayLast 99 = .ok (.aload_n 0, 1) := zo_42 (zkb zk_cX12_sayLast zn_cX12_sayLast (by decide +kernel))
theorem dX12_sayLast_100 : decode cX12_sayLast 100 = .ok (.ldc_w 780, 3) := zo_19 (b1 := 3) (b2 := 12) (zkb3 zk_cX12_sayLast zn_cX12_sayLast (by decide +kernel)) rfl
theorem dX12_sayLast_103 : decode cX12_sayLast 103 = .ok (.invokevirtual 559, 3) := zo_182 (b1 := 2) (b2 := 47) (zkb3 zk_cX12_sayLast zn_cX12_sayLast (by decide +kernel)) rfl
theorem dX12_sayLast_106 : decode cX12_sayLast 106 = .ok (.aload_n 0, 1) := zo_42 (zkb zk_cX12_sayLast zn_cX12_sayLast (by decide +kernel))
theorem dX12_sayLast_107 : decode cX12_sayLast 107 = .ok (.bipush 8, 2) := zo_16 (b1 := 8) (zkb2 zk_cX12_sayLast zn_cX12_sayLast (by decide +kernel)) rfl
theorem dX12_sayLast_109 : decode cX12_sayLast 109 = .ok (.iload_n 1, 1) := zo_27 (zkb zk_cX12_sayLast zn_cX12_sayLast (by decide +kernel))
theorem dX12_sayLast_110 : decode cX12_sayLast 110 = .ok (.imul, 1) := zo_104 (zkb zk_cX12_sayLast zn_cX12_sayLast (by decide +kernel))
theorem dX12_sayLast_111 : decode cX12_sayLast 111 = .ok (.iconst 2, 1) := zo_5 (zkb zk_cX12_sayLast zn_cX12_sayLast (by decide +kernel))
theorem dX12_sayLast_112 : decode cX12_sayLast 112 = .ok (.invokevirtual 579, 3) := zo_182 (b1 := 2) (b2 := 67) (zkb3 zk_cX12_sayLast zn_cX12_sayLast (by decide +kernel)) rfl
theorem dX12_sayLast_115 : decode cX12_sayLast 115 = .ok (.return_, 1) := zo_177 (zkb zk_cX12_sayLast zn_cX12_sayLast (by decide +kernel))
def kn_cX12_sayOdd : Nat := 0xb12f02b68f02130600a74003130900a0081b1100a73e03130900a0071b1c00a73c03130900a0061b2700a73a03130900a0051b3200a73803130900a0041b3d00a736031309009a1b2a4b00a72f02b63403130600a73203130900a00570071b1300a73003130900a20570071b2a2700a006101c7500a72f02b62e03130600a72c03130900a0041b2a1800a0081c8f00a72f02b62a03132a0d00a0071c
theorem zk_cX12_sayOdd : zkd cX12_sayOdd.data.toList kn_cX12_sayOdd = true := by decide +kernel
theorem zn_cX12_sayOdd : cX12_sayOdd.data.toList.length = 156 := by decide +kernel
theorem dX12_sayOdd_0 : decode cX12_sayOdd 0 = .ok (.iload_n 2, 1) := zo_28 (zkb zk_cX12_sayOdd zn_cX12_sayOdd (by decide +kernel))
theorem dX12_sayOdd_1 : decode cX12_sayOdd 1 = .ok (.iconst 4, 1) := zo_7 (zkb zk_cX12_sayOdd zn_cX12_sayOdd (by decide +kernel))
theorem dX12_sayOdd_2 : decode cX12_sayOdd 2 = .ok (.if_icmp .ne 13, 3) := zo_160 (b1 := 0) (b2 := 13) (zkb3 zk_cX12_sayOdd zn_cX12_sayOdd (by decide +kernel)) rfl
theorem dX12_sayOdd_5 : decode cX12_sayOdd 5 = .ok (.aload_n 0, 1) := zo_42 (zkb zk_cX12_sayOdd zn_cX12_sayOdd (by decide +kernel))
theorem dX12_sayOdd_6 : decode cX12_sayOdd 6 = .ok (.ldc_w 810, 3) := zo_19 (b1 := 3) (b2 := 42) (zkb3 zk_cX12_sayOdd zn_cX12_sayOdd (by decide +kernel)) rfl
theorem dX12_sayOdd_9 : decode cX12_sayOdd 9 = .ok (.invokevirtual 559, 3) := zo_182 (b1 := 2) (b2 := 47) (zkb3 zk_cX12_sayOdd zn_cX12_sayOdd (by decide +kernel)) rfl
theorem dX12_sayOdd_12 : decode cX12_sayOdd 12 = .ok (.goto 143, 3) := zo_167 (b1 := 0) (b2 := 143) (zkb3 zk_cX12_sayOdd zn_cX12_sayOdd (by decide +kernel)) rfl
theorem dX12_sayOdd_15 : decode cX12_sayOdd 15 = .ok (.iload_n 2, 1) := zo_28 (zkb zk_cX12_sayOdd zn_cX12_sayOdd (by decide +kernel))
theorem dX12_sayOdd_16 : decode cX12_sayOdd 16 = .ok (.iconst 5, 1) := zo_8 (zkb zk_cX12_sayOdd zn_cX12_sayOdd (by decide +kernel))
theorem dX12_sayOdd_17 : decode cX12_sayOdd 17 = .ok (.if_icmp .ne 24, 3) := zo_160 (b1 := 0) (b2 := 24) (zkb3 zk_cX12_sayOdd zn_cX12_sayOdd (by decide +kernel)) rfl
theorem dX12_sayOdd_20 : decode cX12_sayOdd 20 = .ok (.aload_n 0, 1) := zo_42 (zkb zk_cX12_sayOdd zn_cX12_sayOdd (by decide +kernel))
theorem dX12_sayOdd_21 : decode cX12_sayOdd 21 = .ok (.iload_n 1, 1) := zo_27 (zkb zk_cX12_sayOdd zn_cX12_sayOdd (by decide +kernel))
theorem dX12_sayOdd_22 : decode cX12_sayOdd 22 = .ok (.iconst 1, 1) := zo_4 (zkb zk_cX12_sayOdd zn_cX12_sayOdd (by decide +kernel))
theorem dX12_sayOdd_23 : decode cX12_sayOdd 23 = .ok (.if_icmp .ne 9, 3) := zo_160 (b1 := 0) (b2 := 9) (zkb3 zk_cX12_sayOdd zn_cX12_sayOdd (by decide +kernel)) rfl
theorem dX12_sayOdd_26 : decode cX12_sayOdd 26 = .ok (.ldc_w 812, 3) := zo_19 (b1 := 3) (b2 := 44) (zkb3 zk_cX12_sayOdd zn_cX12_sayOdd (by decide +kernel)) rfl
theorem dX12_sayOdd_29 : decode cX12_sayOdd 29 = .ok (.goto 6, 3) := zo_167 (b1 := 0) (b2 := 6) (zkb3 zk_cX12_sayOdd zn_cX12_sayOdd (by decide +kernel)) rfl
theorem dX12_sayOdd_32 : decode cX12_sayOdd 32 = .ok (.ldc_w 814, 3) := zo_19 (b1 := 3) (b2 := 46) (zkb3 zk_cX12_sayOdd zn_cX12_sayOdd (by decide +kernel)) rfl
theorem dX12_sayOdd_35 : decode cX12_sayOdd 35 = .ok (.invokevirtual 559, 3) := zo_182 (b1 := 2) (b2 := 47) (zkb3 zk_cX12_sayOdd zn_cX12_sayOdd (by decide +kernel)) rfl
theorem dX12_sayOdd_38 : decode cX12_sayOdd 38 = .ok (.goto 117, 3) := zo_167 (b1 := 0) (b2 := 117) (zkb3 zk_cX12_sayOdd zn_cX12_sayOdd (by decide +kernel)) rfl
theorem dX12_sayOdd_41 : decode cX12_sayOdd 41 = .ok (.iload_n 2, 1) := zo_28 (zkb zk_cX12_sayOdd zn_cX12_sayOdd (by decide +kernel))
theorem dX12_sayOdd_42 : decode cX12_sayOdd 42 = .ok (.bipush 6, 2) := zo_16 (b1 := 6) (zkb2 zk_cX12_sayOdd zn_cX12_sayOdd (by decide +kernel)) rfl
theorem dX12_sayOdd_44 : decode cX12_sayOdd 44 = .ok (.if_icmp .ne 39, 3) := zo_160 (b1 := 0) (b2 := 39) (zkb3 zk_cX12_sayOdd zn_cX12_sayOdd (by decide +kernel)) rfl
theorem dX12_sayOdd_47 : decode cX12_sayOdd 47 = .ok (.aload_n 0, 1) := zo_42 (zkb zk_cX12_sayOdd zn_cX12_sayOdd (by decide +kernel))
theorem dX12_sayOdd_48 : decode cX12_sayOdd 48 = .ok (.iload_n 1, 1) := zo_27 (zkb zk_cX12_sayOdd zn_cX12_sayOdd (by decide +kernel))
theorem dX12_sayOdd_49 : decode cX12_sayOdd 49 = .ok (.iconst 4, 1) := zo_7 (zkb zk_cX12_sayOdd zn_cX12_sayOdd (by decide +kernel))
theorem dX12_sayOdd_50 : decode cX12_sayOdd 50 = .ok (.irem, 1) := zo_112 (zkb zk_cX12_sayOdd zn_cX12_sayOdd (by decide +kernel))
theorem dX12_sayOdd_51 : decode cX12_sayOdd 51 = .ok (.iconst 2, 1) := zo_5 (zkb zk_cX12_sayOdd zn_cX12_sayOdd (by decide +kernel))
theorem dX12_sayOdd_52 : decode cX12_sayOdd 52 = .ok (.if_icmp .ge 9, 3) := zo_162 (b1 := 0) (b2 := 9) (zkb3 zk_cX12_sayOdd zn_cX12_sayOdd (by decide +kernel)) rfl
theorem dX12_sayOdd_55 : decode cX12_sayOdd 55 = .ok (.ldc_w 816, 3) := zo_19 (b1 := 3) (b2 := 48) (zkb3 zk_cX12_sayOdd zn_cX12_sayOdd (by decide +kernel)) rfl
theorem dX12_sayOdd_58 : decode cX12_sayOdd 58 = .ok (.goto 19, 3) := zo_167 (b1 := 0) (b2 := 19) (zkb3 zk_cX12_sayOdd zn_cX12_sayOdd (by decide +kernel)) rfl
theorem dX12_sayOdd_61 : decode cX12_sayOdd 61 = .ok (.iload_n 1, 1) := zo_27 (zkb zk_cX12_sayOdd zn_cX12_sayOdd (by decide +kernel))
theorem dX12_sayOdd_62 : decode cX12_sayOdd 62 = .ok (.iconst 4, 1) := zo_7 (zkb zk_cX12_sayOdd zn_cX12_sayOdd (by decide +kernel))
theorem dX12_sayOdd_63 : decode cX12_sayOdd 63 = .ok (.irem, 1) := zo_112 (zkb zk_cX12_sayOdd zn_cX12_sayOdd (by decide +kernel))
theorem dX12_sayOdd_64 : decode cX12_sayOdd 64 = .ok (.iconst 2, 1) := zo_5 (zkb zk_cX12_sayOdd zn_cX12_sayOdd (by decide +kernel))
theorem dX12_sayOdd_65 : decode cX12_sayOdd 65 = .ok (.if_icmp .ne 9, 3) := zo_160 (b1 := 0) (b2 := 9) (zkb3 zk_cX12_sayOdd zn_cX12_sayOdd (by decide +kernel)) rfl
theorem dX12_sayOdd_68 : decode cX12_sayOdd 68 = .ok (.ldc_w 818, 3) := zo_19 (b1 := 3) (b2 := 50) (zkb3 zk_cX12_sayOdd zn_cX12_sayOdd (by decide +kernel)) rfl
theorem dX12_sayOdd_71 : decode cX12_sayOdd 71 = .ok (.goto 6, 3) := zo_167 (b1 := 0) (b2 := 6) (zkb3 zk_cX12_sayOdd zn_cX12_sayOdd (by decide +kernel)) rfl
theorem dX12_sayOdd_74 : decode cX12_sayOdd 74 = .ok (.ldc_w 820, 3) := zo_19 (b1 := 3) (b2 := 52) (zkb3 zk_cX12_sayOdd zn_cX12_sayOdd (by decide +kernel)) rfl
theorem dX12_sayOdd_77 : decode cX12_sayOdd 77 = .ok (.invokevirtual 559, 3) := zo_182 (b1 := 2) (b2 := 47) (zkb3 zk_cX12_sayOdd zn_cX12_sayOdd (by decide +kernel)) rfl
theorem dX12_sayOdd_80 : decode cX12_sayOdd 80 = .ok (.goto 75, 3) := zo_167 (b1 := 0) (b2 := 75) (zkb3 zk_cX12_sayOdd zn_cX12_sayOdd (by decide +kernel)) rfl
theorem dX12_sayOdd_83 : decode cX12_sayOdd 83 = .ok (.aload_n 0, 1) := zo_42 (zkb zk_cX12_sayOdd zn_cX12_sayOdd (by decide +kernel))
theorem dX12_sayOdd_84 : decode cX12_sayOdd 84 = .ok (.iload_n 1, 1) := zo_27 (zkb zk_cX12_sayOdd zn_cX12_sayOdd (by decide +kernel))
theorem dX12_sayOdd_85 : decode cX12_sayOdd 85 = .ok (.ifCond .ne 9, 3) := zo_154 (b1 := 0) (b2 := 9) (zkb3 zk_cX12_sayOdd zn_cX12_sayOdd (by decide +kernel)) rfl
theorem dX12_sayOdd_88 : decode cX12_sayOdd 88 = .ok (.ldc_w 822, 3) := zo_19 (b1 := 3) (b2 := 54) (zkb3 zk_cX12_sayOdd zn_cX12_sayOdd (by decide +kernel)) rfl
theorem dX12_sayOdd_91 : decode cX12_sayOdd 91 = .ok (.goto 61, 3) := zo_167 (b1 := 0) (b2 := 61) (zkb3 zk_cX12_sayOdd zn_cX12_sayOdd (by decide +kernel)) rfl
theorem dX12_sayOdd_94 : decode cX12_sayOdd 94 = .ok (.iload_n 1, 1) := zo_27 (zkb zk_cX12_sayOdd zn_cX12_sayOdd (by decide +kernel))
theorem dX12_sayOdd_95 : decode cX12_sayOdd 95 = .ok (.iconst 1, 1) := zo_4 (zkb zk_cX12_sayOdd zn_cX12_sayOdd (by decide +kernel))
theorem dX12_sayOdd_96 : decode cX12_sayOdd 96 = .ok (.if_icmp .ne 9, 3) := zo_160 (b1 := 0) (b2 := 9) (zkb3 zk_cX12_sayOdd zn_cX12_sayOdd (by decide +kernel)) rfl
theorem dX12_sayOdd_99 : decode cX12_sayOdd 99 = .ok (.ldc_w 824, 3) := zo_19 (b1 := 3) (b2 := 56) (zkb3 zk_cX12_sayOdd zn_cX12_sayOdd (by decide +kernel)) rfl
theorem dX12_sayOdd_102 : decode cX12_sayOdd 102 = .ok (.goto 50, 3) := zo_167 (b1 := 0) (b2 := 50) (zkb3 zk_cX12_sayOdd zn_cX12_sayOdd (by decide +kernel)) rfl
theorem dX12_sayOdd_105 : decode cX12_sayOdd 105 = .ok (.iload_n 1, 1) := zo_27 (zkb zk_cX12_sayOdd zn_cX12_sayOdd (by decide +kernel))
theorem dX12_sayOdd_106 : decode cX12_sayOdd 106 = .ok (.iconst 2, 1) := zo_5 (zkb zk_cX12_sayOdd zn_cX12_sayOdd (by decide +kernel))
theorem dX12_sayOdd_107 : decode cX12_sayOdd 107 = .ok (.if_icmp .ne 9, 3) := zo_160 (b1 := 0) (b2 := 9) (zkb3 zk_cX12_sayOdd zn_cX12_sayOdd (by decide +kernel)) rfl
theorem dX12_sayOdd_110 : decode cX12_sayOdd 110 = .ok (.ldc_w 826, 3) := zo_19 (b1 := 3) (b2 := 58) (zkb3 zk_cX12_sayOdd zn_cX12_sayOdd (by decide +kernel)) rfl
theorem dX12_sayOdd_113 : decode cX12_sayOdd 113 = .ok (.goto 39, 3) := zo_167 (b1 := 0) (b2 := 39) (zkb3 zk_cX12_sayOdd zn_cX12_sayOdd (by decide +kernel)) rfl
theorem dX12_sayOdd_116 : decode cX12_sayOdd 116 = .ok (.iload_n 1, 1) := zo_27 (zkb zk_cX12_sayOdd zn_cX12_sayOdd (by decide +kernel))
theorem dX12_sayOdd_117 : decode cX12_sayOdd 117 = .ok (.iconst 3, 1) := zo_6 (zkb zk_cX12_sayOdd zn_cX12_sayOdd (by decide +kernel))
theorem dX12_sayOdd_118 : decode cX12_sayOdd 118 = .ok (.if_icmp .ne 9, 3) := zo_160 (b1 := 0) (b2 := 9) (zkb3 zk_cX12_sayOdd zn_cX12_sayOdd (by decide +kernel)) rfl
theorem dX12_sayOdd_121 : decode cX12_sayOdd 121 = .ok (.ldc_w 828, 3) := zo_19 (b1 := 3) (b2 := 60) (zkb3 zk_cX12_sayOdd zn_cX12_sayOdd (by decide +kernel)) rfl
theorem dX12_sayOdd_124 : decode cX12_sayOdd 124 = .ok (.goto 28, 3) := zo_167 (b1 := 0) (b2 := 28) (zkb3 zk_cX12_sayOdd zn_cX12_sayOdd (by decide +kernel)) rfl
theorem dX12_sayOdd_127 : decode cX12_sayOdd 127 = .ok (.iload_n 1, 1) := zo_27 (zkb zk_cX12_sayOdd zn_cX12_sayOdd (by decide +kernel))
theorem dX12_sayOdd_128 : decode cX12_sayOdd 128 = .ok (.iconst 4, 1) := zo_7 (zkb zk_cX12_sayOdd zn_cX12_sayOdd (by decide +kernel))
theorem dX12_sayOdd_129 : decode cX12_sayOdd 129 = .ok (.if_icmp .ne 9, 3) := zo_160 (b1 := 0) (b2 := 9) (zkb3 zk_cX12_sayOdd zn_cX12_sayOdd (by decide +kernel)) rfl
theorem dX12_sayOdd_132 : decode cX12_sayOdd 132 = .ok (.ldc_w 830, 3) := zo_19 (b1 := 3) (b2 := 62) (zkb3 zk_cX12_sayOdd zn_cX12_sayOdd (by decide +kernel)) rfl
theorem dX12_sayOdd_135 : decode cX12_sayOdd 135 = .ok (.goto 17, 3) := zo_167 (b1 := 0) (b2 := 17) (zkb3 zk_cX12_sayOdd zn_cX12_sayOdd (by decide +kernel)) rfl
theorem dX12_sayOdd_138 : decode cX12_sayOdd 138 = .ok (.iload_n 1, 1) := zo_27 (zkb zk_cX12_sayOdd zn_cX12_sayOdd (by decide +kernel))
theorem dX12_sayOdd_139 : decode cX12_sayOdd 139 = .ok (.iconst 5, 1) := zo_8 (zkb zk_cX12_sayOdd zn_cX12_sayOdd (by decide +kernel))
theorem dX12_sayOdd_140 : decode cX12_sayOdd 140 = .ok (.if_icmp .ne 9, 3) := zo_160 (b1 := 0) (b2 := 9) (zkb3 zk_cX12_sayOdd zn_cX12_sayOdd (by decide +kernel)) rfl
theorem dX12_sayOdd_143 : decode cX12_sayOdd 143 = .ok (.ldc_w 832, 3) := zo_19 (b1 := 3) (b2 := 64) (zkb3 zk_cX12_sayOdd zn_cX12_sayOdd (by decide +kernel)) rfl
theorem dX12_sayOdd_146 : decode cX12_sayOdd 146 = .ok (.goto 6, 3) := zo_167 (b1 := 0) (b2 := 6) (zkb3 zk_cX12_sayOdd zn_cX12_sayOdd (by decide +kernel)) rfl
theorem dX12_sayOdd_149 : decode cX12_sayOdd 149 = .ok (.ldc_w 655, 3) := zo_19 (b1 := 2) (b2 := 143) (zkb3 zk_cX12_sayOdd zn_cX12_sayOdd (by decide +kernel)) rfl
theorem dX12_sayOdd_152 : decode cX12_sayOdd 152 = .ok (.invokevirtual 559, 3) := zo_182 (b1 := 2) (b2 := 47) (zkb3 zk_cX12_sayOdd zn_cX12_sayOdd (by decide +kernel)) rfl
theorem dX12_sayOdd_155 : decode cX12_sayOdd 155 = .ok (.return_, 1) := zo_177 (zkb zk_cX12_sayOdd zn_cX12_sayOdd (by decide +kernel))
def rmX12_hex : Room := { frames := 0, cells := 0, slots := 0, locals := 0 }
def wzX12_hex : List Cond := .code yX12_hex cX12_hex 5 none :: wsL_law
theorem hinX12_hex_X120 : ∀ w ∈ wsX120, w ∈ wzX12_hex := fun w h => List.mem_cons_of_mem _ (inlX12 w h)
def fX12_hex_49 (k4 : zSt → Int32 → Int32 → Option (zSt)) (σ : zSt) (x1 : Int32) (x3 : Int32) (s0 : Int32) (s1 : Int32) : Option (zSt) :=
  zck (zin s1 40) (zbv (zsi σ 26 (s1.toNatClampNeg) s0) (fun σ1 =>
  zbv (zsi σ1 0 39 ((zgi σ1 0 39) + 1)) (fun σ2 =>
  zbv (x3 + (-1)) (fun v3 =>
  k4 σ2 x1 v3))))
def fX12_hex_4_body (k4 : zSt → Int32 → Int32 → Option (zSt)) (σ : zSt) (x1 : Int32) (x3 : Int32) : Option (zSt) :=
  if x3 < 0 then some σ else
  zbv ((x1 >>> ((4 * x3) &&& 31)) &&& 15) (fun v4 =>
  if 10 ≤ v4 then fX12_hex_49 k4 σ x1 x3 ((97 + v4) - 10) (zgi σ 0 39) else
  fX12_hex_49 k4 σ x1 x3 (48 + v4) (zgi σ 0 39))
def fX12_hex_4  : Nat → zSt → Int32 → Int32 → Option (zSt)
  | 0, _, _, _ => none
  | n + 1, σ, x1, x3 => fX12_hex_4_body (fX12_hex_4  n) σ x1 x3
def fX12_hex  (σ : zSt) (x1 : Int32) (x2 : Int32) : Option (zSt) :=
  zbv (x2 - 1) (fun v5 =>
  fX12_hex_4 zfuel σ x1 v5)
set_option maxRecDepth 20000 in
set_option maxHeartbeats 4000000 in
theorem bX12_hex_49 {st : Nat → Nat} {p : Program} {l : Launch} {e : Env} {s : State} {m : MethodId} {args : Array Value} {below : List Frame} {meth : Method} {c : Code} {D : va_G} {A : Nat → Prop} {ad : Nat → Nat} {cy : Nat → ClassId} (hC : zC p m c cX12_hex 5 s args wzX12_hex RX12 meth none) {k4 : zSt → Int32 → Int32 → Option (zSt)} {res : zSt} (hk4 : ∀ (H : Heap) (locs : List Loc) (σ : zSt) (ls : Array Slot) (x1 : Int32) (x3 : Int32), zI st D (tM cy) (wM ad cy σ) A s H locs → lv_has ls 5 [(0, .ref (ad 0)), (1, .int x1), (3, .int x3)] → k4 σ x1 x3 = some res → W p l e rmX12_hex s m args below meth c H locs 0 0 (zQu below args s D (tM cy) (wM ad cy) A res) (F0 m 4 ls [])) {H : Heap} {locs : List Loc} {σ : zSt} {ls : Array Slot} {x1 : Int32} {x3 : Int32} {s0 : Int32} {s1 : Int32} (hI : zI st D (tM cy) (wM ad cy σ) A s H locs) (hl : lv_has ls 5 [(0, .ref (ad 0)), (1, .int x1), (3, .int x3)]) (hf : fX12_hex_49 k4 σ x1 x3 s0 s1 = some res) : W p l e rmX12_hex s m args below meth c H locs 0 0 (zQu below args s D (tM cy) (wM ad cy) A res) (F0 m 49 ls [.int s0, .int s1, .ref (ad 26)]) := by
  have hx := hC.1
  have hb := hC.2.1
  unfold fX12_hex_49 at hf
  obtain ⟨q, hf⟩ := zck_use hf
  obtain ⟨σ1, eσ1⟩ : ∃ z, z = zsi σ 26 (s1.toNatClampNeg) s0 := ⟨_, rfl⟩
  replace hf := zbv_use eσ1 hf
  refine z_iast hC hI 26 25 (wM_e26 ad cy σ) (tM_t26 cy) q ((wM_s26 ad cy σ _ _).trans (congrArg (wM ad cy) eσ1.symm)) dX12_hex_49 (fun H locs hI => ?_)
  refine lv_aload_n hx hb dX12_hex_50 rfl (lv_at hl 0 rfl) ?_
  refine lv_dup hx hb dX12_hex_51 rfl ?_
  refine z_get hC hI hinX12_hex_X120 0 (wM_e0 ad cy σ1) rfl 39 (by decide) (List.mem_cons_of_mem _ zw74_10) rfl dX12_hex_52 ?_
  refine lv_iconst (v := 1) hx hb dX12_hex_55 (by decide) ?_
  refine lv_iadd hx hb dX12_hex_56 ?_
  obtain ⟨σ2, eσ2⟩ : ∃ z, z = zsi σ1 0 39 ((zgi σ1 0 39) + 1) := ⟨_, rfl⟩
  replace hf := zbv_use eσ2 hf
  refine z_put hC hI hinX12_hex_X120 tyX12_ok nmX12 0 (wM_e0 ad cy σ1) rfl 39 (by decide) (List.mem_cons_of_mem _ zw74_10) rfl rfl rfl (Nat.le_of_ble_eq_true rfl) ((wM_s0_39 ad cy σ1 ((zgi σ1 0 39) + 1)).trans (congrArg (wM ad cy) eσ2.symm)) dX12_hex_57 (fun H locs hI => ?_)
  obtain ⟨v3, ev3⟩ : ∃ z : Int32, z = x3 + (-1) := ⟨_, rfl⟩
  replace hf := zbv_use ev3 hf
  refine lv_iinc (v := v3) (lv' := [(3, .int v3), (0, .ref (ad 0)), (1, .int x1)]) hx hb dX12_hex_60 hl (k := 2) rfl (by rw [ev3]; rfl) (by decide) rfl (fun ls hl => ?_)
  refine lv_goto (tgt := 4) hx hb dX12_hex_63 (by decide) ?_
  exact hk4 _ _ _ _ _ _ hI (lv_sub hl [1, 2, 0] rfl) hf
set_option maxRecDepth 20000 in
set_option maxHeartbeats 4000000 in
theorem bX12_hex_4_body {st : Nat → Nat} {p : Program} {l : Launch} {e : Env} {s : State} {m : MethodId} {args : Array Value} {below : List Frame} {meth : Method} {c : Code} {D : va_G} {A : Nat → Prop} {ad : Nat → Nat} {cy : Nat → ClassId} (hC : zC p m c cX12_hex 5 s args wzX12_hex RX12 meth none) {k4 : zSt → Int32 → Int32 → Option (zSt)} {res : zSt} (hk4 : ∀ (H : Heap) (locs : List Loc) (σ : zSt) (ls : Array Slot) (x1 : Int32) (x3 : Int32), zI st D (tM cy) (wM ad cy σ) A s H locs → lv_has ls 5 [(0, .ref (ad 0)), (1, .int x1), (3, .int x3)] → k4 σ x1 x3 = some res → W p l e rmX12_hex s m args below meth c H locs 0 0 (zQu below args s D (tM cy) (wM ad cy) A res) (F0 m 4 ls [])) {H : Heap} {locs : List Loc} {σ : zSt} {ls : Array Slot} {x1 : Int32} {x3 : Int32} (hI : zI st D (tM cy) (wM ad cy σ) A s H locs) (hl : lv_has ls 5 [(0, .ref (ad 0)), (1, .int x1), (3, .int x3)]) (hf : fX12_hex_4_body k4 σ x1 x3 = some res) : W p l e rmX12_hex s m args below meth c H locs 0 0 (zQu below args s D (tM cy) (wM ad cy) A res) (F0 m 4 ls []) := by
  have hx := hC.1
  have hb := hC.2.1
  unfold fX12_hex_4_body at hf
  refine lv_iload_n hx hb dX12_hex_4 rfl (lv_at hl 2 rfl) ?_
  refine lv_if_lt (tgt := 66) hx hb dX12_hex_5 (by decide) (fun q => ?_) (fun q => ?_)
  · replace hf := zif_t q hf
    exact z_return hC hI hf dX12_hex_66
  replace hf := zif_f q hf
  refine lv_iload_n hx hb dX12_hex_8 rfl (lv_at hl 1 rfl) ?_
  refine lv_iconst (v := 4) hx hb dX12_hex_9 (by decide) ?_
  refine lv_iload_n hx hb dX12_hex_10 rfl (lv_at hl 2 rfl) ?_
  refine lv_imul hx hb dX12_hex_11 ?_
  refine lv_ishr hx hb dX12_hex_12 ?_
  refine lv_bipush (v := 15) hx hb dX12_hex_13 (by decide) ?_
  refine lv_iand hx hb dX12_hex_15 ?_
  refine lv_topi (fun v4 ev4 => ?_)
  replace hf := zbv_use ev4 hf
  refine lv_istore (lv' := [(4, .int v4), (0, .ref (ad 0)), (1, .int x1), (3, .int x3)]) hx hb dX12_hex_16 hl (by decide) rfl (fun ls hl => ?_)
  refine lv_aload_n hx hb dX12_hex_18 rfl (lv_at hl 1 rfl) ?_
  refine z_get hC hI hinX12_hex_X120 0 (wM_e0 ad cy σ) rfl 38 (by decide) (List.mem_cons_of_mem _ zw10_9) rfl dX12_hex_19 ?_
  refine lv_aload_n hx hb dX12_hex_22 rfl (lv_at hl 1 rfl) ?_
  refine z_get hC hI hinX12_hex_X120 0 (wM_e0 ad cy σ) rfl 39 (by decide) (List.mem_cons_of_mem _ zw74_10) rfl dX12_hex_23 ?_
  refine lv_iload hx hb dX12_hex_26 (lv_at hl 0 rfl) ?_
  refine lv_bipush (v := 10) hx hb dX12_hex_28 (by decide) ?_
  refine lv_icmp_ge (tgt := 41) hx hb dX12_hex_30 (by decide) (fun q => ?_) (fun q => ?_)
  · replace hf := zif_t q hf
    refine lv_bipush (v := 97) hx hb dX12_hex_41 (by decide) ?_
    refine lv_iload hx hb dX12_hex_43 (lv_at hl 0 rfl) ?_
    refine lv_iadd hx hb dX12_hex_45 ?_
    refine lv_bipush (v := 10) hx hb dX12_hex_46 (by decide) ?_
    refine lv_isub hx hb dX12_hex_48 ?_
    exact bX12_hex_49 hC hk4 hI (lv_sub hl [1, 2, 3] rfl) hf
  replace hf := zif_f q hf
  refine lv_bipush (v := 48) hx hb dX12_hex_33 (by decide) ?_
  refine lv_iload hx hb dX12_hex_35 (lv_at hl 0 rfl) ?_
  refine lv_iadd hx hb dX12_hex_37 ?_
  refine lv_goto (tgt := 49) hx hb dX12_hex_38 (by decide) ?_
  exact bX12_hex_49 hC hk4 hI (lv_sub hl [1, 2, 3] rfl) hf
theorem blX12_hex_4 {st : Nat → Nat} {p : Program} {l : Launch} {e : Env} {s : State} {m : MethodId} {args : Array Value} {below : List Frame} {meth : Method} {c : Code} {D : va_G} {A : Nat → Prop} {ad : Nat → Nat} {cy : Nat → ClassId} (hC : zC p m c cX12_hex 5 s args wzX12_hex RX12 meth none)  {res : zSt} : ∀ (n : Nat) (H : Heap) (locs : List Loc) (σ : zSt) (ls : Array Slot) (x1 : Int32) (x3 : Int32), zI st D (tM cy) (wM ad cy σ) A s H locs → lv_has ls 5 [(0, .ref (ad 0)), (1, .int x1), (3, .int x3)] → fX12_hex_4  n σ x1 x3 = some res → W p l e rmX12_hex s m args below meth c H locs 0 0 (zQu below args s D (tM cy) (wM ad cy) A res) (F0 m 4 ls []) := by
  intro n
  induction n with
  | zero => intro H locs σ ls x1 x3 hI hl hf; cases hf
  | succ n ih => intro H locs σ ls x1 x3 hI hl hf; exact bX12_hex_4_body hC ih hI hl hf
set_option maxRecDepth 20000 in
set_option maxHeartbeats 4000000 in
theorem bX12_hex {st : Nat → Nat} {p : Program} {l : Launch} {e : Env} {s : State} {m : MethodId} {args : Array Value} {below : List Frame} {meth : Method} {c : Code} {D : va_G} {A : Nat → Prop} {ad : Nat → Nat} {cy : Nat → ClassId} (hC : zC p m c cX12_hex 5 s args wzX12_hex RX12 meth none)  {res : zSt} {H : Heap} {locs : List Loc} {σ : zSt} {ls : Array Slot} {x1 : Int32} {x2 : Int32} (hI : zI st D (tM cy) (wM ad cy σ) A s H locs) (hl : lv_has ls 5 [(0, .ref (ad 0)), (1, .int x1), (2, .int x2)]) (hf : fX12_hex  σ x1 x2 = some res) : W p l e rmX12_hex s m args below meth c H locs 0 0 (zQu below args s D (tM cy) (wM ad cy) A res) (F0 m 0 ls []) := by
  have hx := hC.1
  have hb := hC.2.1
  unfold fX12_hex at hf
  refine lv_iload_n hx hb dX12_hex_0 rfl (lv_at hl 2 rfl) ?_
  refine lv_iconst (v := 1) hx hb dX12_hex_1 (by decide) ?_
  refine lv_isub hx hb dX12_hex_2 ?_
  refine lv_topi (fun v5 ev5 => ?_)
  replace hf := zbv_use ev5 hf
  refine lv_istore_n (lv' := [(3, .int v5), (0, .ref (ad 0)), (1, .int x1), (2, .int x2)]) hx hb dX12_hex_3 rfl hl (by decide) rfl (fun ls hl => ?_)
  exact blX12_hex_4 hC  zfuel _ _ _ _ _ _ hI (lv_sub hl [1, 2, 0] rfl) hf
set_option maxRecDepth 20000 in
theorem cX12_hex_met (st : Nat → Nat) (l : Launch) (D : va_G) (ad : Nat → Nat) (cy : Nat → ClassId) (σ : zSt) (x1 : Int32) (x2 : Int32) (res : zSt) (hf : fX12_hex σ x1 x2 = some res) (sz : Nat) : zMu st l yX12_hex wzX12_hex rmX12_hex [.ref (ad 0), .int x1, .int x2] D (tM cy) (wM ad cy) sz σ res :=
  zMu.of (cc := cX12_hex) (maxL := 5) (ret := none) (by decide) rfl (Nat.le_of_ble_eq_true rfl) (fun p e s m args below meth c hC A hI ls hl => bX12_hex hC hI hl hf)
theorem hdX12_hex : yX12_hex.cls = RX12 ∧ yX12_hex.cls ≠ "java/lang/invoke/MethodHandle" ∧ yX12_hex.cls ≠ "java/lang/invoke/VarHandle" ∧ (parseMethodDescriptor yX12_hex.desc).map (fun d => d.parameters.length) = some 2 := by decide +kernel
def rmX12_taken : Room := { frames := 2, cells := 0, slots := 0, locals := 44 }
def wzX12_taken : List Cond := .code yX12_taken cX12_taken 2 (some .int) :: wsL_law
theorem hinX12_taken_X120 : ∀ w ∈ wsX120, w ∈ wzX12_taken := fun w h => List.mem_cons_of_mem _ (inlX12 w h)
def fX12_taken  (σ : zSt)  : Option (zSt × Int32) :=
  zbi (fX12_read σ (zgi σ 0 40)) (fun σ1 v2 =>
  zbv (zsi σ1 0 40 ((zgi σ1 0 40) + 1)) (fun σ3 =>
  some (σ3, v2)))
set_option maxRecDepth 20000 in
set_option maxHeartbeats 4000000 in
theorem bX12_taken {st : Nat → Nat} {p : Program} {l : Launch} {e : Env} {s : State} {m : MethodId} {args : Array Value} {below : List Frame} {meth : Method} {c : Code} {D : va_G} {A : Nat → Prop} {ad : Nat → Nat} {cy : Nat → ClassId} (hC : zC p m c cX12_taken 2 s args wzX12_taken RX12 meth (some .int))  {res : zSt × Int32} {H : Heap} {locs : List Loc} {σ : zSt} {ls : Array Slot}  (hI : zI st D (tM cy) (wM ad cy σ) A s H locs) (hl : lv_has ls 2 [(0, .ref (ad 0))]) (hf : fX12_taken  σ  = some res) : W p l e rmX12_taken s m args below meth c H locs 0 0 (zQi below args s D (tM cy) (wM ad cy) A res) (F0 m 0 ls []) := by
  have hx := hC.1
  have hb := hC.2.1
  unfold fX12_taken at hf
  refine lv_aload_n hx hb dX12_taken_0 rfl (lv_at hl 0 rfl) ?_
  refine lv_aload_n hx hb dX12_taken_1 rfl (lv_at hl 0 rfl) ?_
  refine z_get hC hI hinX12_taken_X120 0 (wM_e0 ad cy σ) rfl 40 (by decide) (List.mem_cons_of_mem _ zw74_11) rfl dX12_taken_2 ?_
  obtain ⟨σ1, v2, g1, hf⟩ := zbi_use hf
  refine z_callVi (As := [.int (zgi σ 0 40)]) (rest := []) hC hI (cX12_read_met st l D ad cy σ (zgi σ 0 40) _ g1) (zgV zw49_8 zw49_9 zw49_10 zw1_5 zw49_11) rfl ⟨rfl, rfl⟩ 1 hdX12_read ⟨Nat.le_of_ble_eq_true rfl, Nat.le_of_ble_eq_true rfl⟩ rfl rfl (wM_e0 ad cy σ) rfl hl rfl (Nat.le_of_ble_eq_true rfl) dX12_taken_5 ⟨Nat.zero_le _, Nat.zero_le _⟩ (fun H locs hI => ?_)
  refine lv_istore_n (lv' := [(1, .int v2), (0, .ref (ad 0))]) hx hb dX12_taken_8 rfl hl (by decide) rfl (fun ls hl => ?_)
  refine lv_aload_n hx hb dX12_taken_9 rfl (lv_at hl 1 rfl) ?_
  refine lv_dup hx hb dX12_taken_10 rfl ?_
  refine z_get hC hI hinX12_taken_X120 0 (wM_e0 ad cy σ1) rfl 40 (by decide) (List.mem_cons_of_mem _ zw74_11) rfl dX12_taken_11 ?_
  refine lv_iconst (v := 1) hx hb dX12_taken_14 (by decide) ?_
  refine lv_iadd hx hb dX12_taken_15 ?_
  obtain ⟨σ3, eσ3⟩ : ∃ z, z = zsi σ1 0 40 ((zgi σ1 0 40) + 1) := ⟨_, rfl⟩
  replace hf := zbv_use eσ3 hf
  refine z_put hC hI hinX12_taken_X120 tyX12_ok nmX12 0 (wM_e0 ad cy σ1) rfl 40 (by decide) (List.mem_cons_of_mem _ zw74_11) rfl rfl rfl (Nat.le_of_ble_eq_true rfl) ((wM_s0_40 ad cy σ1 ((zgi σ1 0 40) + 1)).trans (congrArg (wM ad cy) eσ3.symm)) dX12_taken_16 (fun H locs hI => ?_)
  refine lv_iload_n hx hb dX12_taken_19 rfl (lv_at hl 0 rfl) ?_
  exact z_ireturn hC hI hf dX12_taken_20
set_option maxRecDepth 20000 in
theorem cX12_taken_met (st : Nat → Nat) (l : Launch) (D : va_G) (ad : Nat → Nat) (cy : Nat → ClassId) (σ : zSt)  (res : zSt × Int32) (hf : fX12_taken σ  = some res) (sz : Nat) : zMi st l yX12_taken wzX12_taken rmX12_taken [.ref (ad 0)] D (tM cy) (wM ad cy) sz σ res :=
  zMi.of (cc := cX12_taken) (maxL := 2) (ret := (some .int)) (by decide) rfl (Nat.le_of_ble_eq_true rfl) (fun p e s m args below meth c hC A hI ls hl => bX12_taken hC hI hl hf)
theorem hdX12_taken : yX12_taken.cls = RX12 ∧ yX12_taken.cls ≠ "java/lang/invoke/MethodHandle" ∧ yX12_taken.cls ≠ "java/lang/invoke/VarHandle" ∧ (parseMethodDescriptor yX12_taken.desc).map (fun d => d.parameters.length) = some 0 := by decide +kernel
def rmX12_takenWord : Room := { frames := 3, cells := 0, slots := 0, locals := 65 }
def wzX12_takenWord : List Cond := .code yX12_takenWord cX12_takenWord 2 (some .int) :: wsL_law
def fX12_takenWord  (σ : zSt)  : Option (zSt × Int32) :=
  zbi (fX12_taken σ ) (fun σ1 v2 =>
  zbi (fX12_taken σ1 ) (fun σ3 v4 =>
  some (σ3, v2 ||| (v4 <<< ((8 : Int32) &&& 31)))))
set_option maxRecDepth 20000 in
set_option maxHeartbeats 4000000 in
theorem bX12_takenWord {st : Nat → Nat} {p : Program} {l : Launch} {e : Env} {s : State} {m : MethodId} {args : Array Value} {below : List Frame} {meth : Method} {c : Code} {D : va_G} {A : Nat → Prop} {ad : Nat → Nat} {cy : Nat → ClassId} (hC : zC p m c cX12_takenWord 2 s args wzX12_takenWord RX12 meth (some .int))  {res : zSt × Int32} {H : Heap} {locs : List Loc} {σ : zSt} {ls : Array Slot}  (hI : zI st D (tM cy) (wM ad cy σ) A s H locs) (hl : lv_has ls 2 [(0, .ref (ad 0))]) (hf : fX12_takenWord  σ  = some res) : W p l e rmX12_takenWord s m args below meth c H locs 0 0 (zQi below args s D (tM cy) (wM ad cy) A res) (F0 m 0 ls []) := by
  have hx := hC.1
  have hb := hC.2.1
  unfold fX12_takenWord at hf
  refine lv_aload_n hx hb dX12_takenWord_0 rfl (lv_at hl 0 rfl) ?_
  obtain ⟨σ1, v2, g1, hf⟩ := zbi_use hf
  refine z_callVi (As := []) (rest := []) hC hI (cX12_taken_met st l D ad cy σ  _ g1) (zgV zw74_14 zw74_15 zw74_16 zw1_5 zw74_17) rfl ⟨rfl, rfl⟩ 0 hdX12_taken ⟨Nat.le_of_ble_eq_true rfl, Nat.le_of_ble_eq_true rfl⟩ rfl rfl (wM_e0 ad cy σ) rfl hl rfl (Nat.le_of_ble_eq_true rfl) dX12_takenWord_1 ⟨Nat.zero_le _, Nat.zero_le _⟩ (fun H locs hI => ?_)
  refine lv_istore_n (lv' := [(1, .int v2), (0, .ref (ad 0))]) hx hb dX12_takenWord_4 rfl hl (by decide) rfl (fun ls hl => ?_)
  refine lv_iload_n hx hb dX12_takenWord_5 rfl (lv_at hl 0 rfl) ?_
  refine lv_aload_n hx hb dX12_takenWord_6 rfl (lv_at hl 1 rfl) ?_
  obtain ⟨σ3, v4, g3, hf⟩ := zbi_use hf
  refine z_callVi (As := []) (rest := [.int v2]) hC hI (cX12_taken_met st l D ad cy σ1  _ g3) (zgV zw74_14 zw74_15 zw74_16 zw1_5 zw74_17) rfl ⟨rfl, rfl⟩ 0 hdX12_taken ⟨Nat.le_of_ble_eq_true rfl, Nat.le_of_ble_eq_true rfl⟩ rfl rfl (wM_e0 ad cy σ1) rfl hl rfl (Nat.le_of_ble_eq_true rfl) dX12_takenWord_7 ⟨Nat.zero_le _, Nat.zero_le _⟩ (fun H locs hI => ?_)
  refine lv_bipush (v := 8) hx hb dX12_takenWord_10 (by decide) ?_
  refine lv_ishl hx hb dX12_takenWord_12 ?_
  refine lv_ior hx hb dX12_takenWord_13 ?_
  exact z_ireturn hC hI hf dX12_takenWord_14
set_option maxRecDepth 20000 in
theorem cX12_takenWord_met (st : Nat → Nat) (l : Launch) (D : va_G) (ad : Nat → Nat) (cy : Nat → ClassId) (σ : zSt)  (res : zSt × Int32) (hf : fX12_takenWord σ  = some res) (sz : Nat) : zMi st l yX12_takenWord wzX12_takenWord rmX12_takenWord [.ref (ad 0)] D (tM cy) (wM ad cy) sz σ res :=
  zMi.of (cc := cX12_takenWord) (maxL := 2) (ret := (some .int)) (by decide) rfl (Nat.le_of_ble_eq_true rfl) (fun p e s m args below meth c hC A hI ls hl => bX12_takenWord hC hI hl hf)
theorem hdX12_takenWord : yX12_takenWord.cls = RX12 ∧ yX12_takenWord.cls ≠ "java/lang/invoke/MethodHandle" ∧ yX12_takenWord.cls ≠ "java/lang/invoke/VarHandle" ∧ (parseMethodDescriptor yX12_takenWord.desc).map (fun d => d.parameters.length) = some 0 := by decide +kernel
def rmX12_sayHl : Room := { frames := 5, cells := 0, slots := 0, locals := 139 }
def wzX12_sayHl : List Cond := .code yX12_sayHl cX12_sayHl 1 none :: wsL_law
theorem hinX12_sayHl_X120 : ∀ w ∈ wsX120, w ∈ wzX12_sayHl := fun w h => List.mem_cons_of_mem _ (inlX12 w h)
def fX12_sayHl_31  (σ : zSt) (s0 : Nat) : Option (zSt) :=
  zbu (fX12_say σ s0) (fun σ1 =>
  some σ1)
def fX12_sayHl  (σ : zSt)  : Option (zSt) :=
  if (zgi σ 0 41) = 0 then fX12_sayHl_31 σ 90 else
  if (zgi σ 0 41) = 1 then fX12_sayHl_31 σ 91 else
  fX12_sayHl_31 σ 92
set_option maxRecDepth 20000 in
set_option maxHeartbeats 4000000 in
theorem bX12_sayHl_31 {st : Nat → Nat} {p : Program} {l : Launch} {e : Env} {s : State} {m : MethodId} {args : Array Value} {below : List Frame} {meth : Method} {c : Code} {D : va_G} {A : Nat → Prop} {ad : Nat → Nat} {cy : Nat → ClassId} (hC : zC p m c cX12_sayHl 1 s args wzX12_sayHl RX12 meth none)  {res : zSt} {H : Heap} {locs : List Loc} {σ : zSt} {ls : Array Slot} {s0 : Nat} (hI : zI st D (tM cy) (wM ad cy σ) A s H locs) (hl : lv_has ls 1 []) (hf : fX12_sayHl_31  σ s0 = some res) : W p l e rmX12_sayHl s m args below meth c H locs 0 0 (zQu below args s D (tM cy) (wM ad cy) A res) (F0 m 31 ls [.ref (st (100 + s0)), .ref (ad 0)]) := by
  have hx := hC.1
  have hb := hC.2.1
  unfold fX12_sayHl_31 at hf
  obtain ⟨σ1, g1, hf⟩ := zbu_use hf
  refine z_callVu (As := [.ref (st (100 + s0))]) (rest := []) hC hI (cX12_say_met st l D ad cy σ s0 _ g1) (zgV zw74_23 zw75_0 zw75_1 zw1_5 zw75_2) rfl ⟨rfl, rfl⟩ 1 hdX12_say ⟨Nat.le_of_ble_eq_true rfl, Nat.le_of_ble_eq_true rfl⟩ rfl rfl (wM_e0 ad cy σ) rfl hl rfl (Nat.le_of_ble_eq_true rfl) dX12_sayHl_31 ⟨Nat.zero_le _, Nat.zero_le _⟩ (fun H locs hI => ?_)
  exact z_return hC hI hf dX12_sayHl_34
set_option maxRecDepth 20000 in
set_option maxHeartbeats 4000000 in
theorem bX12_sayHl {st : Nat → Nat} {p : Program} {l : Launch} {e : Env} {s : State} {m : MethodId} {args : Array Value} {below : List Frame} {meth : Method} {c : Code} {D : va_G} {A : Nat → Prop} {ad : Nat → Nat} {cy : Nat → ClassId} (hC : zC p m c cX12_sayHl 1 s args wzX12_sayHl RX12 meth none)  {res : zSt} {H : Heap} {locs : List Loc} {σ : zSt} {ls : Array Slot}  (hI : zI st D (tM cy) (wM ad cy σ) A s H locs) (hl : lv_has ls 1 [(0, .ref (ad 0))]) (hf : fX12_sayHl  σ  = some res) : W p l e rmX12_sayHl s m args below meth c H locs 0 0 (zQu below args s D (tM cy) (wM ad cy) A res) (F0 m 0 ls []) := by
  have hx := hC.1
  have hb := hC.2.1
  unfold fX12_sayHl at hf
  refine lv_aload_n hx hb dX12_sayHl_0 rfl (lv_at hl 0 rfl) ?_
  refine lv_aload_n hx hb dX12_sayHl_1 rfl (lv_at hl 0 rfl) ?_
  refine z_get hC hI hinX12_sayHl_X120 0 (wM_e0 ad cy σ) rfl 41 (by decide) (List.mem_cons_of_mem _ zw74_12) rfl dX12_sayHl_2 ?_
  refine lv_if_ne (tgt := 14) hx hb dX12_sayHl_5 (by decide) (fun q => ?_) (fun q => ?_)
  · replace hf := zif_f q hf
    refine lv_aload_n hx hb dX12_sayHl_14 rfl (lv_at hl 0 rfl) ?_
    refine z_get hC hI hinX12_sayHl_X120 0 (wM_e0 ad cy σ) rfl 41 (by decide) (List.mem_cons_of_mem _ zw74_12) rfl dX12_sayHl_15 ?_
    refine lv_iconst (v := 1) hx hb dX12_sayHl_18 (by decide) ?_
    refine lv_icmp_ne (tgt := 28) hx hb dX12_sayHl_19 (by decide) (fun q => ?_) (fun q => ?_)
    · replace hf := zif_f q hf
      refine z_ldcSW hC hI 92 (by decide) rfl rfl dX12_sayHl_28 ?_
      exact bX12_sayHl_31 hC  hI (lv_sub hl [] rfl) hf
    replace hf := zif_t q hf
    refine z_ldcSW hC hI 91 (by decide) rfl rfl dX12_sayHl_22 ?_
    refine lv_goto (tgt := 31) hx hb dX12_sayHl_25 (by decide) ?_
    exact bX12_sayHl_31 hC  hI (lv_sub hl [] rfl) hf
  replace hf := zif_t q hf
  refine z_ldcSW hC hI 90 (by decide) rfl rfl dX12_sayHl_8 ?_
  refine lv_goto (tgt := 31) hx hb dX12_sayHl_11 (by decide) ?_
  exact bX12_sayHl_31 hC  hI (lv_sub hl [] rfl) hf
set_option maxRecDepth 20000 in
theorem cX12_sayHl_met (st : Nat → Nat) (l : Launch) (D : va_G) (ad : Nat → Nat) (cy : Nat → ClassId) (σ : zSt)  (res : zSt) (hf : fX12_sayHl σ  = some res) (sz : Nat) : zMu st l yX12_sayHl wzX12_sayHl rmX12_sayHl [.ref (ad 0)] D (tM cy) (wM ad cy) sz σ res :=
  zMu.of (cc := cX12_sayHl) (maxL := 1) (ret := none) (by decide) rfl (Nat.le_of_ble_eq_true rfl) (fun p e s m args below meth c hC A hI ls hl => bX12_sayHl hC hI hl hf)
theorem hdX12_sayHl : yX12_sayHl.cls = RX12 ∧ yX12_sayHl.cls ≠ "java/lang/invoke/MethodHandle" ∧ yX12_sayHl.cls ≠ "java/lang/invoke/VarHandle" ∧ (parseMethodDescriptor yX12_sayHl.desc).map (fun d => d.parameters.length) = some 0 := by decide +kernel
def rmX12_sayPlace : Room := { frames := 5, cells := 0, slots := 0, locals := 139 }
def wzX12_sayPlace : List Cond := .code yX12_sayPlace cX12_sayPlace 1 none :: wsL_law
theorem hinX12_sayPlace_X120 : ∀ w ∈ wsX120, w ∈ wzX12_sayPlace := fun w h => List.mem_cons_of_mem _ (inlX12 w h)
def fX12_sayPlace_76  (σ : zSt) (s0 : Int32) : Option (zSt) :=
  zbu (fX12_hex σ s0 2) (fun σ1 =>
  zbu (fX12_say σ1 89) (fun σ2 =>
  some σ2))
def fX12_sayPlace_53  (σ : zSt) (s0 : Nat) : Option (zSt) :=
  zbu (fX12_say σ s0) (fun σ3 =>
  if 0 ≤ (zgi σ3 0 43) then fX12_sayPlace_76 σ3 (zgi σ3 0 43) else
  fX12_sayPlace_76 σ3 (-(zgi σ3 0 43)))
def fX12_sayPlace_33  (σ : zSt) (s0 : Nat) : Option (zSt) :=
  zbu (fX12_say σ s0) (fun σ4 =>
  if 0 ≤ (zgi σ4 0 43) then fX12_sayPlace_53 σ4 88 else
  fX12_sayPlace_53 σ4 87)
def fX12_sayPlace  (σ : zSt)  : Option (zSt) :=
  if (zgi σ 0 42) = 0 then zbu (fX12_say σ 84) (fun σ5 =>
  some σ5) else
  if (zgi σ 0 41) = 1 then fX12_sayPlace_33 σ 85 else
  fX12_sayPlace_33 σ 86
set_option maxRecDepth 20000 in
set_option maxHeartbeats 4000000 in
theorem bX12_sayPlace_76 {st : Nat → Nat} {p : Program} {l : Launch} {e : Env} {s : State} {m : MethodId} {args : Array Value} {below : List Frame} {meth : Method} {c : Code} {D : va_G} {A : Nat → Prop} {ad : Nat → Nat} {cy : Nat → ClassId} (hC : zC p m c cX12_sayPlace 1 s args wzX12_sayPlace RX12 meth none)  {res : zSt} {H : Heap} {locs : List Loc} {σ : zSt} {ls : Array Slot} {s0 : Int32} (hI : zI st D (tM cy) (wM ad cy σ) A s H locs) (hl : lv_has ls 1 [(0, .ref (ad 0))]) (hf : fX12_sayPlace_76  σ s0 = some res) : W p l e rmX12_sayPlace s m args below meth c H locs 0 0 (zQu below args s D (tM cy) (wM ad cy) A res) (F0 m 76 ls [.int s0, .ref (ad 0)]) := by
  have hx := hC.1
  have hb := hC.2.1
  unfold fX12_sayPlace_76 at hf
  refine lv_iconst (v := 2) hx hb dX12_sayPlace_76 (by decide) ?_
  obtain ⟨σ1, g1, hf⟩ := zbu_use hf
  refine z_callVu (As := [.int s0, .int 2]) (rest := []) hC hI (cX12_hex_met st l D ad cy σ s0 2 _ g1) (zgV zw75_8 zw75_9 zw75_10 zw1_5 zw75_11) rfl ⟨rfl, rfl⟩ 2 hdX12_hex ⟨Nat.le_of_ble_eq_true rfl, Nat.le_of_ble_eq_true rfl⟩ rfl rfl (wM_e0 ad cy σ) rfl hl rfl (Nat.le_of_ble_eq_true rfl) dX12_sayPlace_77 ⟨Nat.zero_le _, Nat.zero_le _⟩ (fun H locs hI => ?_)
  refine lv_aload_n hx hb dX12_sayPlace_80 rfl (lv_at hl 0 rfl) ?_
  refine z_ldcSW hC hI 89 (by decide) rfl rfl dX12_sayPlace_81 ?_
  obtain ⟨σ2, g2, hf⟩ := zbu_use hf
  refine z_callVu (As := [.ref (st (100 + 89))]) (rest := []) hC hI (cX12_say_met st l D ad cy σ1 89 _ g2) (zgV zw74_23 zw75_0 zw75_1 zw1_5 zw75_2) rfl ⟨rfl, rfl⟩ 1 hdX12_say ⟨Nat.le_of_ble_eq_true rfl, Nat.le_of_ble_eq_true rfl⟩ rfl rfl (wM_e0 ad cy σ1) rfl hl rfl (Nat.le_of_ble_eq_true rfl) dX12_sayPlace_84 ⟨Nat.zero_le _, Nat.zero_le _⟩ (fun H locs hI => ?_)
  exact z_return hC hI hf dX12_sayPlace_87
set_option maxRecDepth 20000 in
set_option maxHeartbeats 4000000 in
theorem bX12_sayPlace_53 {st : Nat → Nat} {p : Program} {l : Launch} {e : Env} {s : State} {m : MethodId} {args : Array Value} {below : List Frame} {meth : Method} {c : Code} {D : va_G} {A : Nat → Prop} {ad : Nat → Nat} {cy : Nat → ClassId} (hC : zC p m c cX12_sayPlace 1 s args wzX12_sayPlace RX12 meth none)  {res : zSt} {H : Heap} {locs : List Loc} {σ : zSt} {ls : Array Slot} {s0 : Nat} (hI : zI st D (tM cy) (wM ad cy σ) A s H locs) (hl : lv_has ls 1 [(0, .ref (ad 0))]) (hf : fX12_sayPlace_53  σ s0 = some res) : W p l e rmX12_sayPlace s m args below meth c H locs 0 0 (zQu below args s D (tM cy) (wM ad cy) A res) (F0 m 53 ls [.ref (st (100 + s0)), .ref (ad 0)]) := by
  have hx := hC.1
  have hb := hC.2.1
  unfold fX12_sayPlace_53 at hf
  obtain ⟨σ3, g3, hf⟩ := zbu_use hf
  refine z_callVu (As := [.ref (st (100 + s0))]) (rest := []) hC hI (cX12_say_met st l D ad cy σ s0 _ g3) (zgV zw74_23 zw75_0 zw75_1 zw1_5 zw75_2) rfl ⟨rfl, rfl⟩ 1 hdX12_say ⟨Nat.le_of_ble_eq_true rfl, Nat.le_of_ble_eq_true rfl⟩ rfl rfl (wM_e0 ad cy σ) rfl hl rfl (Nat.le_of_ble_eq_true rfl) dX12_sayPlace_53 ⟨Nat.zero_le _, Nat.zero_le _⟩ (fun H locs hI => ?_)
  refine lv_aload_n hx hb dX12_sayPlace_56 rfl (lv_at hl 0 rfl) ?_
  refine lv_aload_n hx hb dX12_sayPlace_57 rfl (lv_at hl 0 rfl) ?_
  refine z_get hC hI hinX12_sayPlace_X120 0 (wM_e0 ad cy σ3) rfl 43 (by decide) (List.mem_cons_of_mem _ zw74_22) rfl dX12_sayPlace_58 ?_
  refine lv_if_ge (tgt := 72) hx hb dX12_sayPlace_61 (by decide) (fun q => ?_) (fun q => ?_)
  · replace hf := zif_t q hf
    refine lv_aload_n hx hb dX12_sayPlace_72 rfl (lv_at hl 0 rfl) ?_
    refine z_get hC hI hinX12_sayPlace_X120 0 (wM_e0 ad cy σ3) rfl 43 (by decide) (List.mem_cons_of_mem _ zw74_22) rfl dX12_sayPlace_73 ?_
    exact bX12_sayPlace_76 hC  hI hl hf
  replace hf := zif_f q hf
  refine lv_aload_n hx hb dX12_sayPlace_64 rfl (lv_at hl 0 rfl) ?_
  refine z_get hC hI hinX12_sayPlace_X120 0 (wM_e0 ad cy σ3) rfl 43 (by decide) (List.mem_cons_of_mem _ zw74_22) rfl dX12_sayPlace_65 ?_
  refine lv_ineg hx hb dX12_sayPlace_68 ?_
  refine lv_goto (tgt := 76) hx hb dX12_sayPlace_69 (by decide) ?_
  exact bX12_sayPlace_76 hC  hI hl hf
set_option maxRecDepth 20000 in
set_option maxHeartbeats 4000000 in
theorem bX12_sayPlace_33 {st : Nat → Nat} {p : Program} {l : Launch} {e : Env} {s : State} {m : MethodId} {args : Array Value} {below : List Frame} {meth : Method} {c : Code} {D : va_G} {A : Nat → Prop} {ad : Nat → Nat} {cy : Nat → ClassId} (hC : zC p m c cX12_sayPlace 1 s args wzX12_sayPlace RX12 meth none)  {res : zSt} {H : Heap} {locs : List Loc} {σ : zSt} {ls : Array Slot} {s0 : Nat} (hI : zI st D (tM cy) (wM ad cy σ) A s H locs) (hl : lv_has ls 1 [(0, .ref (ad 0))]) (hf : fX12_sayPlace_33  σ s0 = some res) : W p l e rmX12_sayPlace s m args below meth c H locs 0 0 (zQu below args s D (tM cy) (wM ad cy) A res) (F0 m 33 ls [.ref (st (100 + s0)), .ref (ad 0)]) := by
  have hx := hC.1
  have hb := hC.2.1
  unfold fX12_sayPlace_33 at hf
  obtain ⟨σ4, g4, hf⟩ := zbu_use hf
  refine z_callVu (As := [.ref (st (100 + s0))]) (rest := []) hC hI (cX12_say_met st l D ad cy σ s0 _ g4) (zgV zw74_23 zw75_0 zw75_1 zw1_5 zw75_2) rfl ⟨rfl, rfl⟩ 1 hdX12_say ⟨Nat.le_of_ble_eq_true rfl, Nat.le_of_ble_eq_true rfl⟩ rfl rfl (wM_e0 ad cy σ) rfl hl rfl (Nat.le_of_ble_eq_true rfl) dX12_sayPlace_33 ⟨Nat.zero_le _, Nat.zero_le _⟩ (fun H locs hI => ?_)
  refine lv_aload_n hx hb dX12_sayPlace_36 rfl (lv_at hl 0 rfl) ?_
  refine lv_aload_n hx hb dX12_sayPlace_37 rfl (lv_at hl 0 rfl) ?_
  refine z_get hC hI hinX12_sayPlace_X120 0 (wM_e0 ad cy σ4) rfl 43 (by decide) (List.mem_cons_of_mem _ zw74_22) rfl dX12_sayPlace_38 ?_
  refine lv_if_ge (tgt := 50) hx hb dX12_sayPlace_41 (by decide) (fun q => ?_) (fun q => ?_)
  · replace hf := zif_t q hf
    refine z_ldcSW hC hI 88 (by decide) rfl rfl dX12_sayPlace_50 ?_
    exact bX12_sayPlace_53 hC  hI hl hf
  replace hf := zif_f q hf
  refine z_ldcSW hC hI 87 (by decide) rfl rfl dX12_sayPlace_44 ?_
  refine lv_goto (tgt := 53) hx hb dX12_sayPlace_47 (by decide) ?_
  exact bX12_sayPlace_53 hC  hI hl hf
set_option maxRecDepth 20000 in
set_option maxHeartbeats 4000000 in
theorem bX12_sayPlace {st : Nat → Nat} {p : Program} {l : Launch} {e : Env} {s : State} {m : MethodId} {args : Array Value} {below : List Frame} {meth : Method} {c : Code} {D : va_G} {A : Nat → Prop} {ad : Nat → Nat} {cy : Nat → ClassId} (hC : zC p m c cX12_sayPlace 1 s args wzX12_sayPlace RX12 meth none)  {res : zSt} {H : Heap} {locs : List Loc} {σ : zSt} {ls : Array Slot}  (hI : zI st D (tM cy) (wM ad cy σ) A s H locs) (hl : lv_has ls 1 [(0, .ref (ad 0))]) (hf : fX12_sayPlace  σ  = some res) : W p l e rmX12_sayPlace s m args below meth c H locs 0 0 (zQu below args s D (tM cy) (wM ad cy) A res) (F0 m 0 ls []) := by
  have hx := hC.1
  have hb := hC.2.1
  unfold fX12_sayPlace at hf
  refine lv_aload_n hx hb dX12_sayPlace_0 rfl (lv_at hl 0 rfl) ?_
  refine z_get hC hI hinX12_sayPlace_X120 0 (wM_e0 ad cy σ) rfl 42 (by decide) (List.mem_cons_of_mem _ zw74_13) rfl dX12_sayPlace_1 ?_
  refine lv_if_ne (tgt := 15) hx hb dX12_sayPlace_4 (by decide) (fun q => ?_) (fun q => ?_)
  · replace hf := zif_f q hf
    refine lv_aload_n hx hb dX12_sayPlace_15 rfl (lv_at hl 0 rfl) ?_
    refine lv_aload_n hx hb dX12_sayPlace_16 rfl (lv_at hl 0 rfl) ?_
    refine z_get hC hI hinX12_sayPlace_X120 0 (wM_e0 ad cy σ) rfl 41 (by decide) (List.mem_cons_of_mem _ zw74_12) rfl dX12_sayPlace_17 ?_
    refine lv_iconst (v := 1) hx hb dX12_sayPlace_20 (by decide) ?_
    refine lv_icmp_ne (tgt := 30) hx hb dX12_sayPlace_21 (by decide) (fun q => ?_) (fun q => ?_)
    · replace hf := zif_f q hf
      refine z_ldcSW hC hI 86 (by decide) rfl rfl dX12_sayPlace_30 ?_
      exact bX12_sayPlace_33 hC  hI hl hf
    replace hf := zif_t q hf
    refine z_ldcSW hC hI 85 (by decide) rfl rfl dX12_sayPlace_24 ?_
    refine lv_goto (tgt := 33) hx hb dX12_sayPlace_27 (by decide) ?_
    exact bX12_sayPlace_33 hC  hI hl hf
  replace hf := zif_t q hf
  refine lv_aload_n hx hb dX12_sayPlace_7 rfl (lv_at hl 0 rfl) ?_
  refine z_ldcSW hC hI 84 (by decide) rfl rfl dX12_sayPlace_8 ?_
  obtain ⟨σ5, g5, hf⟩ := zbu_use hf
  refine z_callVu (As := [.ref (st (100 + 84))]) (rest := []) hC hI (cX12_say_met st l D ad cy σ 84 _ g5) (zgV zw74_23 zw75_0 zw75_1 zw1_5 zw75_2) rfl ⟨rfl, rfl⟩ 1 hdX12_say ⟨Nat.le_of_ble_eq_true rfl, Nat.le_of_ble_eq_true rfl⟩ rfl rfl (wM_e0 ad cy σ) rfl hl rfl (Nat.le_of_ble_eq_true rfl) dX12_sayPlace_11 ⟨Nat.zero_le _, Nat.zero_le _⟩ (fun H locs hI => ?_)
  exact z_return hC hI hf dX12_sayPlace_14
set_option maxRecDepth 20000 in
theorem cX12_sayPlace_met (st : Nat → Nat) (l : Launch) (D : va_G) (ad : Nat → Nat) (cy : Nat → ClassId) (σ : zSt)  (res : zSt) (hf : fX12_sayPlace σ  = some res) (sz : Nat) : zMu st l yX12_sayPlace wzX12_sayPlace rmX12_sayPlace [.ref (ad 0)] D (tM cy) (wM ad cy) sz σ res :=
  zMu.of (cc := cX12_sayPlace) (maxL := 1) (ret := none) (by decide) rfl (Nat.le_of_ble_eq_true rfl) (fun p e s m args below meth c hC A hI ls hl => bX12_sayPlace hC hI hl hf)
theorem hdX12_sayPlace : yX12_sayPlace.cls = RX12 ∧ yX12_sayPlace.cls ≠ "java/lang/invoke/MethodHandle" ∧ yX12_sayPlace.cls ≠ "java/lang/invoke/VarHandle" ∧ (parseMethodDescriptor yX12_sayPlace.desc).map (fun d => d.parameters.length) = some 0 := by decide +kernel
def rmX12_sayR : Room := { frames := 6, cells := 0, slots := 0, locals := 159 }
def wzX12_sayR : List Cond := .code yX12_sayR cX12_sayR 2 none :: wsL_law
theorem hinX12_sayR_X120 : ∀ w ∈ wsX120, w ∈ wzX12_sayR := fun w h => List.mem_cons_of_mem _ (inlX12 w h)
def fX12_sayR_108  (σ : zSt) (s0 : Nat) : Option (zSt) :=
  zbu (fX12_say σ s0) (fun σ1 =>
  some σ1)
def fX12_sayR_39  (σ : zSt) (x1 : Int32) : Option (zSt) :=
  if x1 = 0 then fX12_sayR_108 σ 93 else
  if x1 = 1 then fX12_sayR_108 σ 94 else
  if x1 = 2 then fX12_sayR_108 σ 95 else
  if x1 = 3 then fX12_sayR_108 σ 96 else
  if x1 = 4 then fX12_sayR_108 σ 97 else
  if x1 = 5 then fX12_sayR_108 σ 98 else
  fX12_sayR_108 σ 99
def fX12_sayR_35  (σ : zSt) (x1 : Int32) : Option (zSt) :=
  zbu (fX12_sayHl σ ) (fun σ2 =>
  fX12_sayR_39 σ2 x1)
def fX12_sayR  (σ : zSt) (x1 : Int32) : Option (zSt) :=
  if x1 = 6 then zbu (fX12_sayPlace σ ) (fun σ3 =>
  some σ3) else
  if (zgi σ 0 41) ≤ 0 then fX12_sayR_39 σ x1 else
  if (zgi σ 0 42) = 0 then if x1 = 4 then fX12_sayR_35 σ x1 else
  if x1 = 5 then fX12_sayR_35 σ x1 else
  fX12_sayR_39 σ x1 else
  fX12_sayR_39 σ x1
set_option maxRecDepth 20000 in
set_option maxHeartbeats 4000000 in
theorem bX12_sayR_108 {st : Nat → Nat} {p : Program} {l : Launch} {e : Env} {s : State} {m : MethodId} {args : Array Value} {below : List Frame} {meth : Method} {c : Code} {D : va_G} {A : Nat → Prop} {ad : Nat → Nat} {cy : Nat → ClassId} (hC : zC p m c cX12_sayR 2 s args wzX12_sayR RX12 meth none)  {res : zSt} {H : Heap} {locs : List Loc} {σ : zSt} {ls : Array Slot} {s0 : Nat} (hI : zI st D (tM cy) (wM ad cy σ) A s H locs) (hl : lv_has ls 2 []) (hf : fX12_sayR_108  σ s0 = some res) : W p l e rmX12_sayR s m args below meth c H locs 0 0 (zQu below args s D (tM cy) (wM ad cy) A res) (F0 m 108 ls [.ref (st (100 + s0)), .ref (ad 0)]) := by
  have hx := hC.1
  have hb := hC.2.1
  unfold fX12_sayR_108 at hf
  obtain ⟨σ1, g1, hf⟩ := zbu_use hf
  refine z_callVu (As := [.ref (st (100 + s0))]) (rest := []) hC hI (cX12_say_met st l D ad cy σ s0 _ g1) (zgV zw74_23 zw75_0 zw75_1 zw1_5 zw75_2) rfl ⟨rfl, rfl⟩ 1 hdX12_say ⟨Nat.le_of_ble_eq_true rfl, Nat.le_of_ble_eq_true rfl⟩ rfl rfl (wM_e0 ad cy σ) rfl hl rfl (Nat.le_of_ble_eq_true rfl) dX12_sayR_108 ⟨Nat.zero_le _, Nat.zero_le _⟩ (fun H locs hI => ?_)
  exact z_return hC hI hf dX12_sayR_111
set_option maxRecDepth 20000 in
set_option maxHeartbeats 4000000 in
theorem bX12_sayR_39 {st : Nat → Nat} {p : Program} {l : Launch} {e : Env} {s : State} {m : MethodId} {args : Array Value} {below : List Frame} {meth : Method} {c : Code} {D : va_G} {A : Nat → Prop} {ad : Nat → Nat} {cy : Nat → ClassId} (hC : zC p m c cX12_sayR 2 s args wzX12_sayR RX12 meth none)  {res : zSt} {H : Heap} {locs : List Loc} {σ : zSt} {ls : Array Slot} {x1 : Int32} (hI : zI st D (tM cy) (wM ad cy σ) A s H locs) (hl : lv_has ls 2 [(0, .ref (ad 0)), (1, .int x1)]) (hf : fX12_sayR_39  σ x1 = some res) : W p l e rmX12_sayR s m args below meth c H locs 0 0 (zQu below args s D (tM cy) (wM ad cy) A res) (F0 m 39 ls []) := by
  have hx := hC.1
  have hb := hC.2.1
  unfold fX12_sayR_39 at hf
  refine lv_aload_n hx hb dX12_sayR_39 rfl (lv_at hl 0 rfl) ?_
  refine lv_iload_n hx hb dX12_sayR_40 rfl (lv_at hl 1 rfl) ?_
  refine lv_if_ne (tgt := 50) hx hb dX12_sayR_41 (by decide) (fun q => ?_) (fun q => ?_)
  · replace hf := zif_f q hf
    refine lv_iload_n hx hb dX12_sayR_50 rfl (lv_at hl 1 rfl) ?_
    refine lv_iconst (v := 1) hx hb dX12_sayR_51 (by decide) ?_
    refine lv_icmp_ne (tgt := 61) hx hb dX12_sayR_52 (by decide) (fun q => ?_) (fun q => ?_)
    · replace hf := zif_f q hf
      refine lv_iload_n hx hb dX12_sayR_61 rfl (lv_at hl 1 rfl) ?_
      refine lv_iconst (v := 2) hx hb dX12_sayR_62 (by decide) ?_
      refine lv_icmp_ne (tgt := 72) hx hb dX12_sayR_63 (by decide) (fun q => ?_) (fun q => ?_)
      · replace hf := zif_f q hf
        refine lv_iload_n hx hb dX12_sayR_72 rfl (lv_at hl 1 rfl) ?_
        refine lv_iconst (v := 3) hx hb dX12_sayR_73 (by decide) ?_
        refine lv_icmp_ne (tgt := 83) hx hb dX12_sayR_74 (by decide) (fun q => ?_) (fun q => ?_)
        · replace hf := zif_f q hf
          refine lv_iload_n hx hb dX12_sayR_83 rfl (lv_at hl 1 rfl) ?_
          refine lv_iconst (v := 4) hx hb dX12_sayR_84 (by decide) ?_
          refine lv_icmp_ne (tgt := 94) hx hb dX12_sayR_85 (by decide) (fun q => ?_) (fun q => ?_)
          · replace hf := zif_f q hf
            refine lv_iload_n hx hb dX12_sayR_94 rfl (lv_at hl 1 rfl) ?_
            refine lv_iconst (v := 5) hx hb dX12_sayR_95 (by decide) ?_
            refine lv_icmp_ne (tgt := 105) hx hb dX12_sayR_96 (by decide) (fun q => ?_) (fun q => ?_)
            · replace hf := zif_f q hf
              refine z_ldcSW hC hI 99 (by decide) rfl rfl dX12_sayR_105 ?_
              exact bX12_sayR_108 hC  hI (lv_sub hl [] rfl) hf
            replace hf := zif_t q hf
            refine z_ldcSW hC hI 98 (by decide) rfl rfl dX12_sayR_99 ?_
            refine lv_goto (tgt := 108) hx hb dX12_sayR_102 (by decide) ?_
            exact bX12_sayR_108 hC  hI (lv_sub hl [] rfl) hf
          replace hf := zif_t q hf
          refine z_ldcSW hC hI 97 (by decide) rfl rfl dX12_sayR_88 ?_
          refine lv_goto (tgt := 108) hx hb dX12_sayR_91 (by decide) ?_
          exact bX12_sayR_108 hC  hI (lv_sub hl [] rfl) hf
        replace hf := zif_t q hf
        refine z_ldcSW hC hI 96 (by decide) rfl rfl dX12_sayR_77 ?_
        refine lv_goto (tgt := 108) hx hb dX12_sayR_80 (by decide) ?_
        exact bX12_sayR_108 hC  hI (lv_sub hl [] rfl) hf
      replace hf := zif_t q hf
      refine z_ldcSW hC hI 95 (by decide) rfl rfl dX12_sayR_66 ?_
      refine lv_goto (tgt := 108) hx hb dX12_sayR_69 (by decide) ?_
      exact bX12_sayR_108 hC  hI (lv_sub hl [] rfl) hf
    replace hf := zif_t q hf
    refine z_ldcSW hC hI 94 (by decide) rfl rfl dX12_sayR_55 ?_
    refine lv_goto (tgt := 108) hx hb dX12_sayR_58 (by decide) ?_
    exact bX12_sayR_108 hC  hI (lv_sub hl [] rfl) hf
  replace hf := zif_t q hf
  refine z_ldcSW hC hI 93 (by decide) rfl rfl dX12_sayR_44 ?_
  refine lv_goto (tgt := 108) hx hb dX12_sayR_47 (by decide) ?_
  exact bX12_sayR_108 hC  hI (lv_sub hl [] rfl) hf
set_option maxRecDepth 20000 in
set_option maxHeartbeats 4000000 in
theorem bX12_sayR_35 {st : Nat → Nat} {p : Program} {l : Launch} {e : Env} {s : State} {m : MethodId} {args : Array Value} {below : List Frame} {meth : Method} {c : Code} {D : va_G} {A : Nat → Prop} {ad : Nat → Nat} {cy : Nat → ClassId} (hC : zC p m c cX12_sayR 2 s args wzX12_sayR RX12 meth none)  {res : zSt} {H : Heap} {locs : List Loc} {σ : zSt} {ls : Array Slot} {x1 : Int32} (hI : zI st D (tM cy) (wM ad cy σ) A s H locs) (hl : lv_has ls 2 [(0, .ref (ad 0)), (1, .int x1)]) (hf : fX12_sayR_35  σ x1 = some res) : W p l e rmX12_sayR s m args below meth c H locs 0 0 (zQu below args s D (tM cy) (wM ad cy) A res) (F0 m 35 ls []) := by
  have hx := hC.1
  have hb := hC.2.1
  unfold fX12_sayR_35 at hf
  refine lv_aload_n hx hb dX12_sayR_35 rfl (lv_at hl 0 rfl) ?_
  obtain ⟨σ2, g2, hf⟩ := zbu_use hf
  refine z_callVu (As := []) (rest := []) hC hI (cX12_sayHl_met st l D ad cy σ  _ g2) (zgV zw75_20 zw75_21 zw75_22 zw1_5 zw75_23) rfl ⟨rfl, rfl⟩ 0 hdX12_sayHl ⟨Nat.le_of_ble_eq_true rfl, Nat.le_of_ble_eq_true rfl⟩ rfl rfl (wM_e0 ad cy σ) rfl hl rfl (Nat.le_of_ble_eq_true rfl) dX12_sayR_36 ⟨Nat.zero_le _, Nat.zero_le _⟩ (fun H locs hI => ?_)
  exact bX12_sayR_39 hC  hI hl hf
set_option maxRecDepth 20000 in
set_option maxHeartbeats 4000000 in
theorem bX12_sayR {st : Nat → Nat} {p : Program} {l : Launch} {e : Env} {s : State} {m : MethodId} {args : Array Value} {below : List Frame} {meth : Method} {c : Code} {D : va_G} {A : Nat → Prop} {ad : Nat → Nat} {cy : Nat → ClassId} (hC : zC p m c cX12_sayR 2 s args wzX12_sayR RX12 meth none)  {res : zSt} {H : Heap} {locs : List Loc} {σ : zSt} {ls : Array Slot} {x1 : Int32} (hI : zI st D (tM cy) (wM ad cy σ) A s H locs) (hl : lv_has ls 2 [(0, .ref (ad 0)), (1, .int x1)]) (hf : fX12_sayR  σ x1 = some res) : W p l e rmX12_sayR s m args below meth c H locs 0 0 (zQu below args s D (tM cy) (wM ad cy) A res) (F0 m 0 ls []) := by
  have hx := hC.1
  have hb := hC.2.1
  unfold fX12_sayR at hf
  refine lv_iload_n hx hb dX12_sayR_0 rfl (lv_at hl 1 rfl) ?_
  refine lv_bipush (v := 6) hx hb dX12_sayR_1 (by decide) ?_
  refine lv_icmp_ne (tgt := 11) hx hb dX12_sayR_3 (by decide) (fun q => ?_) (fun q => ?_)
  · replace hf := zif_f q hf
    refine lv_aload_n hx hb dX12_sayR_11 rfl (lv_at hl 0 rfl) ?_
    refine z_get hC hI hinX12_sayR_X120 0 (wM_e0 ad cy σ) rfl 41 (by decide) (List.mem_cons_of_mem _ zw74_12) rfl dX12_sayR_12 ?_
    refine lv_if_le (tgt := 39) hx hb dX12_sayR_15 (by decide) (fun q => ?_) (fun q => ?_)
    · replace hf := zif_t q hf
      exact bX12_sayR_39 hC  hI hl hf
    replace hf := zif_f q hf
    refine lv_aload_n hx hb dX12_sayR_18 rfl (lv_at hl 0 rfl) ?_
    refine z_get hC hI hinX12_sayR_X120 0 (wM_e0 ad cy σ) rfl 42 (by decide) (List.mem_cons_of_mem _ zw74_13) rfl dX12_sayR_19 ?_
    refine lv_if_ne (tgt := 39) hx hb dX12_sayR_22 (by decide) (fun q => ?_) (fun q => ?_)
    · replace hf := zif_f q hf
      exact bX12_sayR_39 hC  hI hl hf
    replace hf := zif_t q hf
    refine lv_iload_n hx hb dX12_sayR_25 rfl (lv_at hl 1 rfl) ?_
    refine lv_iconst (v := 4) hx hb dX12_sayR_26 (by decide) ?_
    refine lv_icmp_eq (tgt := 35) hx hb dX12_sayR_27 (by decide) (fun q => ?_) (fun q => ?_)
    · replace hf := zif_t q hf
      exact bX12_sayR_35 hC  hI hl hf
    replace hf := zif_f q hf
    refine lv_iload_n hx hb dX12_sayR_30 rfl (lv_at hl 1 rfl) ?_
    refine lv_iconst (v := 5) hx hb dX12_sayR_31 (by decide) ?_
    refine lv_icmp_ne (tgt := 39) hx hb dX12_sayR_32 (by decide) (fun q => ?_) (fun q => ?_)
    · replace hf := zif_f q hf
      exact bX12_sayR_39 hC  hI hl hf
    replace hf := zif_t q hf
    exact bX12_sayR_35 hC  hI hl hf
  replace hf := zif_t q hf
  refine lv_aload_n hx hb dX12_sayR_6 rfl (lv_at hl 0 rfl) ?_
  obtain ⟨σ3, g3, hf⟩ := zbu_use hf
  refine z_callVu (As := []) (rest := []) hC hI (cX12_sayPlace_met st l D ad cy σ  _ g3) (zgV zw75_16 zw75_17 zw75_18 zw1_5 zw75_19) rfl ⟨rfl, rfl⟩ 0 hdX12_sayPlace ⟨Nat.le_of_ble_eq_true rfl, Nat.le_of_ble_eq_true rfl⟩ rfl rfl (wM_e0 ad cy σ) rfl hl rfl (Nat.le_of_ble_eq_true rfl) dX12_sayR_7 ⟨Nat.zero_le _, Nat.zero_le _⟩ (fun H locs hI => ?_)
  exact z_return hC hI hf dX12_sayR_10
set_option maxRecDepth 20000 in
theorem cX12_sayR_met (st : Nat → Nat) (l : Launch) (D : va_G) (ad : Nat → Nat) (cy : Nat → ClassId) (σ : zSt) (x1 : Int32) (res : zSt) (hf : fX12_sayR σ x1 = some res) (sz : Nat) : zMu st l yX12_sayR wzX12_sayR rmX12_sayR [.ref (ad 0), .int x1] D (tM cy) (wM ad cy) sz σ res :=
  zMu.of (cc := cX12_sayR) (maxL := 2) (ret := none) (by decide) rfl (Nat.le_of_ble_eq_true rfl) (fun p e s m args below meth c hC A hI ls hl => bX12_sayR hC hI hl hf)
theorem hdX12_sayR : yX12_sayR.cls = RX12 ∧ yX12_sayR.cls ≠ "java/lang/invoke/MethodHandle" ∧ yX12_sayR.cls ≠ "java/lang/invoke/VarHandle" ∧ (parseMethodDescriptor yX12_sayR.desc).map (fun d => d.parameters.length) = some 1 := by decide +kernel
def rmX12_sayRp : Room := { frames := 6, cells := 0, slots := 0, locals := 159 }
def wzX12_sayRp : List Cond := .code yX12_sayRp cX12_sayRp 3 none :: wsL_law
def fX12_sayRp_50  (σ : zSt)  : Option (zSt) :=
  some σ
def fX12_sayRp_47  (σ : zSt) (s0 : Nat) : Option (zSt) :=
  zbu (fX12_say σ s0) (fun σ1 =>
  fX12_sayRp_50 σ1)
def fX12_sayRp  (σ : zSt) (x1 : Int32) (x2 : Int32) : Option (zSt) :=
  if x1 = 2 then zbu (fX12_sayHl σ ) (fun σ2 =>
  fX12_sayRp_50 σ2) else
  if x1 = 0 then fX12_sayRp_47 σ 112 else
  if x1 = 1 then fX12_sayRp_47 σ 113 else
  if x2 = 0 then fX12_sayRp_47 σ 115 else
  fX12_sayRp_47 σ 114
set_option maxRecDepth 20000 in
set_option maxHeartbeats 4000000 in
theorem bX12_sayRp_50 {st : Nat → Nat} {p : Program} {l : Launch} {e : Env} {s : State} {m : MethodId} {args : Array Value} {below : List Frame} {meth : Method} {c : Code} {D : va_G} {A : Nat → Prop} {ad : Nat → Nat} {cy : Nat → ClassId} (hC : zC p m c cX12_sayRp 3 s args wzX12_sayRp RX12 meth none)  {res : zSt} {H : Heap} {locs : List Loc} {σ : zSt} {ls : Array Slot}  (hI : zI st D (tM cy) (wM ad cy σ) A s H locs) (hl : lv_has ls 3 []) (hf : fX12_sayRp_50  σ  = some res) : W p l e rmX12_sayRp s m args below meth c H locs 0 0 (zQu below args s D (tM cy) (wM ad cy) A res) (F0 m 50 ls []) := by
  have hx := hC.1
  have hb := hC.2.1
  unfold fX12_sayRp_50 at hf
  exact z_return hC hI hf dX12_sayRp_50
set_option maxRecDepth 20000 in
set_option maxHeartbeats 4000000 in
theorem bX12_sayRp_47 {st : Nat → Nat} {p : Program} {l : Launch} {e : Env} {s : State} {m : MethodId} {args : Array Value} {below : List Frame} {meth : Method} {c : Code} {D : va_G} {A : Nat → Prop} {ad : Nat → Nat} {cy : Nat → ClassId} (hC : zC p m c cX12_sayRp 3 s args wzX12_sayRp RX12 meth none)  {res : zSt} {H : Heap} {locs : List Loc} {σ : zSt} {ls : Array Slot} {s0 : Nat} (hI : zI st D (tM cy) (wM ad cy σ) A s H locs) (hl : lv_has ls 3 []) (hf : fX12_sayRp_47  σ s0 = some res) : W p l e rmX12_sayRp s m args below meth c H locs 0 0 (zQu below args s D (tM cy) (wM ad cy) A res) (F0 m 47 ls [.ref (st (100 + s0)), .ref (ad 0)]) := by
  have hx := hC.1
  have hb := hC.2.1
  unfold fX12_sayRp_47 at hf
  obtain ⟨σ1, g1, hf⟩ := zbu_use hf
  refine z_callVu (As := [.ref (st (100 + s0))]) (rest := []) hC hI (cX12_say_met st l D ad cy σ s0 _ g1) (zgV zw74_23 zw75_0 zw75_1 zw1_5 zw75_2) rfl ⟨rfl, rfl⟩ 1 hdX12_say ⟨Nat.le_of_ble_eq_true rfl, Nat.le_of_ble_eq_true rfl⟩ rfl rfl (wM_e0 ad cy σ) rfl hl rfl (Nat.le_of_ble_eq_true rfl) dX12_sayRp_47 ⟨Nat.zero_le _, Nat.zero_le _⟩ (fun H locs hI => ?_)
  exact bX12_sayRp_50 hC  hI hl hf
set_option maxRecDepth 20000 in
set_option maxHeartbeats 4000000 in
theorem bX12_sayRp {st : Nat → Nat} {p : Program} {l : Launch} {e : Env} {s : State} {m : MethodId} {args : Array Value} {below : List Frame} {meth : Method} {c : Code} {D : va_G} {A : Nat → Prop} {ad : Nat → Nat} {cy : Nat → ClassId} (hC : zC p m c cX12_sayRp 3 s args wzX12_sayRp RX12 meth none)  {res : zSt} {H : Heap} {locs : List Loc} {σ : zSt} {ls : Array Slot} {x1 : Int32} {x2 : Int32} (hI : zI st D (tM cy) (wM ad cy σ) A s H locs) (hl : lv_has ls 3 [(0, .ref (ad 0)), (1, .int x1), (2, .int x2)]) (hf : fX12_sayRp  σ x1 x2 = some res) : W p l e rmX12_sayRp s m args below meth c H locs 0 0 (zQu below args s D (tM cy) (wM ad cy) A res) (F0 m 0 ls []) := by
  have hx := hC.1
  have hb := hC.2.1
  unfold fX12_sayRp at hf
  refine lv_iload_n hx hb dX12_sayRp_0 rfl (lv_at hl 1 rfl) ?_
  refine lv_iconst (v := 2) hx hb dX12_sayRp_1 (by decide) ?_
  refine lv_icmp_ne (tgt := 12) hx hb dX12_sayRp_2 (by decide) (fun q => ?_) (fun q => ?_)
  · replace hf := zif_f q hf
    refine lv_aload_n hx hb dX12_sayRp_12 rfl (lv_at hl 0 rfl) ?_
    refine lv_iload_n hx hb dX12_sayRp_13 rfl (lv_at hl 1 rfl) ?_
    refine lv_if_ne (tgt := 23) hx hb dX12_sayRp_14 (by decide) (fun q => ?_) (fun q => ?_)
    · replace hf := zif_f q hf
      refine lv_iload_n hx hb dX12_sayRp_23 rfl (lv_at hl 1 rfl) ?_
      refine lv_iconst (v := 1) hx hb dX12_sayRp_24 (by decide) ?_
      refine lv_icmp_ne (tgt := 34) hx hb dX12_sayRp_25 (by decide) (fun q => ?_) (fun q => ?_)
      · replace hf := zif_f q hf
        refine lv_iload_n hx hb dX12_sayRp_34 rfl (lv_at hl 2 rfl) ?_
        refine lv_if_eq (tgt := 44) hx hb dX12_sayRp_35 (by decide) (fun q => ?_) (fun q => ?_)
        · replace hf := zif_t q hf
          refine z_ldcSW hC hI 115 (by decide) rfl rfl dX12_sayRp_44 ?_
          exact bX12_sayRp_47 hC  hI (lv_sub hl [] rfl) hf
        replace hf := zif_f q hf
        refine z_ldcSW hC hI 114 (by decide) rfl rfl dX12_sayRp_38 ?_
        refine lv_goto (tgt := 47) hx hb dX12_sayRp_41 (by decide) ?_
        exact bX12_sayRp_47 hC  hI (lv_sub hl [] rfl) hf
      replace hf := zif_t q hf
      refine z_ldcSW hC hI 113 (by decide) rfl rfl dX12_sayRp_28 ?_
      refine lv_goto (tgt := 47) hx hb dX12_sayRp_31 (by decide) ?_
      exact bX12_sayRp_47 hC  hI (lv_sub hl [] rfl) hf
    replace hf := zif_t q hf
    refine z_ldcSW hC hI 112 (by decide) rfl rfl dX12_sayRp_17 ?_
    refine lv_goto (tgt := 47) hx hb dX12_sayRp_20 (by decide) ?_
    exact bX12_sayRp_47 hC  hI (lv_sub hl [] rfl) hf
  replace hf := zif_t q hf
  refine lv_aload_n hx hb dX12_sayRp_5 rfl (lv_at hl 0 rfl) ?_
  obtain ⟨σ2, g2, hf⟩ := zbu_use hf
  refine z_callVu (As := []) (rest := []) hC hI (cX12_sayHl_met st l D ad cy σ  _ g2) (zgV zw75_20 zw75_21 zw75_22 zw1_5 zw75_23) rfl ⟨rfl, rfl⟩ 0 hdX12_sayHl ⟨Nat.le_of_ble_eq_true rfl, Nat.le_of_ble_eq_true rfl⟩ rfl rfl (wM_e0 ad cy σ) rfl hl rfl (Nat.le_of_ble_eq_true rfl) dX12_sayRp_6 ⟨Nat.zero_le _, Nat.zero_le _⟩ (fun H locs hI => ?_)
  refine lv_goto (tgt := 50) hx hb dX12_sayRp_9 (by decide) ?_
  exact bX12_sayRp_50 hC  hI (lv_sub hl [] rfl) hf
set_option maxRecDepth 20000 in
theorem cX12_sayRp_met (st : Nat → Nat) (l : Launch) (D : va_G) (ad : Nat → Nat) (cy : Nat → ClassId) (σ : zSt) (x1 : Int32) (x2 : Int32) (res : zSt) (hf : fX12_sayRp σ x1 x2 = some res) (sz : Nat) : zMu st l yX12_sayRp wzX12_sayRp rmX12_sayRp [.ref (ad 0), .int x1, .int x2] D (tM cy) (wM ad cy) sz σ res :=
  zMu.of (cc := cX12_sayRp) (maxL := 3) (ret := none) (by decide) rfl (Nat.le_of_ble_eq_true rfl) (fun p e s m args below meth c hC A hI ls hl => bX12_sayRp hC hI hl hf)
theorem hdX12_sayRp : yX12_sayRp.cls = RX12 ∧ yX12_sayRp.cls ≠ "java/lang/invoke/MethodHandle" ∧ yX12_sayRp.cls ≠ "java/lang/invoke/VarHandle" ∧ (parseMethodDescriptor yX12_sayRp.desc).map (fun d => d.parameters.length) = some 2 := by decide +kernel
def rmX12_sayCc : Room := { frames := 5, cells := 0, slots := 0, locals := 139 }
def wzX12_sayCc : List Cond := .code yX12_sayCc cX12_sayCc 2 none :: wsL_law
def fX12_sayCc_81  (σ : zSt) (s0 : Nat) : Option (zSt) :=
  zbu (fX12_say σ s0) (fun σ1 =>
  some σ1)
def fX12_sayCc  (σ : zSt) (x1 : Int32) : Option (zSt) :=
  if x1 = 0 then fX12_sayCc_81 σ 103 else
  if x1 = 1 then fX12_sayCc_81 σ 104 else
  if x1 = 2 then fX12_sayCc_81 σ 105 else
  if x1 = 3 then fX12_sayCc_81 σ 94 else
  if x1 = 4 then fX12_sayCc_81 σ 106 else
  if x1 = 5 then fX12_sayCc_81 σ 107 else
  if x1 = 6 then fX12_sayCc_81 σ 108 else
  fX12_sayCc_81 σ 109
set_option maxRecDepth 20000 in
set_option maxHeartbeats 4000000 in
theorem bX12_sayCc_81 {st : Nat → Nat} {p : Program} {l : Launch} {e : Env} {s : State} {m : MethodId} {args : Array Value} {below : List Frame} {meth : Method} {c : Code} {D : va_G} {A : Nat → Prop} {ad : Nat → Nat} {cy : Nat → ClassId} (hC : zC p m c cX12_sayCc 2 s args wzX12_sayCc RX12 meth none)  {res : zSt} {H : Heap} {locs : List Loc} {σ : zSt} {ls : Array Slot} {s0 : Nat} (hI : zI st D (tM cy) (wM ad cy σ) A s H locs) (hl : lv_has ls 2 []) (hf : fX12_sayCc_81  σ s0 = some res) : W p l e rmX12_sayCc s m args below meth c H locs 0 0 (zQu below args s D (tM cy) (wM ad cy) A res) (F0 m 81 ls [.ref (st (100 + s0)), .ref (ad 0)]) := by
  have hx := hC.1
  have hb := hC.2.1
  unfold fX12_sayCc_81 at hf
  obtain ⟨σ1, g1, hf⟩ := zbu_use hf
  refine z_callVu (As := [.ref (st (100 + s0))]) (rest := []) hC hI (cX12_say_met st l D ad cy σ s0 _ g1) (zgV zw74_23 zw75_0 zw75_1 zw1_5 zw75_2) rfl ⟨rfl, rfl⟩ 1 hdX12_say ⟨Nat.le_of_ble_eq_true rfl, Nat.le_of_ble_eq_true rfl⟩ rfl rfl (wM_e0 ad cy σ) rfl hl rfl (Nat.le_of_ble_eq_true rfl) dX12_sayCc_81 ⟨Nat.zero_le _, Nat.zero_le _⟩ (fun H locs hI => ?_)
  exact z_return hC hI hf dX12_sayCc_84
set_option maxRecDepth 20000 in
set_option maxHeartbeats 4000000 in
theorem bX12_sayCc {st : Nat → Nat} {p : Program} {l : Launch} {e : Env} {s : State} {m : MethodId} {args : Array Value} {below : List Frame} {meth : Method} {c : Code} {D : va_G} {A : Nat → Prop} {ad : Nat → Nat} {cy : Nat → ClassId} (hC : zC p m c cX12_sayCc 2 s args wzX12_sayCc RX12 meth none)  {res : zSt} {H : Heap} {locs : List Loc} {σ : zSt} {ls : Array Slot} {x1 : Int32} (hI : zI st D (tM cy) (wM ad cy σ) A s H locs) (hl : lv_has ls 2 [(0, .ref (ad 0)), (1, .int x1)]) (hf : fX12_sayCc  σ x1 = some res) : W p l e rmX12_sayCc s m args below meth c H locs 0 0 (zQu below args s D (tM cy) (wM ad cy) A res) (F0 m 0 ls []) := by
  have hx := hC.1
  have hb := hC.2.1
  unfold fX12_sayCc at hf
  refine lv_aload_n hx hb dX12_sayCc_0 rfl (lv_at hl 0 rfl) ?_
  refine lv_iload_n hx hb dX12_sayCc_1 rfl (lv_at hl 1 rfl) ?_
  refine lv_if_ne (tgt := 11) hx hb dX12_sayCc_2 (by decide) (fun q => ?_) (fun q => ?_)
  · replace hf := zif_f q hf
    refine lv_iload_n hx hb dX12_sayCc_11 rfl (lv_at hl 1 rfl) ?_
    refine lv_iconst (v := 1) hx hb dX12_sayCc_12 (by decide) ?_
    refine lv_icmp_ne (tgt := 22) hx hb dX12_sayCc_13 (by decide) (fun q => ?_) (fun q => ?_)
    · replace hf := zif_f q hf
      refine lv_iload_n hx hb dX12_sayCc_22 rfl (lv_at hl 1 rfl) ?_
      refine lv_iconst (v := 2) hx hb dX12_sayCc_23 (by decide) ?_
      refine lv_icmp_ne (tgt := 33) hx hb dX12_sayCc_24 (by decide) (fun q => ?_) (fun q => ?_)
      · replace hf := zif_f q hf
        refine lv_iload_n hx hb dX12_sayCc_33 rfl (lv_at hl 1 rfl) ?_
        refine lv_iconst (v := 3) hx hb dX12_sayCc_34 (by decide) ?_
        refine lv_icmp_ne (tgt := 44) hx hb dX12_sayCc_35 (by decide) (fun q => ?_) (fun q => ?_)
        · replace hf := zif_f q hf
          refine lv_iload_n hx hb dX12_sayCc_44 rfl (lv_at hl 1 rfl) ?_
          refine lv_iconst (v := 4) hx hb dX12_sayCc_45 (by decide) ?_
          refine lv_icmp_ne (tgt := 55) hx hb dX12_sayCc_46 (by decide) (fun q => ?_) (fun q => ?_)
          · replace hf := zif_f q hf
            refine lv_iload_n hx hb dX12_sayCc_55 rfl (lv_at hl 1 rfl) ?_
            refine lv_iconst (v := 5) hx hb dX12_sayCc_56 (by decide) ?_
            refine lv_icmp_ne (tgt := 66) hx hb dX12_sayCc_57 (by decide) (fun q => ?_) (fun q => ?_)
            · replace hf := zif_f q hf
              refine lv_iload_n hx hb dX12_sayCc_66 rfl (lv_at hl 1 rfl) ?_
              refine lv_bipush (v := 6) hx hb dX12_sayCc_67 (by decide) ?_
              refine lv_icmp_ne (tgt := 78) hx hb dX12_sayCc_69 (by decide) (fun q => ?_) (fun q => ?_)
              · replace hf := zif_f q hf
                refine z_ldcSW hC hI 109 (by decide) rfl rfl dX12_sayCc_78 ?_
                exact bX12_sayCc_81 hC  hI (lv_sub hl [] rfl) hf
              replace hf := zif_t q hf
              refine z_ldcSW hC hI 108 (by decide) rfl rfl dX12_sayCc_72 ?_
              refine lv_goto (tgt := 81) hx hb dX12_sayCc_75 (by decide) ?_
              exact bX12_sayCc_81 hC  hI (lv_sub hl [] rfl) hf
            replace hf := zif_t q hf
            refine z_ldcSW hC hI 107 (by decide) rfl rfl dX12_sayCc_60 ?_
            refine lv_goto (tgt := 81) hx hb dX12_sayCc_63 (by decide) ?_
            exact bX12_sayCc_81 hC  hI (lv_sub hl [] rfl) hf
          replace hf := zif_t q hf
          refine z_ldcSW hC hI 106 (by decide) rfl rfl dX12_sayCc_49 ?_
          refine lv_goto (tgt := 81) hx hb dX12_sayCc_52 (by decide) ?_
          exact bX12_sayCc_81 hC  hI (lv_sub hl [] rfl) hf
        replace hf := zif_t q hf
        refine z_ldcSW hC hI 94 (by decide) rfl rfl dX12_sayCc_38 ?_
        refine lv_goto (tgt := 81) hx hb dX12_sayCc_41 (by decide) ?_
        exact bX12_sayCc_81 hC  hI (lv_sub hl [] rfl) hf
      replace hf := zif_t q hf
      refine z_ldcSW hC hI 105 (by decide) rfl rfl dX12_sayCc_27 ?_
      refine lv_goto (tgt := 81) hx hb dX12_sayCc_30 (by decide) ?_
      exact bX12_sayCc_81 hC  hI (lv_sub hl [] rfl) hf
    replace hf := zif_t q hf
    refine z_ldcSW hC hI 104 (by decide) rfl rfl dX12_sayCc_16 ?_
    refine lv_goto (tgt := 81) hx hb dX12_sayCc_19 (by decide) ?_
    exact bX12_sayCc_81 hC  hI (lv_sub hl [] rfl) hf
  replace hf := zif_t q hf
  refine z_ldcSW hC hI 103 (by decide) rfl rfl dX12_sayCc_5 ?_
  refine lv_goto (tgt := 81) hx hb dX12_sayCc_8 (by decide) ?_
  exact bX12_sayCc_81 hC  hI (lv_sub hl [] rfl) hf
set_option maxRecDepth 20000 in
theorem cX12_sayCc_met (st : Nat → Nat) (l : Launch) (D : va_G) (ad : Nat → Nat) (cy : Nat → ClassId) (σ : zSt) (x1 : Int32) (res : zSt) (hf : fX12_sayCc σ x1 = some res) (sz : Nat) : zMu st l yX12_sayCc wzX12_sayCc rmX12_sayCc [.ref (ad 0), .int x1] D (tM cy) (wM ad cy) sz σ res :=
  zMu.of (cc := cX12_sayCc) (maxL := 2) (ret := none) (by decide) rfl (Nat.le_of_ble_eq_true rfl) (fun p e s m args below meth c hC A hI ls hl => bX12_sayCc hC hI hl hf)
theorem hdX12_sayCc : yX12_sayCc.cls = RX12 ∧ yX12_sayCc.cls ≠ "java/lang/invoke/MethodHandle" ∧ yX12_sayCc.cls ≠ "java/lang/invoke/VarHandle" ∧ (parseMethodDescriptor yX12_sayCc.desc).map (fun d => d.parameters.length) = some 1 := by decide +kernel
def rmX12_sayPlaced : Room := { frames := 5, cells := 0, slots := 0, locals := 139 }
def wzX12_sayPlaced : List Cond := .code yX12_sayPlaced cX12_sayPlaced 2 none :: wsL_law
def fX12_sayPlaced  (σ : zSt) (x1 : Int32) : Option (zSt) :=
  zbu (fX12_say σ 120) (fun σ1 =>
  zbu (fX12_hex σ1 x1 4) (fun σ2 =>
  zbu (fX12_say σ2 89) (fun σ3 =>
  some σ3)))
set_option maxRecDepth 20000 in
set_option maxHeartbeats 4000000 in
theorem bX12_sayPlaced {st : Nat → Nat} {p : Program} {l : Launch} {e : Env} {s : State} {m : MethodId} {args : Array Value} {below : List Frame} {meth : Method} {c : Code} {D : va_G} {A : Nat → Prop} {ad : Nat → Nat} {cy : Nat → ClassId} (hC : zC p m c cX12_sayPlaced 2 s args wzX12_sayPlaced RX12 meth none)  {res : zSt} {H : Heap} {locs : List Loc} {σ : zSt} {ls : Array Slot} {x1 : Int32} (hI : zI st D (tM cy) (wM ad cy σ) A s H locs) (hl : lv_has ls 2 [(0, .ref (ad 0)), (1, .int x1)]) (hf : fX12_sayPlaced  σ x1 = some res) : W p l e rmX12_sayPlaced s m args below meth c H locs 0 0 (zQu below args s D (tM cy) (wM ad cy) A res) (F0 m 0 ls []) := by
  have hx := hC.1
  have hb := hC.2.1
  unfold fX12_sayPlaced at hf
  refine lv_aload_n hx hb dX12_sayPlaced_0 rfl (lv_at hl 0 rfl) ?_
  refine z_ldcSW hC hI 120 (by decide) rfl rfl dX12_sayPlaced_1 ?_
  obtain ⟨σ1, g1, hf⟩ := zbu_use hf
  refine z_callVu (As := [.ref (st (100 + 120))]) (rest := []) hC hI (cX12_say_met st l D ad cy σ 120 _ g1) (zgV zw74_23 zw75_0 zw75_1 zw1_5 zw75_2) rfl ⟨rfl, rfl⟩ 1 hdX12_say ⟨Nat.le_of_ble_eq_true rfl, Nat.le_of_ble_eq_true rfl⟩ rfl rfl (wM_e0 ad cy σ) rfl hl rfl (Nat.le_of_ble_eq_true rfl) dX12_sayPlaced_4 ⟨Nat.zero_le _, Nat.zero_le _⟩ (fun H locs hI => ?_)
  refine lv_aload_n hx hb dX12_sayPlaced_7 rfl (lv_at hl 0 rfl) ?_
  refine lv_iload_n hx hb dX12_sayPlaced_8 rfl (lv_at hl 1 rfl) ?_
  refine lv_iconst (v := 4) hx hb dX12_sayPlaced_9 (by decide) ?_
  obtain ⟨σ2, g2, hf⟩ := zbu_use hf
  refine z_callVu (As := [.int x1, .int 4]) (rest := []) hC hI (cX12_hex_met st l D ad cy σ1 x1 4 _ g2) (zgV zw75_8 zw75_9 zw75_10 zw1_5 zw75_11) rfl ⟨rfl, rfl⟩ 2 hdX12_hex ⟨Nat.le_of_ble_eq_true rfl, Nat.le_of_ble_eq_true rfl⟩ rfl rfl (wM_e0 ad cy σ1) rfl hl rfl (Nat.le_of_ble_eq_true rfl) dX12_sayPlaced_10 ⟨Nat.zero_le _, Nat.zero_le _⟩ (fun H locs hI => ?_)
  refine lv_aload_n hx hb dX12_sayPlaced_13 rfl (lv_at hl 0 rfl) ?_
  refine z_ldcSW hC hI 89 (by decide) rfl rfl dX12_sayPlaced_14 ?_
  obtain ⟨σ3, g3, hf⟩ := zbu_use hf
  refine z_callVu (As := [.ref (st (100 + 89))]) (rest := []) hC hI (cX12_say_met st l D ad cy σ2 89 _ g3) (zgV zw74_23 zw75_0 zw75_1 zw1_5 zw75_2) rfl ⟨rfl, rfl⟩ 1 hdX12_say ⟨Nat.le_of_ble_eq_true rfl, Nat.le_of_ble_eq_true rfl⟩ rfl rfl (wM_e0 ad cy σ2) rfl hl rfl (Nat.le_of_ble_eq_true rfl) dX12_sayPlaced_17 ⟨Nat.zero_le _, Nat.zero_le _⟩ (fun H locs hI => ?_)
  exact z_return hC hI hf dX12_sayPlaced_20
set_option maxRecDepth 20000 in
theorem cX12_sayPlaced_met (st : Nat → Nat) (l : Launch) (D : va_G) (ad : Nat → Nat) (cy : Nat → ClassId) (σ : zSt) (x1 : Int32) (res : zSt) (hf : fX12_sayPlaced σ x1 = some res) (sz : Nat) : zMu st l yX12_sayPlaced wzX12_sayPlaced rmX12_sayPlaced [.ref (ad 0), .int x1] D (tM cy) (wM ad cy) sz σ res :=
  zMu.of (cc := cX12_sayPlaced) (maxL := 2) (ret := none) (by decide) rfl (Nat.le_of_ble_eq_true rfl) (fun p e s m args below meth c hC A hI ls hl => bX12_sayPlaced hC hI hl hf)
theorem hdX12_sayPlaced : yX12_sayPlaced.cls = RX12 ∧ yX12_sayPlaced.cls ≠ "java/lang/invoke/MethodHandle" ∧ yX12_sayPlaced.cls ≠ "java/lang/invoke/VarHandle" ∧ (parseMethodDescriptor yX12_sayPlaced.desc).map (fun d => d.parameters.length) = some 1 := by decide +kernel
def rmX12_sayJump : Room := { frames := 3, cells := 0, slots := 0, locals := 65 }
def wzX12_sayJump : List Cond := .code yX12_sayJump cX12_sayJump 2 none :: wsL_law
theorem hinX12_sayJump_X120 : ∀ w ∈ wsX120, w ∈ wzX12_sayJump := fun w h => List.mem_cons_of_mem _ (inlX12 w h)
def fX12_sayJump  (σ : zSt)  : Option (zSt) :=
  zbi (fX12_taken σ ) (fun σ1 v2 =>
  zbi (fX12_signed σ1 v2) (fun σ3 v4 =>
  zbu (fX12_hex σ3 (((zgi σ3 0 40) + v4) &&& 65535) 4) (fun σ5 =>
  some σ5)))
set_option maxRecDepth 20000 in
set_option maxHeartbeats 4000000 in
theorem bX12_sayJump {st : Nat → Nat} {p : Program} {l : Launch} {e : Env} {s : State} {m : MethodId} {args : Array Value} {below : List Frame} {meth : Method} {c : Code} {D : va_G} {A : Nat → Prop} {ad : Nat → Nat} {cy : Nat → ClassId} (hC : zC p m c cX12_sayJump 2 s args wzX12_sayJump RX12 meth none)  {res : zSt} {H : Heap} {locs : List Loc} {σ : zSt} {ls : Array Slot}  (hI : zI st D (tM cy) (wM ad cy σ) A s H locs) (hl : lv_has ls 2 [(0, .ref (ad 0))]) (hf : fX12_sayJump  σ  = some res) : W p l e rmX12_sayJump s m args below meth c H locs 0 0 (zQu below args s D (tM cy) (wM ad cy) A res) (F0 m 0 ls []) := by
  have hx := hC.1
  have hb := hC.2.1
  unfold fX12_sayJump at hf
  refine lv_aload_n hx hb dX12_sayJump_0 rfl (lv_at hl 0 rfl) ?_
  obtain ⟨σ1, v2, g1, hf⟩ := zbi_use hf
  refine z_callVi (As := []) (rest := []) hC hI (cX12_taken_met st l D ad cy σ  _ g1) (zgV zw74_14 zw74_15 zw74_16 zw1_5 zw74_17) rfl ⟨rfl, rfl⟩ 0 hdX12_taken ⟨Nat.le_of_ble_eq_true rfl, Nat.le_of_ble_eq_true rfl⟩ rfl rfl (wM_e0 ad cy σ) rfl hl rfl (Nat.le_of_ble_eq_true rfl) dX12_sayJump_1 ⟨Nat.zero_le _, Nat.zero_le _⟩ (fun H locs hI => ?_)
  obtain ⟨σ3, v4, g3, hf⟩ := zbi_use hf
  refine z_callSi (As := [.int v2]) (rest := []) hC hI (cX12_signed_met st l D ad cy σ1 v2 _ g3) (zgS zw50_18 zw50_19 zw1_5 zw50_20) rfl ⟨rfl, rfl⟩ 1 hdX12_signed ⟨Nat.le_of_ble_eq_true rfl, Nat.le_of_ble_eq_true rfl⟩ rfl hl rfl (Nat.le_of_ble_eq_true rfl) dX12_sayJump_4 ⟨Nat.zero_le _, Nat.zero_le _⟩ (fun H locs hI => ?_)
  refine lv_istore_n (lv' := [(1, .int v4), (0, .ref (ad 0))]) hx hb dX12_sayJump_7 rfl hl (by decide) rfl (fun ls hl => ?_)
  refine lv_aload_n hx hb dX12_sayJump_8 rfl (lv_at hl 1 rfl) ?_
  refine lv_aload_n hx hb dX12_sayJump_9 rfl (lv_at hl 1 rfl) ?_
  refine z_get hC hI hinX12_sayJump_X120 0 (wM_e0 ad cy σ3) rfl 40 (by decide) (List.mem_cons_of_mem _ zw74_11) rfl dX12_sayJump_10 ?_
  refine lv_iload_n hx hb dX12_sayJump_13 rfl (lv_at hl 0 rfl) ?_
  refine lv_iadd hx hb dX12_sayJump_14 ?_
  refine lv_ldc (v := 65535) hx hb hC.2.2.2.1 (hC.2.2.2.2.1 _ (List.mem_cons_of_mem _ zw16_11)) dX12_sayJump_15 ?_
  refine lv_iand hx hb dX12_sayJump_17 ?_
  refine lv_iconst (v := 4) hx hb dX12_sayJump_18 (by decide) ?_
  obtain ⟨σ5, g5, hf⟩ := zbu_use hf
  refine z_callVu (As := [.int (((zgi σ3 0 40) + v4) &&& 65535), .int 4]) (rest := []) hC hI (cX12_hex_met st l D ad cy σ3 (((zgi σ3 0 40) + v4) &&& 65535) 4 _ g5) (zgV zw75_8 zw75_9 zw75_10 zw1_5 zw75_11) rfl ⟨rfl, rfl⟩ 2 hdX12_hex ⟨Nat.le_of_ble_eq_true rfl, Nat.le_of_ble_eq_true rfl⟩ rfl rfl (wM_e0 ad cy σ3) rfl hl rfl (Nat.le_of_ble_eq_true rfl) dX12_sayJump_19 ⟨Nat.zero_le _, Nat.zero_le _⟩ (fun H locs hI => ?_)
  exact z_return hC hI hf dX12_sayJump_22
set_option maxRecDepth 20000 in
theorem cX12_sayJump_met (st : Nat → Nat) (l : Launch) (D : va_G) (ad : Nat → Nat) (cy : Nat → ClassId) (σ : zSt)  (res : zSt) (hf : fX12_sayJump σ  = some res) (sz : Nat) : zMu st l yX12_sayJump wzX12_sayJump rmX12_sayJump [.ref (ad 0)] D (tM cy) (wM ad cy) sz σ res :=
  zMu.of (cc := cX12_sayJump) (maxL := 2) (ret := none) (by decide) rfl (Nat.le_of_ble_eq_true rfl) (fun p e s m args below meth c hC A hI ls hl => bX12_sayJump hC hI hl hf)
theorem hdX12_sayJump : yX12_sayJump.cls = RX12 ∧ yX12_sayJump.cls ≠ "java/lang/invoke/MethodHandle" ∧ yX12_sayJump.cls ≠ "java/lang/invoke/VarHandle" ∧ (parseMethodDescriptor yX12_sayJump.desc).map (fun d => d.parameters.length) = some 0 := by decide +kernel
def rmX12_sayDo : Room := { frames := 5, cells := 0, slots := 0, locals := 139 }
def wzX12_sayDo : List Cond := .code yX12_sayDo cX12_sayDo 2 none :: wsL_law
def fX12_sayDo_81  (σ : zSt) (s0 : Nat) : Option (zSt) :=
  zbu (fX12_say σ s0) (fun σ1 =>
  some σ1)
def fX12_sayDo  (σ : zSt) (x1 : Int32) : Option (zSt) :=
  if x1 = 0 then fX12_sayDo_81 σ 110 else
  if x1 = 1 then fX12_sayDo_81 σ 130 else
  if x1 = 2 then fX12_sayDo_81 σ 131 else
  if x1 = 3 then fX12_sayDo_81 σ 132 else
  if x1 = 4 then fX12_sayDo_81 σ 133 else
  if x1 = 5 then fX12_sayDo_81 σ 134 else
  if x1 = 6 then fX12_sayDo_81 σ 135 else
  fX12_sayDo_81 σ 136
set_option maxRecDepth 20000 in
set_option maxHeartbeats 4000000 in
theorem bX12_sayDo_81 {st : Nat → Nat} {p : Program} {l : Launch} {e : Env} {s : State} {m : MethodId} {args : Array Value} {below : List Frame} {meth : Method} {c : Code} {D : va_G} {A : Nat → Prop} {ad : Nat → Nat} {cy : Nat → ClassId} (hC : zC p m c cX12_sayDo 2 s args wzX12_sayDo RX12 meth none)  {res : zSt} {H : Heap} {locs : List Loc} {σ : zSt} {ls : Array Slot} {s0 : Nat} (hI : zI st D (tM cy) (wM ad cy σ) A s H locs) (hl : lv_has ls 2 []) (hf : fX12_sayDo_81  σ s0 = some res) : W p l e rmX12_sayDo s m args below meth c H locs 0 0 (zQu below args s D (tM cy) (wM ad cy) A res) (F0 m 81 ls [.ref (st (100 + s0)), .ref (ad 0)]) := by
  have hx := hC.1
  have hb := hC.2.1
  unfold fX12_sayDo_81 at hf
  obtain ⟨σ1, g1, hf⟩ := zbu_use hf
  refine z_callVu (As := [.ref (st (100 + s0))]) (rest := []) hC hI (cX12_say_met st l D ad cy σ s0 _ g1) (zgV zw74_23 zw75_0 zw75_1 zw1_5 zw75_2) rfl ⟨rfl, rfl⟩ 1 hdX12_say ⟨Nat.le_of_ble_eq_true rfl, Nat.le_of_ble_eq_true rfl⟩ rfl rfl (wM_e0 ad cy σ) rfl hl rfl (Nat.le_of_ble_eq_true rfl) dX12_sayDo_81 ⟨Nat.zero_le _, Nat.zero_le _⟩ (fun H locs hI => ?_)
  exact z_return hC hI hf dX12_sayDo_84
set_option maxRecDepth 20000 in
set_option maxHeartbeats 4000000 in
theorem bX12_sayDo {st : Nat → Nat} {p : Program} {l : Launch} {e : Env} {s : State} {m : MethodId} {args : Array Value} {below : List Frame} {meth : Method} {c : Code} {D : va_G} {A : Nat → Prop} {ad : Nat → Nat} {cy : Nat → ClassId} (hC : zC p m c cX12_sayDo 2 s args wzX12_sayDo RX12 meth none)  {res : zSt} {H : Heap} {locs : List Loc} {σ : zSt} {ls : Array Slot} {x1 : Int32} (hI : zI st D (tM cy) (wM ad cy σ) A s H locs) (hl : lv_has ls 2 [(0, .ref (ad 0)), (1, .int x1)]) (hf : fX12_sayDo  σ x1 = some res) : W p l e rmX12_sayDo s m args below meth c H locs 0 0 (zQu below args s D (tM cy) (wM ad cy) A res) (F0 m 0 ls []) := by
  have hx := hC.1
  have hb := hC.2.1
  unfold fX12_sayDo at hf
  refine lv_aload_n hx hb dX12_sayDo_0 rfl (lv_at hl 0 rfl) ?_
  refine lv_iload_n hx hb dX12_sayDo_1 rfl (lv_at hl 1 rfl) ?_
  refine lv_if_ne (tgt := 11) hx hb dX12_sayDo_2 (by decide) (fun q => ?_) (fun q => ?_)
  · replace hf := zif_f q hf
    refine lv_iload_n hx hb dX12_sayDo_11 rfl (lv_at hl 1 rfl) ?_
    refine lv_iconst (v := 1) hx hb dX12_sayDo_12 (by decide) ?_
    refine lv_icmp_ne (tgt := 22) hx hb dX12_sayDo_13 (by decide) (fun q => ?_) (fun q => ?_)
    · replace hf := zif_f q hf
      refine lv_iload_n hx hb dX12_sayDo_22 rfl (lv_at hl 1 rfl) ?_
      refine lv_iconst (v := 2) hx hb dX12_sayDo_23 (by decide) ?_
      refine lv_icmp_ne (tgt := 33) hx hb dX12_sayDo_24 (by decide) (fun q => ?_) (fun q => ?_)
      · replace hf := zif_f q hf
        refine lv_iload_n hx hb dX12_sayDo_33 rfl (lv_at hl 1 rfl) ?_
        refine lv_iconst (v := 3) hx hb dX12_sayDo_34 (by decide) ?_
        refine lv_icmp_ne (tgt := 44) hx hb dX12_sayDo_35 (by decide) (fun q => ?_) (fun q => ?_)
        · replace hf := zif_f q hf
          refine lv_iload_n hx hb dX12_sayDo_44 rfl (lv_at hl 1 rfl) ?_
          refine lv_iconst (v := 4) hx hb dX12_sayDo_45 (by decide) ?_
          refine lv_icmp_ne (tgt := 55) hx hb dX12_sayDo_46 (by decide) (fun q => ?_) (fun q => ?_)
          · replace hf := zif_f q hf
            refine lv_iload_n hx hb dX12_sayDo_55 rfl (lv_at hl 1 rfl) ?_
            refine lv_iconst (v := 5) hx hb dX12_sayDo_56 (by decide) ?_
            refine lv_icmp_ne (tgt := 66) hx hb dX12_sayDo_57 (by decide) (fun q => ?_) (fun q => ?_)
            · replace hf := zif_f q hf
              refine lv_iload_n hx hb dX12_sayDo_66 rfl (lv_at hl 1 rfl) ?_
              refine lv_bipush (v := 6) hx hb dX12_sayDo_67 (by decide) ?_
              refine lv_icmp_ne (tgt := 78) hx hb dX12_sayDo_69 (by decide) (fun q => ?_) (fun q => ?_)
              · replace hf := zif_f q hf
                refine z_ldcSW hC hI 136 (by decide) rfl rfl dX12_sayDo_78 ?_
                exact bX12_sayDo_81 hC  hI (lv_sub hl [] rfl) hf
              replace hf := zif_t q hf
              refine z_ldcSW hC hI 135 (by decide) rfl rfl dX12_sayDo_72 ?_
              refine lv_goto (tgt := 81) hx hb dX12_sayDo_75 (by decide) ?_
              exact bX12_sayDo_81 hC  hI (lv_sub hl [] rfl) hf
            replace hf := zif_t q hf
            refine z_ldcSW hC hI 134 (by decide) rfl rfl dX12_sayDo_60 ?_
            refine lv_goto (tgt := 81) hx hb dX12_sayDo_63 (by decide) ?_
            exact bX12_sayDo_81 hC  hI (lv_sub hl [] rfl) hf
          replace hf := zif_t q hf
          refine z_ldcSW hC hI 133 (by decide) rfl rfl dX12_sayDo_49 ?_
          refine lv_goto (tgt := 81) hx hb dX12_sayDo_52 (by decide) ?_
          exact bX12_sayDo_81 hC  hI (lv_sub hl [] rfl) hf
        replace hf := zif_t q hf
        refine z_ldcSW hC hI 132 (by decide) rfl rfl dX12_sayDo_38 ?_
        refine lv_goto (tgt := 81) hx hb dX12_sayDo_41 (by decide) ?_
        exact bX12_sayDo_81 hC  hI (lv_sub hl [] rfl) hf
      replace hf := zif_t q hf
      refine z_ldcSW hC hI 131 (by decide) rfl rfl dX12_sayDo_27 ?_
      refine lv_goto (tgt := 81) hx hb dX12_sayDo_30 (by decide) ?_
      exact bX12_sayDo_81 hC  hI (lv_sub hl [] rfl) hf
    replace hf := zif_t q hf
    refine z_ldcSW hC hI 130 (by decide) rfl rfl dX12_sayDo_16 ?_
    refine lv_goto (tgt := 81) hx hb dX12_sayDo_19 (by decide) ?_
    exact bX12_sayDo_81 hC  hI (lv_sub hl [] rfl) hf
  replace hf := zif_t q hf
  refine z_ldcSW hC hI 110 (by decide) rfl rfl dX12_sayDo_5 ?_
  refine lv_goto (tgt := 81) hx hb dX12_sayDo_8 (by decide) ?_
  exact bX12_sayDo_81 hC  hI (lv_sub hl [] rfl) hf
set_option maxRecDepth 20000 in
theorem cX12_sayDo_met (st : Nat → Nat) (l : Launch) (D : va_G) (ad : Nat → Nat) (cy : Nat → ClassId) (σ : zSt) (x1 : Int32) (res : zSt) (hf : fX12_sayDo σ x1 = some res) (sz : Nat) : zMu st l yX12_sayDo wzX12_sayDo rmX12_sayDo [.ref (ad 0), .int x1] D (tM cy) (wM ad cy) sz σ res :=
  zMu.of (cc := cX12_sayDo) (maxL := 2) (ret := none) (by decide) rfl (Nat.le_of_ble_eq_true rfl) (fun p e s m args below meth c hC A hI ls hl => bX12_sayDo hC hI hl hf)
theorem hdX12_sayDo : yX12_sayDo.cls = RX12 ∧ yX12_sayDo.cls ≠ "java/lang/invoke/MethodHandle" ∧ yX12_sayDo.cls ≠ "java/lang/invoke/VarHandle" ∧ (parseMethodDescriptor yX12_sayDo.desc).map (fun d => d.parameters.length) = some 1 := by decide +kernel
def rmX12_sayTurn : Room := { frames := 7, cells := 0, slots := 0, locals := 180 }
def wzX12_sayTurn : List Cond := .code yX12_sayTurn cX12_sayTurn 3 none :: wsL_law
def fX12_sayTurn_146  (σ : zSt) (x1 : Int32) : Option (zSt) :=
  zbu (fX12_sayR σ (x1 &&& 7)) (fun σ1 =>
  some σ1)
def fX12_sayTurn_94  (σ : zSt) (x1 : Int32) (s0 : Nat) : Option (zSt) :=
  zbu (fX12_say σ s0) (fun σ2 =>
  fX12_sayTurn_146 σ2 x1)
def fX12_sayTurn_130  (σ : zSt) (x1 : Int32) (x2 : Int32) (s0 : Nat) : Option (zSt) :=
  zbu (fX12_say σ s0) (fun σ3 =>
  zbu (fX12_hex σ3 x2 1) (fun σ4 =>
  zbu (fX12_say σ4 83) (fun σ5 =>
  fX12_sayTurn_146 σ5 x1)))
def fX12_sayTurn  (σ : zSt) (x1 : Int32) : Option (zSt) :=
  zbv ((x1 >>> ((3 : Int32) &&& 31)) &&& 7) (fun v6 =>
  if 64 ≤ x1 then if 128 ≤ x1 then if 192 ≤ x1 then fX12_sayTurn_130 σ x1 v6 82 else
  fX12_sayTurn_130 σ x1 v6 81 else
  fX12_sayTurn_130 σ x1 v6 80 else
  if v6 = 0 then fX12_sayTurn_94 σ x1 72 else
  if v6 = 1 then fX12_sayTurn_94 σ x1 73 else
  if v6 = 2 then fX12_sayTurn_94 σ x1 74 else
  if v6 = 3 then fX12_sayTurn_94 σ x1 75 else
  if v6 = 4 then fX12_sayTurn_94 σ x1 76 else
  if v6 = 5 then fX12_sayTurn_94 σ x1 77 else
  if v6 = 6 then fX12_sayTurn_94 σ x1 78 else
  fX12_sayTurn_94 σ x1 79)
set_option maxRecDepth 20000 in
set_option maxHeartbeats 4000000 in
theorem bX12_sayTurn_146 {st : Nat → Nat} {p : Program} {l : Launch} {e : Env} {s : State} {m : MethodId} {args : Array Value} {below : List Frame} {meth : Method} {c : Code} {D : va_G} {A : Nat → Prop} {ad : Nat → Nat} {cy : Nat → ClassId} (hC : zC p m c cX12_sayTurn 3 s args wzX12_sayTurn RX12 meth none)  {res : zSt} {H : Heap} {locs : List Loc} {σ : zSt} {ls : Array Slot} {x1 : Int32} (hI : zI st D (tM cy) (wM ad cy σ) A s H locs) (hl : lv_has ls 3 [(0, .ref (ad 0)), (1, .int x1)]) (hf : fX12_sayTurn_146  σ x1 = some res) : W p l e rmX12_sayTurn s m args below meth c H locs 0 0 (zQu below args s D (tM cy) (wM ad cy) A res) (F0 m 146 ls []) := by
  have hx := hC.1
  have hb := hC.2.1
  unfold fX12_sayTurn_146 at hf
  refine lv_aload_n hx hb dX12_sayTurn_146 rfl (lv_at hl 0 rfl) ?_
  refine lv_iload_n hx hb dX12_sayTurn_147 rfl (lv_at hl 1 rfl) ?_
  refine lv_bipush (v := 7) hx hb dX12_sayTurn_148 (by decide) ?_
  refine lv_iand hx hb dX12_sayTurn_150 ?_
  obtain ⟨σ1, g1, hf⟩ := zbu_use hf
  refine z_callVu (As := [.int (x1 &&& 7)]) (rest := []) hC hI (cX12_sayR_met st l D ad cy σ (x1 &&& 7) _ g1) (zgV zw75_12 zw75_13 zw75_14 zw1_5 zw75_15) rfl ⟨rfl, rfl⟩ 1 hdX12_sayR ⟨Nat.le_of_ble_eq_true rfl, Nat.le_of_ble_eq_true rfl⟩ rfl rfl (wM_e0 ad cy σ) rfl hl rfl (Nat.le_of_ble_eq_true rfl) dX12_sayTurn_151 ⟨Nat.zero_le _, Nat.zero_le _⟩ (fun H locs hI => ?_)
  exact z_return hC hI hf dX12_sayTurn_154
set_option maxRecDepth 20000 in
set_option maxHeartbeats 4000000 in
theorem bX12_sayTurn_94 {st : Nat → Nat} {p : Program} {l : Launch} {e : Env} {s : State} {m : MethodId} {args : Array Value} {below : List Frame} {meth : Method} {c : Code} {D : va_G} {A : Nat → Prop} {ad : Nat → Nat} {cy : Nat → ClassId} (hC : zC p m c cX12_sayTurn 3 s args wzX12_sayTurn RX12 meth none)  {res : zSt} {H : Heap} {locs : List Loc} {σ : zSt} {ls : Array Slot} {x1 : Int32} {s0 : Nat} (hI : zI st D (tM cy) (wM ad cy σ) A s H locs) (hl : lv_has ls 3 [(0, .ref (ad 0)), (1, .int x1)]) (hf : fX12_sayTurn_94  σ x1 s0 = some res) : W p l e rmX12_sayTurn s m args below meth c H locs 0 0 (zQu below args s D (tM cy) (wM ad cy) A res) (F0 m 94 ls [.ref (st (100 + s0)), .ref (ad 0)]) := by
  have hx := hC.1
  have hb := hC.2.1
  unfold fX12_sayTurn_94 at hf
  obtain ⟨σ2, g2, hf⟩ := zbu_use hf
  refine z_callVu (As := [.ref (st (100 + s0))]) (rest := []) hC hI (cX12_say_met st l D ad cy σ s0 _ g2) (zgV zw74_23 zw75_0 zw75_1 zw1_5 zw75_2) rfl ⟨rfl, rfl⟩ 1 hdX12_say ⟨Nat.le_of_ble_eq_true rfl, Nat.le_of_ble_eq_true rfl⟩ rfl rfl (wM_e0 ad cy σ) rfl hl rfl (Nat.le_of_ble_eq_true rfl) dX12_sayTurn_94 ⟨Nat.zero_le _, Nat.zero_le _⟩ (fun H locs hI => ?_)
  refine lv_goto (tgt := 146) hx hb dX12_sayTurn_97 (by decide) ?_
  exact bX12_sayTurn_146 hC  hI hl hf
set_option maxRecDepth 20000 in
set_option maxHeartbeats 4000000 in
theorem bX12_sayTurn_130 {st : Nat → Nat} {p : Program} {l : Launch} {e : Env} {s : State} {m : MethodId} {args : Array Value} {below : List Frame} {meth : Method} {c : Code} {D : va_G} {A : Nat → Prop} {ad : Nat → Nat} {cy : Nat → ClassId} (hC : zC p m c cX12_sayTurn 3 s args wzX12_sayTurn RX12 meth none)  {res : zSt} {H : Heap} {locs : List Loc} {σ : zSt} {ls : Array Slot} {x1 : Int32} {x2 : Int32} {s0 : Nat} (hI : zI st D (tM cy) (wM ad cy σ) A s H locs) (hl : lv_has ls 3 [(0, .ref (ad 0)), (1, .int x1), (2, .int x2)]) (hf : fX12_sayTurn_130  σ x1 x2 s0 = some res) : W p l e rmX12_sayTurn s m args below meth c H locs 0 0 (zQu below args s D (tM cy) (wM ad cy) A res) (F0 m 130 ls [.ref (st (100 + s0)), .ref (ad 0)]) := by
  have hx := hC.1
  have hb := hC.2.1
  unfold fX12_sayTurn_130 at hf
  obtain ⟨σ3, g3, hf⟩ := zbu_use hf
  refine z_callVu (As := [.ref (st (100 + s0))]) (rest := []) hC hI (cX12_say_met st l D ad cy σ s0 _ g3) (zgV zw74_23 zw75_0 zw75_1 zw1_5 zw75_2) rfl ⟨rfl, rfl⟩ 1 hdX12_say ⟨Nat.le_of_ble_eq_true rfl, Nat.le_of_ble_eq_true rfl⟩ rfl rfl (wM_e0 ad cy σ) rfl hl rfl (Nat.le_of_ble_eq_true rfl) dX12_sayTurn_130 ⟨Nat.zero_le _, Nat.zero_le _⟩ (fun H locs hI => ?_)
  refine lv_aload_n hx hb dX12_sayTurn_133 rfl (lv_at hl 0 rfl) ?_
  refine lv_iload_n hx hb dX12_sayTurn_134 rfl (lv_at hl 2 rfl) ?_
  refine lv_iconst (v := 1) hx hb dX12_sayTurn_135 (by decide) ?_
  obtain ⟨σ4, g4, hf⟩ := zbu_use hf
  refine z_callVu (As := [.int x2, .int 1]) (rest := []) hC hI (cX12_hex_met st l D ad cy σ3 x2 1 _ g4) (zgV zw75_8 zw75_9 zw75_10 zw1_5 zw75_11) rfl ⟨rfl, rfl⟩ 2 hdX12_hex ⟨Nat.le_of_ble_eq_true rfl, Nat.le_of_ble_eq_true rfl⟩ rfl rfl (wM_e0 ad cy σ3) rfl hl rfl (Nat.le_of_ble_eq_true rfl) dX12_sayTurn_136 ⟨Nat.zero_le _, Nat.zero_le _⟩ (fun H locs hI => ?_)
  refine lv_aload_n hx hb dX12_sayTurn_139 rfl (lv_at hl 0 rfl) ?_
  refine z_ldcSW hC hI 83 (by decide) rfl rfl dX12_sayTurn_140 ?_
  obtain ⟨σ5, g5, hf⟩ := zbu_use hf
  refine z_callVu (As := [.ref (st (100 + 83))]) (rest := []) hC hI (cX12_say_met st l D ad cy σ4 83 _ g5) (zgV zw74_23 zw75_0 zw75_1 zw1_5 zw75_2) rfl ⟨rfl, rfl⟩ 1 hdX12_say ⟨Nat.le_of_ble_eq_true rfl, Nat.le_of_ble_eq_true rfl⟩ rfl rfl (wM_e0 ad cy σ4) rfl hl rfl (Nat.le_of_ble_eq_true rfl) dX12_sayTurn_143 ⟨Nat.zero_le _, Nat.zero_le _⟩ (fun H locs hI => ?_)
  exact bX12_sayTurn_146 hC  hI (lv_sub hl [0, 1] rfl) hf
set_option maxRecDepth 20000 in
set_option maxHeartbeats 4000000 in
theorem bX12_sayTurn {st : Nat → Nat} {p : Program} {l : Launch} {e : Env} {s : State} {m : MethodId} {args : Array Value} {below : List Frame} {meth : Method} {c : Code} {D : va_G} {A : Nat → Prop} {ad : Nat → Nat} {cy : Nat → ClassId} (hC : zC p m c cX12_sayTurn 3 s args wzX12_sayTurn RX12 meth none)  {res : zSt} {H : Heap} {locs : List Loc} {σ : zSt} {ls : Array Slot} {x1 : Int32} (hI : zI st D (tM cy) (wM ad cy σ) A s H locs) (hl : lv_has ls 3 [(0, .ref (ad 0)), (1, .int x1)]) (hf : fX12_sayTurn  σ x1 = some res) : W p l e rmX12_sayTurn s m args below meth c H locs 0 0 (zQu below args s D (tM cy) (wM ad cy) A res) (F0 m 0 ls []) := by
  have hx := hC.1
  have hb := hC.2.1
  unfold fX12_sayTurn at hf
  refine lv_iload_n hx hb dX12_sayTurn_0 rfl (lv_at hl 1 rfl) ?_
  refine lv_iconst (v := 3) hx hb dX12_sayTurn_1 (by decide) ?_
  refine lv_ishr hx hb dX12_sayTurn_2 ?_
  refine lv_bipush (v := 7) hx hb dX12_sayTurn_3 (by decide) ?_
  refine lv_iand hx hb dX12_sayTurn_5 ?_
  refine lv_topi (fun v6 ev6 => ?_)
  replace hf := zbv_use ev6 hf
  refine lv_istore_n (lv' := [(2, .int v6), (0, .ref (ad 0)), (1, .int x1)]) hx hb dX12_sayTurn_6 rfl hl (by decide) rfl (fun ls hl => ?_)
  refine lv_iload_n hx hb dX12_sayTurn_7 rfl (lv_at hl 2 rfl) ?_
  refine lv_bipush (v := 64) hx hb dX12_sayTurn_8 (by decide) ?_
  refine lv_icmp_ge (tgt := 100) hx hb dX12_sayTurn_10 (by decide) (fun q => ?_) (fun q => ?_)
  · replace hf := zif_t q hf
    refine lv_aload_n hx hb dX12_sayTurn_100 rfl (lv_at hl 1 rfl) ?_
    refine lv_iload_n hx hb dX12_sayTurn_101 rfl (lv_at hl 2 rfl) ?_
    refine lv_sipush (v := 128) hx hb dX12_sayTurn_102 (by decide) ?_
    refine lv_icmp_ge (tgt := 114) hx hb dX12_sayTurn_105 (by decide) (fun q => ?_) (fun q => ?_)
    · replace hf := zif_t q hf
      refine lv_iload_n hx hb dX12_sayTurn_114 rfl (lv_at hl 2 rfl) ?_
      refine lv_sipush (v := 192) hx hb dX12_sayTurn_115 (by decide) ?_
      refine lv_icmp_ge (tgt := 127) hx hb dX12_sayTurn_118 (by decide) (fun q => ?_) (fun q => ?_)
      · replace hf := zif_t q hf
        refine z_ldcSW hC hI 82 (by decide) rfl rfl dX12_sayTurn_127 ?_
        exact bX12_sayTurn_130 hC  hI (lv_sub hl [1, 2, 0] rfl) hf
      replace hf := zif_f q hf
      refine z_ldcSW hC hI 81 (by decide) rfl rfl dX12_sayTurn_121 ?_
      refine lv_goto (tgt := 130) hx hb dX12_sayTurn_124 (by decide) ?_
      exact bX12_sayTurn_130 hC  hI (lv_sub hl [1, 2, 0] rfl) hf
    replace hf := zif_f q hf
    refine z_ldcSW hC hI 80 (by decide) rfl rfl dX12_sayTurn_108 ?_
    refine lv_goto (tgt := 130) hx hb dX12_sayTurn_111 (by decide) ?_
    exact bX12_sayTurn_130 hC  hI (lv_sub hl [1, 2, 0] rfl) hf
  replace hf := zif_f q hf
  refine lv_aload_n hx hb dX12_sayTurn_13 rfl (lv_at hl 1 rfl) ?_
  refine lv_iload_n hx hb dX12_sayTurn_14 rfl (lv_at hl 0 rfl) ?_
  refine lv_if_ne (tgt := 24) hx hb dX12_sayTurn_15 (by decide) (fun q => ?_) (fun q => ?_)
  · replace hf := zif_f q hf
    refine lv_iload_n hx hb dX12_sayTurn_24 rfl (lv_at hl 0 rfl) ?_
    refine lv_iconst (v := 1) hx hb dX12_sayTurn_25 (by decide) ?_
    refine lv_icmp_ne (tgt := 35) hx hb dX12_sayTurn_26 (by decide) (fun q => ?_) (fun q => ?_)
    · replace hf := zif_f q hf
      refine lv_iload_n hx hb dX12_sayTurn_35 rfl (lv_at hl 0 rfl) ?_
      refine lv_iconst (v := 2) hx hb dX12_sayTurn_36 (by decide) ?_
      refine lv_icmp_ne (tgt := 46) hx hb dX12_sayTurn_37 (by decide) (fun q => ?_) (fun q => ?_)
      · replace hf := zif_f q hf
        refine lv_iload_n hx hb dX12_sayTurn_46 rfl (lv_at hl 0 rfl) ?_
        refine lv_iconst (v := 3) hx hb dX12_sayTurn_47 (by decide) ?_
        refine lv_icmp_ne (tgt := 57) hx hb dX12_sayTurn_48 (by decide) (fun q => ?_) (fun q => ?_)
        · replace hf := zif_f q hf
          refine lv_iload_n hx hb dX12_sayTurn_57 rfl (lv_at hl 0 rfl) ?_
          refine lv_iconst (v := 4) hx hb dX12_sayTurn_58 (by decide) ?_
          refine lv_icmp_ne (tgt := 68) hx hb dX12_sayTurn_59 (by decide) (fun q => ?_) (fun q => ?_)
          · replace hf := zif_f q hf
            refine lv_iload_n hx hb dX12_sayTurn_68 rfl (lv_at hl 0 rfl) ?_
            refine lv_iconst (v := 5) hx hb dX12_sayTurn_69 (by decide) ?_
            refine lv_icmp_ne (tgt := 79) hx hb dX12_sayTurn_70 (by decide) (fun q => ?_) (fun q => ?_)
            · replace hf := zif_f q hf
              refine lv_iload_n hx hb dX12_sayTurn_79 rfl (lv_at hl 0 rfl) ?_
              refine lv_bipush (v := 6) hx hb dX12_sayTurn_80 (by decide) ?_
              refine lv_icmp_ne (tgt := 91) hx hb dX12_sayTurn_82 (by decide) (fun q => ?_) (fun q => ?_)
              · replace hf := zif_f q hf
                refine z_ldcSW hC hI 79 (by decide) rfl rfl dX12_sayTurn_91 ?_
                exact bX12_sayTurn_94 hC  hI (lv_sub hl [1, 2] rfl) hf
              replace hf := zif_t q hf
              refine z_ldcSW hC hI 78 (by decide) rfl rfl dX12_sayTurn_85 ?_
              refine lv_goto (tgt := 94) hx hb dX12_sayTurn_88 (by decide) ?_
              exact bX12_sayTurn_94 hC  hI (lv_sub hl [1, 2] rfl) hf
            replace hf := zif_t q hf
            refine z_ldcSW hC hI 77 (by decide) rfl rfl dX12_sayTurn_73 ?_
            refine lv_goto (tgt := 94) hx hb dX12_sayTurn_76 (by decide) ?_
            exact bX12_sayTurn_94 hC  hI (lv_sub hl [1, 2] rfl) hf
          replace hf := zif_t q hf
          refine z_ldcSW hC hI 76 (by decide) rfl rfl dX12_sayTurn_62 ?_
          refine lv_goto (tgt := 94) hx hb dX12_sayTurn_65 (by decide) ?_
          exact bX12_sayTurn_94 hC  hI (lv_sub hl [1, 2] rfl) hf
        replace hf := zif_t q hf
        refine z_ldcSW hC hI 75 (by decide) rfl rfl dX12_sayTurn_51 ?_
        refine lv_goto (tgt := 94) hx hb dX12_sayTurn_54 (by decide) ?_
        exact bX12_sayTurn_94 hC  hI (lv_sub hl [1, 2] rfl) hf
      replace hf := zif_t q hf
      refine z_ldcSW hC hI 74 (by decide) rfl rfl dX12_sayTurn_40 ?_
      refine lv_goto (tgt := 94) hx hb dX12_sayTurn_43 (by decide) ?_
      exact bX12_sayTurn_94 hC  hI (lv_sub hl [1, 2] rfl) hf
    replace hf := zif_t q hf
    refine z_ldcSW hC hI 73 (by decide) rfl rfl dX12_sayTurn_29 ?_
    refine lv_goto (tgt := 94) hx hb dX12_sayTurn_32 (by decide) ?_
    exact bX12_sayTurn_94 hC  hI (lv_sub hl [1, 2] rfl) hf
  replace hf := zif_t q hf
  refine z_ldcSW hC hI 72 (by decide) rfl rfl dX12_sayTurn_18 ?_
  refine lv_goto (tgt := 94) hx hb dX12_sayTurn_21 (by decide) ?_
  exact bX12_sayTurn_94 hC  hI (lv_sub hl [1, 2] rfl) hf
set_option maxRecDepth 20000 in
theorem cX12_sayTurn_met (st : Nat → Nat) (l : Launch) (D : va_G) (ad : Nat → Nat) (cy : Nat → ClassId) (σ : zSt) (x1 : Int32) (res : zSt) (hf : fX12_sayTurn σ x1 = some res) (sz : Nat) : zMu st l yX12_sayTurn wzX12_sayTurn rmX12_sayTurn [.ref (ad 0), .int x1] D (tM cy) (wM ad cy) sz σ res :=
  zMu.of (cc := cX12_sayTurn) (maxL := 3) (ret := none) (by decide) rfl (Nat.le_of_ble_eq_true rfl) (fun p e s m args below meth c hC A hI ls hl => bX12_sayTurn hC hI hl hf)
theorem hdX12_sayTurn : yX12_sayTurn.cls = RX12 ∧ yX12_sayTurn.cls ≠ "java/lang/invoke/MethodHandle" ∧ yX12_sayTurn.cls ≠ "java/lang/invoke/VarHandle" ∧ (parseMethodDescriptor yX12_sayTurn.desc).map (fun d => d.parameters.length) = some 1 := by decide +kernel
def rmX12_sayZero : Room := { frames := 7, cells := 0, slots := 0, locals := 181 }
def wzX12_sayZero : List Cond := .code yX12_sayZero cX12_sayZero 5 none :: wsL_law
def fX12_sayZero_301  (σ : zSt)  : Option (zSt) :=
  some σ
def fX12_sayZero_80  (σ : zSt) (x1 : Int32) : Option (zSt) :=
  if x1 ≤ 1 then fX12_sayZero_301 σ else
  zbu (fX12_sayJump σ ) (fun σ1 =>
  fX12_sayZero_301 σ1)
def fX12_sayZero_58  (σ : zSt) (x1 : Int32) (s0 : Nat) : Option (zSt) :=
  zbu (fX12_say σ s0) (fun σ2 =>
  if x1 ≤ 3 then fX12_sayZero_80 σ2 x1 else
  zbu (fX12_sayCc σ2 (x1 - 4)) (fun σ3 =>
  zbu (fX12_say σ3 83) (fun σ4 =>
  fX12_sayZero_80 σ4 x1)))
def fX12_sayZero_133  (σ : zSt) (x3 : Int32) (x4 : Int32) : Option (zSt) :=
  zbu (fX12_say σ 83) (fun σ5 =>
  if x4 = 0 then zbi (fX12_takenWord σ5 ) (fun σ6 v7 =>
  zbu (fX12_hex σ6 v7 4) (fun σ8 =>
  fX12_sayZero_301 σ8)) else
  zbu (fX12_sayRp σ5 x3 0) (fun σ9 =>
  fX12_sayZero_301 σ9))
def fX12_sayZero_112  (σ : zSt) (x3 : Int32) (x4 : Int32) (s0 : Nat) : Option (zSt) :=
  zbu (fX12_say σ s0) (fun σ10 =>
  if x4 = 0 then zbu (fX12_sayRp σ10 x3 0) (fun σ11 =>
  fX12_sayZero_133 σ11 x3 x4) else
  zbu (fX12_sayHl σ10 ) (fun σ12 =>
  fX12_sayZero_133 σ12 x3 x4))
def fX12_sayZero_186  (σ : zSt) (x3 : Int32) (s0 : Nat) : Option (zSt) :=
  zbu (fX12_say σ s0) (fun σ13 =>
  zbu (fX12_sayRp σ13 x3 0) (fun σ14 =>
  fX12_sayZero_301 σ14))
def fX12_sayZero_269  (σ : zSt) (x3 : Int32) (x4 : Int32) : Option (zSt) :=
  if x4 = 0 then zbu (fX12_say σ 83) (fun σ15 =>
  if x3 = 2 then zbu (fX12_sayHl σ15 ) (fun σ17 =>
  fX12_sayZero_301 σ17) else
  zbu (fX12_say σ15 99) (fun σ16 =>
  fX12_sayZero_301 σ16)) else
  some σ
def fX12_sayZero_255  (σ : zSt) (x3 : Int32) (x4 : Int32) (s0 : Nat) : Option (zSt) :=
  zbu (fX12_say σ s0) (fun σ18 =>
  fX12_sayZero_269 σ18 x3 x4)
def fX12_sayZero_236  (σ : zSt) (x3 : Int32) (x4 : Int32) : Option (zSt) :=
  if 2 ≤ x3 then zbi (fX12_takenWord σ ) (fun σ19 v20 =>
  zbu (fX12_sayPlaced σ19 v20) (fun σ21 =>
  fX12_sayZero_269 σ21 x3 x4)) else
  if x3 = 0 then fX12_sayZero_255 σ x3 x4 118 else
  fX12_sayZero_255 σ x3 x4 119
def fX12_sayZero_229  (σ : zSt) (x3 : Int32) (x4 : Int32) : Option (zSt) :=
  zbu (fX12_say σ 83) (fun σ22 =>
  fX12_sayZero_236 σ22 x3 x4)
def fX12_sayZero_16  (σ : zSt) (x1 : Int32) (x2 : Int32) (x3 : Int32) (s0 : Int32) : Option (zSt) :=
  if x2 = 0 then if x1 = 0 then fX12_sayZero_58 σ x1 71 else
  if x1 = 1 then fX12_sayZero_58 σ x1 100 else
  if x1 = 2 then fX12_sayZero_58 σ x1 101 else
  fX12_sayZero_58 σ x1 102 else
  if x2 = 1 then if s0 = 0 then fX12_sayZero_112 σ x3 s0 111 else
  fX12_sayZero_112 σ x3 s0 110 else
  if x2 = 3 then if s0 = 0 then fX12_sayZero_186 σ x3 117 else
  fX12_sayZero_186 σ x3 116 else
  zbu (fX12_say σ 111) (fun σ23 =>
  if s0 = 0 then fX12_sayZero_236 σ23 x3 s0 else
  if x3 = 2 then zbu (fX12_sayHl σ23 ) (fun σ25 =>
  fX12_sayZero_229 σ25 x3 s0) else
  zbu (fX12_say σ23 99) (fun σ24 =>
  fX12_sayZero_229 σ24 x3 s0))
def fX12_sayZero  (σ : zSt) (x1 : Int32) (x2 : Int32) : Option (zSt) :=
  zbv (x1 >>> ((1 : Int32) &&& 31)) (fun v26 =>
  zck (decide (¬ 2 = 0)) (
  if (zrem x1 2) = 1 then fX12_sayZero_16 σ x1 x2 v26 1 else
  fX12_sayZero_16 σ x1 x2 v26 0))
set_option maxRecDepth 20000 in
set_option maxHeartbeats 4000000 in
theorem bX12_sayZero_301 {st : Nat → Nat} {p : Program} {l : Launch} {e : Env} {s : State} {m : MethodId} {args : Array Value} {below : List Frame} {meth : Method} {c : Code} {D : va_G} {A : Nat → Prop} {ad : Nat → Nat} {cy : Nat → ClassId} (hC : zC p m c cX12_sayZero 5 s args wzX12_sayZero RX12 meth none)  {res : zSt} {H : Heap} {locs : List Loc} {σ : zSt} {ls : Array Slot}  (hI : zI st D (tM cy) (wM ad cy σ) A s H locs) (hl : lv_has ls 5 []) (hf : fX12_sayZero_301  σ  = some res) : W p l e rmX12_sayZero s m args below meth c H locs 0 0 (zQu below args s D (tM cy) (wM ad cy) A res) (F0 m 301 ls []) := by
  have hx := hC.1
  have hb := hC.2.1
  unfold fX12_sayZero_301 at hf
  exact z_return hC hI hf dX12_sayZero_301
set_option maxRecDepth 20000 in
set_option maxHeartbeats 4000000 in
theorem bX12_sayZero_80 {st : Nat → Nat} {p : Program} {l : Launch} {e : Env} {s : State} {m : MethodId} {args : Array Value} {below : List Frame} {meth : Method} {c : Code} {D : va_G} {A : Nat → Prop} {ad : Nat → Nat} {cy : Nat → ClassId} (hC : zC p m c cX12_sayZero 5 s args wzX12_sayZero RX12 meth none)  {res : zSt} {H : Heap} {locs : List Loc} {σ : zSt} {ls : Array Slot} {x1 : Int32} (hI : zI st D (tM cy) (wM ad cy σ) A s H locs) (hl : lv_has ls 5 [(0, .ref (ad 0)), (1, .int x1)]) (hf : fX12_sayZero_80  σ x1 = some res) : W p l e rmX12_sayZero s m args below meth c H locs 0 0 (zQu below args s D (tM cy) (wM ad cy) A res) (F0 m 80 ls []) := by
  have hx := hC.1
  have hb := hC.2.1
  unfold fX12_sayZero_80 at hf
  refine lv_iload_n hx hb dX12_sayZero_80 rfl (lv_at hl 1 rfl) ?_
  refine lv_iconst (v := 1) hx hb dX12_sayZero_81 (by decide) ?_
  refine lv_icmp_le (tgt := 301) hx hb dX12_sayZero_82 (by decide) (fun q => ?_) (fun q => ?_)
  · replace hf := zif_t q hf
    exact bX12_sayZero_301 hC  hI (lv_sub hl [] rfl) hf
  replace hf := zif_f q hf
  refine lv_aload_n hx hb dX12_sayZero_85 rfl (lv_at hl 0 rfl) ?_
  obtain ⟨σ1, g1, hf⟩ := zbu_use hf
  refine z_callVu (As := []) (rest := []) hC hI (cX12_sayJump_met st l D ad cy σ  _ g1) (zgV zw76_12 zw76_13 zw76_14 zw1_5 zw76_15) rfl ⟨rfl, rfl⟩ 0 hdX12_sayJump ⟨Nat.le_of_ble_eq_true rfl, Nat.le_of_ble_eq_true rfl⟩ rfl rfl (wM_e0 ad cy σ) rfl hl rfl (Nat.le_of_ble_eq_true rfl) dX12_sayZero_86 ⟨Nat.zero_le _, Nat.zero_le _⟩ (fun H locs hI => ?_)
  refine lv_goto (tgt := 301) hx hb dX12_sayZero_89 (by decide) ?_
  exact bX12_sayZero_301 hC  hI (lv_sub hl [] rfl) hf
set_option maxRecDepth 20000 in
set_option maxHeartbeats 4000000 in
theorem bX12_sayZero_58 {st : Nat → Nat} {p : Program} {l : Launch} {e : Env} {s : State} {m : MethodId} {args : Array Value} {below : List Frame} {meth : Method} {c : Code} {D : va_G} {A : Nat → Prop} {ad : Nat → Nat} {cy : Nat → ClassId} (hC : zC p m c cX12_sayZero 5 s args wzX12_sayZero RX12 meth none)  {res : zSt} {H : Heap} {locs : List Loc} {σ : zSt} {ls : Array Slot} {x1 : Int32} {s0 : Nat} (hI : zI st D (tM cy) (wM ad cy σ) A s H locs) (hl : lv_has ls 5 [(0, .ref (ad 0)), (1, .int x1)]) (hf : fX12_sayZero_58  σ x1 s0 = some res) : W p l e rmX12_sayZero s m args below meth c H locs 0 0 (zQu below args s D (tM cy) (wM ad cy) A res) (F0 m 58 ls [.ref (st (100 + s0)), .ref (ad 0)]) := by
  have hx := hC.1
  have hb := hC.2.1
  unfold fX12_sayZero_58 at hf
  obtain ⟨σ2, g2, hf⟩ := zbu_use hf
  refine z_callVu (As := [.ref (st (100 + s0))]) (rest := []) hC hI (cX12_say_met st l D ad cy σ s0 _ g2) (zgV zw74_23 zw75_0 zw75_1 zw1_5 zw75_2) rfl ⟨rfl, rfl⟩ 1 hdX12_say ⟨Nat.le_of_ble_eq_true rfl, Nat.le_of_ble_eq_true rfl⟩ rfl rfl (wM_e0 ad cy σ) rfl hl rfl (Nat.le_of_ble_eq_true rfl) dX12_sayZero_58 ⟨Nat.zero_le _, Nat.zero_le _⟩ (fun H locs hI => ?_)
  refine lv_iload_n hx hb dX12_sayZero_61 rfl (lv_at hl 1 rfl) ?_
  refine lv_iconst (v := 3) hx hb dX12_sayZero_62 (by decide) ?_
  refine lv_icmp_le (tgt := 80) hx hb dX12_sayZero_63 (by decide) (fun q => ?_) (fun q => ?_)
  · replace hf := zif_t q hf
    exact bX12_sayZero_80 hC  hI hl hf
  replace hf := zif_f q hf
  refine lv_aload_n hx hb dX12_sayZero_66 rfl (lv_at hl 0 rfl) ?_
  refine lv_iload_n hx hb dX12_sayZero_67 rfl (lv_at hl 1 rfl) ?_
  refine lv_iconst (v := 4) hx hb dX12_sayZero_68 (by decide) ?_
  refine lv_isub hx hb dX12_sayZero_69 ?_
  obtain ⟨σ3, g3, hf⟩ := zbu_use hf
  refine z_callVu (As := [.int (x1 - 4)]) (rest := []) hC hI (cX12_sayCc_met st l D ad cy σ2 (x1 - 4) _ g3) (zgV zw76_8 zw76_9 zw76_10 zw1_5 zw76_11) rfl ⟨rfl, rfl⟩ 1 hdX12_sayCc ⟨Nat.le_of_ble_eq_true rfl, Nat.le_of_ble_eq_true rfl⟩ rfl rfl (wM_e0 ad cy σ2) rfl hl rfl (Nat.le_of_ble_eq_true rfl) dX12_sayZero_70 ⟨Nat.zero_le _, Nat.zero_le _⟩ (fun H locs hI => ?_)
  refine lv_aload_n hx hb dX12_sayZero_73 rfl (lv_at hl 0 rfl) ?_
  refine z_ldcSW hC hI 83 (by decide) rfl rfl dX12_sayZero_74 ?_
  obtain ⟨σ4, g4, hf⟩ := zbu_use hf
  refine z_callVu (As := [.ref (st (100 + 83))]) (rest := []) hC hI (cX12_say_met st l D ad cy σ3 83 _ g4) (zgV zw74_23 zw75_0 zw75_1 zw1_5 zw75_2) rfl ⟨rfl, rfl⟩ 1 hdX12_say ⟨Nat.le_of_ble_eq_true rfl, Nat.le_of_ble_eq_true rfl⟩ rfl rfl (wM_e0 ad cy σ3) rfl hl rfl (Nat.le_of_ble_eq_true rfl) dX12_sayZero_77 ⟨Nat.zero_le _, Nat.zero_le _⟩ (fun H locs hI => ?_)
  exact bX12_sayZero_80 hC  hI hl hf
set_option maxRecDepth 20000 in
set_option maxHeartbeats 4000000 in
theorem bX12_sayZero_133 {st : Nat → Nat} {p : Program} {l : Launch} {e : Env} {s : State} {m : MethodId} {args : Array Value} {below : List Frame} {meth : Method} {c : Code} {D : va_G} {A : Nat → Prop} {ad : Nat → Nat} {cy : Nat → ClassId} (hC : zC p m c cX12_sayZero 5 s args wzX12_sayZero RX12 meth none)  {res : zSt} {H : Heap} {locs : List Loc} {σ : zSt} {ls : Array Slot} {x3 : Int32} {x4 : Int32} (hI : zI st D (tM cy) (wM ad cy σ) A s H locs) (hl : lv_has ls 5 [(0, .ref (ad 0)), (3, .int x3), (4, .int x4)]) (hf : fX12_sayZero_133  σ x3 x4 = some res) : W p l e rmX12_sayZero s m args below meth c H locs 0 0 (zQu below args s D (tM cy) (wM ad cy) A res) (F0 m 133 ls []) := by
  have hx := hC.1
  have hb := hC.2.1
  unfold fX12_sayZero_133 at hf
  refine lv_aload_n hx hb dX12_sayZero_133 rfl (lv_at hl 0 rfl) ?_
  refine z_ldcSW hC hI 83 (by decide) rfl rfl dX12_sayZero_134 ?_
  obtain ⟨σ5, g5, hf⟩ := zbu_use hf
  refine z_callVu (As := [.ref (st (100 + 83))]) (rest := []) hC hI (cX12_say_met st l D ad cy σ 83 _ g5) (zgV zw74_23 zw75_0 zw75_1 zw1_5 zw75_2) rfl ⟨rfl, rfl⟩ 1 hdX12_say ⟨Nat.le_of_ble_eq_true rfl, Nat.le_of_ble_eq_true rfl⟩ rfl rfl (wM_e0 ad cy σ) rfl hl rfl (Nat.le_of_ble_eq_true rfl) dX12_sayZero_137 ⟨Nat.zero_le _, Nat.zero_le _⟩ (fun H locs hI => ?_)
  refine lv_iload hx hb dX12_sayZero_140 (lv_at hl 2 rfl) ?_
  refine lv_if_eq (tgt := 154) hx hb dX12_sayZero_142 (by decide) (fun q => ?_) (fun q => ?_)
  · replace hf := zif_t q hf
    refine lv_aload_n hx hb dX12_sayZero_154 rfl (lv_at hl 0 rfl) ?_
    refine lv_aload_n hx hb dX12_sayZero_155 rfl (lv_at hl 0 rfl) ?_
    obtain ⟨σ6, v7, g6, hf⟩ := zbi_use hf
    refine z_callVi (As := []) (rest := [.ref (ad 0)]) hC hI (cX12_takenWord_met st l D ad cy σ5  _ g6) (zgV zw76_20 zw76_21 zw76_22 zw1_5 zw76_23) rfl ⟨rfl, rfl⟩ 0 hdX12_takenWord ⟨Nat.le_of_ble_eq_true rfl, Nat.le_of_ble_eq_true rfl⟩ rfl rfl (wM_e0 ad cy σ5) rfl hl rfl (Nat.le_of_ble_eq_true rfl) dX12_sayZero_156 ⟨Nat.zero_le _, Nat.zero_le _⟩ (fun H locs hI => ?_)
    refine lv_iconst (v := 4) hx hb dX12_sayZero_159 (by decide) ?_
    obtain ⟨σ8, g8, hf⟩ := zbu_use hf
    refine z_callVu (As := [.int v7, .int 4]) (rest := []) hC hI (cX12_hex_met st l D ad cy σ6 v7 4 _ g8) (zgV zw75_8 zw75_9 zw75_10 zw1_5 zw75_11) rfl ⟨rfl, rfl⟩ 2 hdX12_hex ⟨Nat.le_of_ble_eq_true rfl, Nat.le_of_ble_eq_true rfl⟩ rfl rfl (wM_e0 ad cy σ6) rfl hl rfl (Nat.le_of_ble_eq_true rfl) dX12_sayZero_160 ⟨Nat.zero_le _, Nat.zero_le _⟩ (fun H locs hI => ?_)
    refine lv_goto (tgt := 301) hx hb dX12_sayZero_163 (by decide) ?_
    exact bX12_sayZero_301 hC  hI (lv_sub hl [] rfl) hf
  replace hf := zif_f q hf
  refine lv_aload_n hx hb dX12_sayZero_145 rfl (lv_at hl 0 rfl) ?_
  refine lv_iload_n hx hb dX12_sayZero_146 rfl (lv_at hl 1 rfl) ?_
  refine lv_iconst (v := 0) hx hb dX12_sayZero_147 (by decide) ?_
  obtain ⟨σ9, g9, hf⟩ := zbu_use hf
  refine z_callVu (As := [.int x3, .int 0]) (rest := []) hC hI (cX12_sayRp_met st l D ad cy σ5 x3 0 _ g9) (zgV zw76_16 zw76_17 zw76_18 zw1_5 zw76_19) rfl ⟨rfl, rfl⟩ 2 hdX12_sayRp ⟨Nat.le_of_ble_eq_true rfl, Nat.le_of_ble_eq_true rfl⟩ rfl rfl (wM_e0 ad cy σ5) rfl hl rfl (Nat.le_of_ble_eq_true rfl) dX12_sayZero_148 ⟨Nat.zero_le _, Nat.zero_le _⟩ (fun H locs hI => ?_)
  refine lv_goto (tgt := 301) hx hb dX12_sayZero_151 (by decide) ?_
  exact bX12_sayZero_301 hC  hI (lv_sub hl [] rfl) hf
set_option maxRecDepth 20000 in
set_option maxHeartbeats 4000000 in
theorem bX12_sayZero_112 {st : Nat → Nat} {p : Program} {l : Launch} {e : Env} {s : State} {m : MethodId} {args : Array Value} {below : List Frame} {meth : Method} {c : Code} {D : va_G} {A : Nat → Prop} {ad : Nat → Nat} {cy : Nat → ClassId} (hC : zC p m c cX12_sayZero 5 s args wzX12_sayZero RX12 meth none)  {res : zSt} {H : Heap} {locs : List Loc} {σ : zSt} {ls : Array Slot} {x3 : Int32} {x4 : Int32} {s0 : Nat} (hI : zI st D (tM cy) (wM ad cy σ) A s H locs) (hl : lv_has ls 5 [(0, .ref (ad 0)), (3, .int x3), (4, .int x4)]) (hf : fX12_sayZero_112  σ x3 x4 s0 = some res) : W p l e rmX12_sayZero s m args below meth c H locs 0 0 (zQu below args s D (tM cy) (wM ad cy) A res) (F0 m 112 ls [.ref (st (100 + s0)), .ref (ad 0)]) := by
  have hx := hC.1
  have hb := hC.2.1
  unfold fX12_sayZero_112 at hf
  obtain ⟨σ10, g10, hf⟩ := zbu_use hf
  refine z_callVu (As := [.ref (st (100 + s0))]) (rest := []) hC hI (cX12_say_met st l D ad cy σ s0 _ g10) (zgV zw74_23 zw75_0 zw75_1 zw1_5 zw75_2) rfl ⟨rfl, rfl⟩ 1 hdX12_say ⟨Nat.le_of_ble_eq_true rfl, Nat.le_of_ble_eq_true rfl⟩ rfl rfl (wM_e0 ad cy σ) rfl hl rfl (Nat.le_of_ble_eq_true rfl) dX12_sayZero_112 ⟨Nat.zero_le _, Nat.zero_le _⟩ (fun H locs hI => ?_)
  refine lv_iload hx hb dX12_sayZero_115 (lv_at hl 2 rfl) ?_
  refine lv_if_eq (tgt := 127) hx hb dX12_sayZero_117 (by decide) (fun q => ?_) (fun q => ?_)
  · replace hf := zif_t q hf
    refine lv_aload_n hx hb dX12_sayZero_127 rfl (lv_at hl 0 rfl) ?_
    refine lv_iload_n hx hb dX12_sayZero_128 rfl (lv_at hl 1 rfl) ?_
    refine lv_iconst (v := 0) hx hb dX12_sayZero_129 (by decide) ?_
    obtain ⟨σ11, g11, hf⟩ := zbu_use hf
    refine z_callVu (As := [.int x3, .int 0]) (rest := []) hC hI (cX12_sayRp_met st l D ad cy σ10 x3 0 _ g11) (zgV zw76_16 zw76_17 zw76_18 zw1_5 zw76_19) rfl ⟨rfl, rfl⟩ 2 hdX12_sayRp ⟨Nat.le_of_ble_eq_true rfl, Nat.le_of_ble_eq_true rfl⟩ rfl rfl (wM_e0 ad cy σ10) rfl hl rfl (Nat.le_of_ble_eq_true rfl) dX12_sayZero_130 ⟨Nat.zero_le _, Nat.zero_le _⟩ (fun H locs hI => ?_)
    exact bX12_sayZero_133 hC  hI hl hf
  replace hf := zif_f q hf
  refine lv_aload_n hx hb dX12_sayZero_120 rfl (lv_at hl 0 rfl) ?_
  obtain ⟨σ12, g12, hf⟩ := zbu_use hf
  refine z_callVu (As := []) (rest := []) hC hI (cX12_sayHl_met st l D ad cy σ10  _ g12) (zgV zw75_20 zw75_21 zw75_22 zw1_5 zw75_23) rfl ⟨rfl, rfl⟩ 0 hdX12_sayHl ⟨Nat.le_of_ble_eq_true rfl, Nat.le_of_ble_eq_true rfl⟩ rfl rfl (wM_e0 ad cy σ10) rfl hl rfl (Nat.le_of_ble_eq_true rfl) dX12_sayZero_121 ⟨Nat.zero_le _, Nat.zero_le _⟩ (fun H locs hI => ?_)
  refine lv_goto (tgt := 133) hx hb dX12_sayZero_124 (by decide) ?_
  exact bX12_sayZero_133 hC  hI hl hf
set_option maxRecDepth 20000 in
set_option maxHeartbeats 4000000 in
theorem bX12_sayZero_186 {st : Nat → Nat} {p : Program} {l : Launch} {e : Env} {s : State} {m : MethodId} {args : Array Value} {below : List Frame} {meth : Method} {c : Code} {D : va_G} {A : Nat → Prop} {ad : Nat → Nat} {cy : Nat → ClassId} (hC : zC p m c cX12_sayZero 5 s args wzX12_sayZero RX12 meth none)  {res : zSt} {H : Heap} {locs : List Loc} {σ : zSt} {ls : Array Slot} {x3 : Int32} {s0 : Nat} (hI : zI st D (tM cy) (wM ad cy σ) A s H locs) (hl : lv_has ls 5 [(0, .ref (ad 0)), (3, .int x3)]) (hf : fX12_sayZero_186  σ x3 s0 = some res) : W p l e rmX12_sayZero s m args below meth c H locs 0 0 (zQu below args s D (tM cy) (wM ad cy) A res) (F0 m 186 ls [.ref (st (100 + s0)), .ref (ad 0)]) := by
  have hx := hC.1
  have hb := hC.2.1
  unfold fX12_sayZero_186 at hf
  obtain ⟨σ13, g13, hf⟩ := zbu_use hf
  refine z_callVu (As := [.ref (st (100 + s0))]) (rest := []) hC hI (cX12_say_met st l D ad cy σ s0 _ g13) (zgV zw74_23 zw75_0 zw75_1 zw1_5 zw75_2) rfl ⟨rfl, rfl⟩ 1 hdX12_say ⟨Nat.le_of_ble_eq_true rfl, Nat.le_of_ble_eq_true rfl⟩ rfl rfl (wM_e0 ad cy σ) rfl hl rfl (Nat.le_of_ble_eq_true rfl) dX12_sayZero_186 ⟨Nat.zero_le _, Nat.zero_le _⟩ (fun H locs hI => ?_)
  refine lv_aload_n hx hb dX12_sayZero_189 rfl (lv_at hl 0 rfl) ?_
  refine lv_iload_n hx hb dX12_sayZero_190 rfl (lv_at hl 1 rfl) ?_
  refine lv_iconst (v := 0) hx hb dX12_sayZero_191 (by decide) ?_
  obtain ⟨σ14, g14, hf⟩ := zbu_use hf
  refine z_callVu (As := [.int x3, .int 0]) (rest := []) hC hI (cX12_sayRp_met st l D ad cy σ13 x3 0 _ g14) (zgV zw76_16 zw76_17 zw76_18 zw1_5 zw76_19) rfl ⟨rfl, rfl⟩ 2 hdX12_sayRp ⟨Nat.le_of_ble_eq_true rfl, Nat.le_of_ble_eq_true rfl⟩ rfl rfl (wM_e0 ad cy σ13) rfl hl rfl (Nat.le_of_ble_eq_true rfl) dX12_sayZero_192 ⟨Nat.zero_le _, Nat.zero_le _⟩ (fun H locs hI => ?_)
  refine lv_goto (tgt := 301) hx hb dX12_sayZero_195 (by decide) ?_
  exact bX12_sayZero_301 hC  hI (lv_sub hl [] rfl) hf
set_option maxRecDepth 20000 in
set_option maxHeartbeats 4000000 in
theorem bX12_sayZero_269 {st : Nat → Nat} {p : Program} {l : Launch} {e : Env} {s : State} {m : MethodId} {args : Array Value} {below : List Frame} {meth : Method} {c : Code} {D : va_G} {A : Nat → Prop} {ad : Nat → Nat} {cy : Nat → ClassId} (hC : zC p m c cX12_sayZero 5 s args wzX12_sayZero RX12 meth none)  {res : zSt} {H : Heap} {locs : List Loc} {σ : zSt} {ls : Array Slot} {x3 : Int32} {x4 : Int32} (hI : zI st D (tM cy) (wM ad cy σ) A s H locs) (hl : lv_has ls 5 [(0, .ref (ad 0)), (3, .int x3), (4, .int x4)]) (hf : fX12_sayZero_269  σ x3 x4 = some res) : W p l e rmX12_sayZero s m args below meth c H locs 0 0 (zQu below args s D (tM cy) (wM ad cy) A res) (F0 m 269 ls []) := by
  have hx := hC.1
  have hb := hC.2.1
  unfold fX12_sayZero_269 at hf
  refine lv_iload hx hb dX12_sayZero_269 (lv_at hl 2 rfl) ?_
  refine lv_if_eq (tgt := 275) hx hb dX12_sayZero_271 (by decide) (fun q => ?_) (fun q => ?_)
  · replace hf := zif_t q hf
    refine lv_aload_n hx hb dX12_sayZero_275 rfl (lv_at hl 0 rfl) ?_
    refine z_ldcSW hC hI 83 (by decide) rfl rfl dX12_sayZero_276 ?_
    obtain ⟨σ15, g15, hf⟩ := zbu_use hf
    refine z_callVu (As := [.ref (st (100 + 83))]) (rest := []) hC hI (cX12_say_met st l D ad cy σ 83 _ g15) (zgV zw74_23 zw75_0 zw75_1 zw1_5 zw75_2) rfl ⟨rfl, rfl⟩ 1 hdX12_say ⟨Nat.le_of_ble_eq_true rfl, Nat.le_of_ble_eq_true rfl⟩ rfl rfl (wM_e0 ad cy σ) rfl hl rfl (Nat.le_of_ble_eq_true rfl) dX12_sayZero_279 ⟨Nat.zero_le _, Nat.zero_le _⟩ (fun H locs hI => ?_)
    refine lv_iload_n hx hb dX12_sayZero_282 rfl (lv_at hl 1 rfl) ?_
    refine lv_iconst (v := 2) hx hb dX12_sayZero_283 (by decide) ?_
    refine lv_icmp_ne (tgt := 294) hx hb dX12_sayZero_284 (by decide) (fun q => ?_) (fun q => ?_)
    · replace hf := zif_f q hf
      refine lv_aload_n hx hb dX12_sayZero_294 rfl (lv_at hl 0 rfl) ?_
      refine z_ldcSW hC hI 99 (by decide) rfl rfl dX12_sayZero_295 ?_
      obtain ⟨σ16, g16, hf⟩ := zbu_use hf
      refine z_callVu (As := [.ref (st (100 + 99))]) (rest := []) hC hI (cX12_say_met st l D ad cy σ15 99 _ g16) (zgV zw74_23 zw75_0 zw75_1 zw1_5 zw75_2) rfl ⟨rfl, rfl⟩ 1 hdX12_say ⟨Nat.le_of_ble_eq_true rfl, Nat.le_of_ble_eq_true rfl⟩ rfl rfl (wM_e0 ad cy σ15) rfl hl rfl (Nat.le_of_ble_eq_true rfl) dX12_sayZero_298 ⟨Nat.zero_le _, Nat.zero_le _⟩ (fun H locs hI => ?_)
      exact bX12_sayZero_301 hC  hI (lv_sub hl [] rfl) hf
    replace hf := zif_t q hf
    refine lv_aload_n hx hb dX12_sayZero_287 rfl (lv_at hl 0 rfl) ?_
    obtain ⟨σ17, g17, hf⟩ := zbu_use hf
    refine z_callVu (As := []) (rest := []) hC hI (cX12_sayHl_met st l D ad cy σ15  _ g17) (zgV zw75_20 zw75_21 zw75_22 zw1_5 zw75_23) rfl ⟨rfl, rfl⟩ 0 hdX12_sayHl ⟨Nat.le_of_ble_eq_true rfl, Nat.le_of_ble_eq_true rfl⟩ rfl rfl (wM_e0 ad cy σ15) rfl hl rfl (Nat.le_of_ble_eq_true rfl) dX12_sayZero_288 ⟨Nat.zero_le _, Nat.zero_le _⟩ (fun H locs hI => ?_)
    refine lv_goto (tgt := 301) hx hb dX12_sayZero_291 (by decide) ?_
    exact bX12_sayZero_301 hC  hI (lv_sub hl [] rfl) hf
  replace hf := zif_f q hf
  exact z_return hC hI hf dX12_sayZero_274
set_option maxRecDepth 20000 in
set_option maxHeartbeats 4000000 in
theorem bX12_sayZero_255 {st : Nat → Nat} {p : Program} {l : Launch} {e : Env} {s : State} {m : MethodId} {args : Array Value} {below : List Frame} {meth : Method} {c : Code} {D : va_G} {A : Nat → Prop} {ad : Nat → Nat} {cy : Nat → ClassId} (hC : zC p m c cX12_sayZero 5 s args wzX12_sayZero RX12 meth none)  {res : zSt} {H : Heap} {locs : List Loc} {σ : zSt} {ls : Array Slot} {x3 : Int32} {x4 : Int32} {s0 : Nat} (hI : zI st D (tM cy) (wM ad cy σ) A s H locs) (hl : lv_has ls 5 [(0, .ref (ad 0)), (3, .int x3), (4, .int x4)]) (hf : fX12_sayZero_255  σ x3 x4 s0 = some res) : W p l e rmX12_sayZero s m args below meth c H locs 0 0 (zQu below args s D (tM cy) (wM ad cy) A res) (F0 m 255 ls [.ref (st (100 + s0)), .ref (ad 0)]) := by
  have hx := hC.1
  have hb := hC.2.1
  unfold fX12_sayZero_255 at hf
  obtain ⟨σ18, g18, hf⟩ := zbu_use hf
  refine z_callVu (As := [.ref (st (100 + s0))]) (rest := []) hC hI (cX12_say_met st l D ad cy σ s0 _ g18) (zgV zw74_23 zw75_0 zw75_1 zw1_5 zw75_2) rfl ⟨rfl, rfl⟩ 1 hdX12_say ⟨Nat.le_of_ble_eq_true rfl, Nat.le_of_ble_eq_true rfl⟩ rfl rfl (wM_e0 ad cy σ) rfl hl rfl (Nat.le_of_ble_eq_true rfl) dX12_sayZero_255 ⟨Nat.zero_le _, Nat.zero_le _⟩ (fun H locs hI => ?_)
  refine lv_goto (tgt := 269) hx hb dX12_sayZero_258 (by decide) ?_
  exact bX12_sayZero_269 hC  hI hl hf
set_option maxRecDepth 20000 in
set_option maxHeartbeats 4000000 in
theorem bX12_sayZero_236 {st : Nat → Nat} {p : Program} {l : Launch} {e : Env} {s : State} {m : MethodId} {args : Array Value} {below : List Frame} {meth : Method} {c : Code} {D : va_G} {A : Nat → Prop} {ad : Nat → Nat} {cy : Nat → ClassId} (hC : zC p m c cX12_sayZero 5 s args wzX12_sayZero RX12 meth none)  {res : zSt} {H : Heap} {locs : List Loc} {σ : zSt} {ls : Array Slot} {x3 : Int32} {x4 : Int32} (hI : zI st D (tM cy) (wM ad cy σ) A s H locs) (hl : lv_has ls 5 [(0, .ref (ad 0)), (3, .int x3), (4, .int x4)]) (hf : fX12_sayZero_236  σ x3 x4 = some res) : W p l e rmX12_sayZero s m args below meth c H locs 0 0 (zQu below args s D (tM cy) (wM ad cy) A res) (F0 m 236 ls []) := by
  have hx := hC.1
  have hb := hC.2.1
  unfold fX12_sayZero_236 at hf
  refine lv_iload_n hx hb dX12_sayZero_236 rfl (lv_at hl 1 rfl) ?_
  refine lv_iconst (v := 2) hx hb dX12_sayZero_237 (by decide) ?_
  refine lv_icmp_ge (tgt := 261) hx hb dX12_sayZero_238 (by decide) (fun q => ?_) (fun q => ?_)
  · replace hf := zif_t q hf
    refine lv_aload_n hx hb dX12_sayZero_261 rfl (lv_at hl 0 rfl) ?_
    refine lv_aload_n hx hb dX12_sayZero_262 rfl (lv_at hl 0 rfl) ?_
    obtain ⟨σ19, v20, g19, hf⟩ := zbi_use hf
    refine z_callVi (As := []) (rest := [.ref (ad 0)]) hC hI (cX12_takenWord_met st l D ad cy σ  _ g19) (zgV zw76_20 zw76_21 zw76_22 zw1_5 zw76_23) rfl ⟨rfl, rfl⟩ 0 hdX12_takenWord ⟨Nat.le_of_ble_eq_true rfl, Nat.le_of_ble_eq_true rfl⟩ rfl rfl (wM_e0 ad cy σ) rfl hl rfl (Nat.le_of_ble_eq_true rfl) dX12_sayZero_263 ⟨Nat.zero_le _, Nat.zero_le _⟩ (fun H locs hI => ?_)
    obtain ⟨σ21, g21, hf⟩ := zbu_use hf
    refine z_callVu (As := [.int v20]) (rest := []) hC hI (cX12_sayPlaced_met st l D ad cy σ19 v20 _ g21) (zgV zw77_0 zw77_1 zw77_2 zw1_5 zw77_3) rfl ⟨rfl, rfl⟩ 1 hdX12_sayPlaced ⟨Nat.le_of_ble_eq_true rfl, Nat.le_of_ble_eq_true rfl⟩ rfl rfl (wM_e0 ad cy σ19) rfl hl rfl (Nat.le_of_ble_eq_true rfl) dX12_sayZero_266 ⟨Nat.zero_le _, Nat.zero_le _⟩ (fun H locs hI => ?_)
    exact bX12_sayZero_269 hC  hI hl hf
  replace hf := zif_f q hf
  refine lv_aload_n hx hb dX12_sayZero_241 rfl (lv_at hl 0 rfl) ?_
  refine lv_iload_n hx hb dX12_sayZero_242 rfl (lv_at hl 1 rfl) ?_
  refine lv_if_ne (tgt := 252) hx hb dX12_sayZero_243 (by decide) (fun q => ?_) (fun q => ?_)
  · replace hf := zif_f q hf
    refine z_ldcSW hC hI 119 (by decide) rfl rfl dX12_sayZero_252 ?_
    exact bX12_sayZero_255 hC  hI hl hf
  replace hf := zif_t q hf
  refine z_ldcSW hC hI 118 (by decide) rfl rfl dX12_sayZero_246 ?_
  refine lv_goto (tgt := 255) hx hb dX12_sayZero_249 (by decide) ?_
  exact bX12_sayZero_255 hC  hI hl hf
set_option maxRecDepth 20000 in
set_option maxHeartbeats 4000000 in
theorem bX12_sayZero_229 {st : Nat → Nat} {p : Program} {l : Launch} {e : Env} {s : State} {m : MethodId} {args : Array Value} {below : List Frame} {meth : Method} {c : Code} {D : va_G} {A : Nat → Prop} {ad : Nat → Nat} {cy : Nat → ClassId} (hC : zC p m c cX12_sayZero 5 s args wzX12_sayZero RX12 meth none)  {res : zSt} {H : Heap} {locs : List Loc} {σ : zSt} {ls : Array Slot} {x3 : Int32} {x4 : Int32} (hI : zI st D (tM cy) (wM ad cy σ) A s H locs) (hl : lv_has ls 5 [(0, .ref (ad 0)), (3, .int x3), (4, .int x4)]) (hf : fX12_sayZero_229  σ x3 x4 = some res) : W p l e rmX12_sayZero s m args below meth c H locs 0 0 (zQu below args s D (tM cy) (wM ad cy) A res) (F0 m 229 ls []) := by
  have hx := hC.1
  have hb := hC.2.1
  unfold fX12_sayZero_229 at hf
  refine lv_aload_n hx hb dX12_sayZero_229 rfl (lv_at hl 0 rfl) ?_
  refine z_ldcSW hC hI 83 (by decide) rfl rfl dX12_sayZero_230 ?_
  obtain ⟨σ22, g22, hf⟩ := zbu_use hf
  refine z_callVu (As := [.ref (st (100 + 83))]) (rest := []) hC hI (cX12_say_met st l D ad cy σ 83 _ g22) (zgV zw74_23 zw75_0 zw75_1 zw1_5 zw75_2) rfl ⟨rfl, rfl⟩ 1 hdX12_say ⟨Nat.le_of_ble_eq_true rfl, Nat.le_of_ble_eq_true rfl⟩ rfl rfl (wM_e0 ad cy σ) rfl hl rfl (Nat.le_of_ble_eq_true rfl) dX12_sayZero_233 ⟨Nat.zero_le _, Nat.zero_le _⟩ (fun H locs hI => ?_)
  exact bX12_sayZero_236 hC  hI hl hf
set_option maxRecDepth 20000 in
set_option maxHeartbeats 4000000 in
theorem bX12_sayZero_16 {st : Nat → Nat} {p : Program} {l : Launch} {e : Env} {s : State} {m : MethodId} {args : Array Value} {below : List Frame} {meth : Method} {c : Code} {D : va_G} {A : Nat → Prop} {ad : Nat → Nat} {cy : Nat → ClassId} (hC : zC p m c cX12_sayZero 5 s args wzX12_sayZero RX12 meth none)  {res : zSt} {H : Heap} {locs : List Loc} {σ : zSt} {ls : Array Slot} {x1 : Int32} {x2 : Int32} {x3 : Int32} {s0 : Int32} (hI : zI st D (tM cy) (wM ad cy σ) A s H locs) (hl : lv_has ls 5 [(0, .ref (ad 0)), (1, .int x1), (2, .int x2), (3, .int x3)]) (hf : fX12_sayZero_16  σ x1 x2 x3 s0 = some res) : W p l e rmX12_sayZero s m args below meth c H locs 0 0 (zQu below args s D (tM cy) (wM ad cy) A res) (F0 m 16 ls [.int s0]) := by
  have hx := hC.1
  have hb := hC.2.1
  unfold fX12_sayZero_16 at hf
  refine lv_istore (lv' := [(4, .int s0), (0, .ref (ad 0)), (1, .int x1), (2, .int x2), (3, .int x3)]) hx hb dX12_sayZero_16 hl (by decide) rfl (fun ls hl => ?_)
  refine lv_iload_n hx hb dX12_sayZero_18 rfl (lv_at hl 3 rfl) ?_
  refine lv_if_ne (tgt := 92) hx hb dX12_sayZero_19 (by decide) (fun q => ?_) (fun q => ?_)
  · replace hf := zif_f q hf
    refine lv_iload_n hx hb dX12_sayZero_92 rfl (lv_at hl 3 rfl) ?_
    refine lv_iconst (v := 1) hx hb dX12_sayZero_93 (by decide) ?_
    refine lv_icmp_ne (tgt := 166) hx hb dX12_sayZero_94 (by decide) (fun q => ?_) (fun q => ?_)
    · replace hf := zif_f q hf
      refine lv_iload_n hx hb dX12_sayZero_166 rfl (lv_at hl 3 rfl) ?_
      refine lv_iconst (v := 3) hx hb dX12_sayZero_167 (by decide) ?_
      refine lv_icmp_ne (tgt := 198) hx hb dX12_sayZero_168 (by decide) (fun q => ?_) (fun q => ?_)
      · replace hf := zif_f q hf
        refine lv_aload_n hx hb dX12_sayZero_198 rfl (lv_at hl 1 rfl) ?_
        refine z_ldcSW hC hI 111 (by decide) rfl rfl dX12_sayZero_199 ?_
        obtain ⟨σ23, g23, hf⟩ := zbu_use hf
        refine z_callVu (As := [.ref (st (100 + 111))]) (rest := []) hC hI (cX12_say_met st l D ad cy σ 111 _ g23) (zgV zw74_23 zw75_0 zw75_1 zw1_5 zw75_2) rfl ⟨rfl, rfl⟩ 1 hdX12_say ⟨Nat.le_of_ble_eq_true rfl, Nat.le_of_ble_eq_true rfl⟩ rfl rfl (wM_e0 ad cy σ) rfl hl rfl (Nat.le_of_ble_eq_true rfl) dX12_sayZero_202 ⟨Nat.zero_le _, Nat.zero_le _⟩ (fun H locs hI => ?_)
        refine lv_iload hx hb dX12_sayZero_205 (lv_at hl 0 rfl) ?_
        refine lv_if_eq (tgt := 236) hx hb dX12_sayZero_207 (by decide) (fun q => ?_) (fun q => ?_)
        · replace hf := zif_t q hf
          exact bX12_sayZero_236 hC  hI (lv_sub hl [1, 4, 0] rfl) hf
        replace hf := zif_f q hf
        refine lv_iload_n hx hb dX12_sayZero_210 rfl (lv_at hl 4 rfl) ?_
        refine lv_iconst (v := 2) hx hb dX12_sayZero_211 (by decide) ?_
        refine lv_icmp_ne (tgt := 222) hx hb dX12_sayZero_212 (by decide) (fun q => ?_) (fun q => ?_)
        · replace hf := zif_f q hf
          refine lv_aload_n hx hb dX12_sayZero_222 rfl (lv_at hl 1 rfl) ?_
          refine z_ldcSW hC hI 99 (by decide) rfl rfl dX12_sayZero_223 ?_
          obtain ⟨σ24, g24, hf⟩ := zbu_use hf
          refine z_callVu (As := [.ref (st (100 + 99))]) (rest := []) hC hI (cX12_say_met st l D ad cy σ23 99 _ g24) (zgV zw74_23 zw75_0 zw75_1 zw1_5 zw75_2) rfl ⟨rfl, rfl⟩ 1 hdX12_say ⟨Nat.le_of_ble_eq_true rfl, Nat.le_of_ble_eq_true rfl⟩ rfl rfl (wM_e0 ad cy σ23) rfl hl rfl (Nat.le_of_ble_eq_true rfl) dX12_sayZero_226 ⟨Nat.zero_le _, Nat.zero_le _⟩ (fun H locs hI => ?_)
          exact bX12_sayZero_229 hC  hI (lv_sub hl [1, 4, 0] rfl) hf
        replace hf := zif_t q hf
        refine lv_aload_n hx hb dX12_sayZero_215 rfl (lv_at hl 1 rfl) ?_
        obtain ⟨σ25, g25, hf⟩ := zbu_use hf
        refine z_callVu (As := []) (rest := []) hC hI (cX12_sayHl_met st l D ad cy σ23  _ g25) (zgV zw75_20 zw75_21 zw75_22 zw1_5 zw75_23) rfl ⟨rfl, rfl⟩ 0 hdX12_sayHl ⟨Nat.le_of_ble_eq_true rfl, Nat.le_of_ble_eq_true rfl⟩ rfl rfl (wM_e0 ad cy σ23) rfl hl rfl (Nat.le_of_ble_eq_true rfl) dX12_sayZero_216 ⟨Nat.zero_le _, Nat.zero_le _⟩ (fun H locs hI => ?_)
        refine lv_goto (tgt := 229) hx hb dX12_sayZero_219 (by decide) ?_
        exact bX12_sayZero_229 hC  hI (lv_sub hl [1, 4, 0] rfl) hf
      replace hf := zif_t q hf
      refine lv_aload_n hx hb dX12_sayZero_171 rfl (lv_at hl 1 rfl) ?_
      refine lv_iload hx hb dX12_sayZero_172 (lv_at hl 0 rfl) ?_
      refine lv_if_eq (tgt := 183) hx hb dX12_sayZero_174 (by decide) (fun q => ?_) (fun q => ?_)
      · replace hf := zif_t q hf
        refine z_ldcSW hC hI 117 (by decide) rfl rfl dX12_sayZero_183 ?_
        exact bX12_sayZero_186 hC  hI (lv_sub hl [1, 4] rfl) hf
      replace hf := zif_f q hf
      refine z_ldcSW hC hI 116 (by decide) rfl rfl dX12_sayZero_177 ?_
      refine lv_goto (tgt := 186) hx hb dX12_sayZero_180 (by decide) ?_
      exact bX12_sayZero_186 hC  hI (lv_sub hl [1, 4] rfl) hf
    replace hf := zif_t q hf
    refine lv_aload_n hx hb dX12_sayZero_97 rfl (lv_at hl 1 rfl) ?_
    refine lv_iload hx hb dX12_sayZero_98 (lv_at hl 0 rfl) ?_
    refine lv_if_eq (tgt := 109) hx hb dX12_sayZero_100 (by decide) (fun q => ?_) (fun q => ?_)
    · replace hf := zif_t q hf
      refine z_ldcSW hC hI 111 (by decide) rfl rfl dX12_sayZero_109 ?_
      exact bX12_sayZero_112 hC  hI (lv_sub hl [1, 4, 0] rfl) hf
    replace hf := zif_f q hf
    refine z_ldcSW hC hI 110 (by decide) rfl rfl dX12_sayZero_103 ?_
    refine lv_goto (tgt := 112) hx hb dX12_sayZero_106 (by decide) ?_
    exact bX12_sayZero_112 hC  hI (lv_sub hl [1, 4, 0] rfl) hf
  replace hf := zif_t q hf
  refine lv_aload_n hx hb dX12_sayZero_22 rfl (lv_at hl 1 rfl) ?_
  refine lv_iload_n hx hb dX12_sayZero_23 rfl (lv_at hl 2 rfl) ?_
  refine lv_if_ne (tgt := 33) hx hb dX12_sayZero_24 (by decide) (fun q => ?_) (fun q => ?_)
  · replace hf := zif_f q hf
    refine lv_iload_n hx hb dX12_sayZero_33 rfl (lv_at hl 2 rfl) ?_
    refine lv_iconst (v := 1) hx hb dX12_sayZero_34 (by decide) ?_
    refine lv_icmp_ne (tgt := 44) hx hb dX12_sayZero_35 (by decide) (fun q => ?_) (fun q => ?_)
    · replace hf := zif_f q hf
      refine lv_iload_n hx hb dX12_sayZero_44 rfl (lv_at hl 2 rfl) ?_
      refine lv_iconst (v := 2) hx hb dX12_sayZero_45 (by decide) ?_
      refine lv_icmp_ne (tgt := 55) hx hb dX12_sayZero_46 (by decide) (fun q => ?_) (fun q => ?_)
      · replace hf := zif_f q hf
        refine z_ldcSW hC hI 102 (by decide) rfl rfl dX12_sayZero_55 ?_
        exact bX12_sayZero_58 hC  hI (lv_sub hl [1, 2] rfl) hf
      replace hf := zif_t q hf
      refine z_ldcSW hC hI 101 (by decide) rfl rfl dX12_sayZero_49 ?_
      refine lv_goto (tgt := 58) hx hb dX12_sayZero_52 (by decide) ?_
      exact bX12_sayZero_58 hC  hI (lv_sub hl [1, 2] rfl) hf
    replace hf := zif_t q hf
    refine z_ldcSW hC hI 100 (by decide) rfl rfl dX12_sayZero_38 ?_
    refine lv_goto (tgt := 58) hx hb dX12_sayZero_41 (by decide) ?_
    exact bX12_sayZero_58 hC  hI (lv_sub hl [1, 2] rfl) hf
  replace hf := zif_t q hf
  refine z_ldcSW hC hI 71 (by decide) rfl rfl dX12_sayZero_27 ?_
  refine lv_goto (tgt := 58) hx hb dX12_sayZero_30 (by decide) ?_
  exact bX12_sayZero_58 hC  hI (lv_sub hl [1, 2] rfl) hf
set_option maxRecDepth 20000 in
set_option maxHeartbeats 4000000 in
theorem bX12_sayZero {st : Nat → Nat} {p : Program} {l : Launch} {e : Env} {s : State} {m : MethodId} {args : Array Value} {below : List Frame} {meth : Method} {c : Code} {D : va_G} {A : Nat → Prop} {ad : Nat → Nat} {cy : Nat → ClassId} (hC : zC p m c cX12_sayZero 5 s args wzX12_sayZero RX12 meth none)  {res : zSt} {H : Heap} {locs : List Loc} {σ : zSt} {ls : Array Slot} {x1 : Int32} {x2 : Int32} (hI : zI st D (tM cy) (wM ad cy σ) A s H locs) (hl : lv_has ls 5 [(0, .ref (ad 0)), (1, .int x1), (2, .int x2)]) (hf : fX12_sayZero  σ x1 x2 = some res) : W p l e rmX12_sayZero s m args below meth c H locs 0 0 (zQu below args s D (tM cy) (wM ad cy) A res) (F0 m 0 ls []) := by
  have hx := hC.1
  have hb := hC.2.1
  unfold fX12_sayZero at hf
  refine lv_iload_n hx hb dX12_sayZero_0 rfl (lv_at hl 1 rfl) ?_
  refine lv_iconst (v := 1) hx hb dX12_sayZero_1 (by decide) ?_
  refine lv_ishr hx hb dX12_sayZero_2 ?_
  refine lv_topi (fun v26 ev26 => ?_)
  replace hf := zbv_use ev26 hf
  refine lv_istore_n (lv' := [(3, .int v26), (0, .ref (ad 0)), (1, .int x1), (2, .int x2)]) hx hb dX12_sayZero_3 rfl hl (by decide) rfl (fun ls hl => ?_)
  refine lv_iload_n hx hb dX12_sayZero_4 rfl (lv_at hl 2 rfl) ?_
  refine lv_iconst (v := 2) hx hb dX12_sayZero_5 (by decide) ?_
  obtain ⟨q, hf⟩ := zck_use hf
  refine z_irem hx hb dX12_sayZero_6 (of_decide_eq_true q) ?_
  refine lv_iconst (v := 1) hx hb dX12_sayZero_7 (by decide) ?_
  refine lv_icmp_ne (tgt := 15) hx hb dX12_sayZero_8 (by decide) (fun q => ?_) (fun q => ?_)
  · replace hf := zif_f q hf
    refine lv_iconst (v := 0) hx hb dX12_sayZero_15 (by decide) ?_
    exact bX12_sayZero_16 hC  hI (lv_sub hl [1, 2, 3, 0] rfl) hf
  replace hf := zif_t q hf
  refine lv_iconst (v := 1) hx hb dX12_sayZero_11 (by decide) ?_
  refine lv_goto (tgt := 16) hx hb dX12_sayZero_12 (by decide) ?_
  exact bX12_sayZero_16 hC  hI (lv_sub hl [1, 2, 3, 0] rfl) hf
set_option maxRecDepth 20000 in
theorem cX12_sayZero_met (st : Nat → Nat) (l : Launch) (D : va_G) (ad : Nat → Nat) (cy : Nat → ClassId) (σ : zSt) (x1 : Int32) (x2 : Int32) (res : zSt) (hf : fX12_sayZero σ x1 x2 = some res) (sz : Nat) : zMu st l yX12_sayZero wzX12_sayZero rmX12_sayZero [.ref (ad 0), .int x1, .int x2] D (tM cy) (wM ad cy) sz σ res :=
  zMu.of (cc := cX12_sayZero) (maxL := 5) (ret := none) (by decide) rfl (Nat.le_of_ble_eq_true rfl) (fun p e s m args below meth c hC A hI ls hl => bX12_sayZero hC hI hl hf)
theorem hdX12_sayZero : yX12_sayZero.cls = RX12 ∧ yX12_sayZero.cls ≠ "java/lang/invoke/MethodHandle" ∧ yX12_sayZero.cls ≠ "java/lang/invoke/VarHandle" ∧ (parseMethodDescriptor yX12_sayZero.desc).map (fun d => d.parameters.length) = some 2 := by decide +kernel
def rmX12_saySingle : Room := { frames := 7, cells := 0, slots := 0, locals := 180 }
def wzX12_saySingle : List Cond := .code yX12_saySingle cX12_saySingle 3 none :: wsL_law
def fX12_saySingle_87  (σ : zSt) (s0 : Nat) : Option (zSt) :=
  zbu (fX12_say σ s0) (fun σ1 =>
  some σ1)
def fX12_saySingle_117  (σ : zSt) (x1 : Int32) (x2 : Int32) (s0 : Nat) : Option (zSt) :=
  zbu (fX12_say σ s0) (fun σ2 =>
  zbu (fX12_sayR σ2 x1) (fun σ3 =>
  if 6 ≤ x2 then zbu (fX12_say σ3 83) (fun σ4 =>
  zbi (fX12_taken σ4 ) (fun σ5 v6 =>
  zbu (fX12_hex σ5 v6 2) (fun σ7 =>
  some σ7))) else
  some σ3))
def fX12_saySingle  (σ : zSt) (x1 : Int32) (x2 : Int32) : Option (zSt) :=
  if x2 = 7 then if x1 = 0 then fX12_saySingle_87 σ 121 else
  if x1 = 1 then fX12_saySingle_87 σ 122 else
  if x1 = 2 then fX12_saySingle_87 σ 123 else
  if x1 = 3 then fX12_saySingle_87 σ 124 else
  if x1 = 4 then fX12_saySingle_87 σ 125 else
  if x1 = 5 then fX12_saySingle_87 σ 126 else
  if x1 = 6 then fX12_saySingle_87 σ 127 else
  fX12_saySingle_87 σ 128 else
  if x2 = 4 then fX12_saySingle_117 σ x1 x2 117 else
  if x2 = 5 then fX12_saySingle_117 σ x1 x2 116 else
  fX12_saySingle_117 σ x1 x2 111
set_option maxRecDepth 20000 in
set_option maxHeartbeats 4000000 in
theorem bX12_saySingle_87 {st : Nat → Nat} {p : Program} {l : Launch} {e : Env} {s : State} {m : MethodId} {args : Array Value} {below : List Frame} {meth : Method} {c : Code} {D : va_G} {A : Nat → Prop} {ad : Nat → Nat} {cy : Nat → ClassId} (hC : zC p m c cX12_saySingle 3 s args wzX12_saySingle RX12 meth none)  {res : zSt} {H : Heap} {locs : List Loc} {σ : zSt} {ls : Array Slot} {s0 : Nat} (hI : zI st D (tM cy) (wM ad cy σ) A s H locs) (hl : lv_has ls 3 []) (hf : fX12_saySingle_87  σ s0 = some res) : W p l e rmX12_saySingle s m args below meth c H locs 0 0 (zQu below args s D (tM cy) (wM ad cy) A res) (F0 m 87 ls [.ref (st (100 + s0)), .ref (ad 0)]) := by
  have hx := hC.1
  have hb := hC.2.1
  unfold fX12_saySingle_87 at hf
  obtain ⟨σ1, g1, hf⟩ := zbu_use hf
  refine z_callVu (As := [.ref (st (100 + s0))]) (rest := []) hC hI (cX12_say_met st l D ad cy σ s0 _ g1) (zgV zw74_23 zw75_0 zw75_1 zw1_5 zw75_2) rfl ⟨rfl, rfl⟩ 1 hdX12_say ⟨Nat.le_of_ble_eq_true rfl, Nat.le_of_ble_eq_true rfl⟩ rfl rfl (wM_e0 ad cy σ) rfl hl rfl (Nat.le_of_ble_eq_true rfl) dX12_saySingle_87 ⟨Nat.zero_le _, Nat.zero_le _⟩ (fun H locs hI => ?_)
  exact z_return hC hI hf dX12_saySingle_90
set_option maxRecDepth 20000 in
set_option maxHeartbeats 4000000 in
theorem bX12_saySingle_117 {st : Nat → Nat} {p : Program} {l : Launch} {e : Env} {s : State} {m : MethodId} {args : Array Value} {below : List Frame} {meth : Method} {c : Code} {D : va_G} {A : Nat → Prop} {ad : Nat → Nat} {cy : Nat → ClassId} (hC : zC p m c cX12_saySingle 3 s args wzX12_saySingle RX12 meth none)  {res : zSt} {H : Heap} {locs : List Loc} {σ : zSt} {ls : Array Slot} {x1 : Int32} {x2 : Int32} {s0 : Nat} (hI : zI st D (tM cy) (wM ad cy σ) A s H locs) (hl : lv_has ls 3 [(0, .ref (ad 0)), (1, .int x1), (2, .int x2)]) (hf : fX12_saySingle_117  σ x1 x2 s0 = some res) : W p l e rmX12_saySingle s m args below meth c H locs 0 0 (zQu below args s D (tM cy) (wM ad cy) A res) (F0 m 117 ls [.ref (st (100 + s0)), .ref (ad 0)]) := by
  have hx := hC.1
  have hb := hC.2.1
  unfold fX12_saySingle_117 at hf
  obtain ⟨σ2, g2, hf⟩ := zbu_use hf
  refine z_callVu (As := [.ref (st (100 + s0))]) (rest := []) hC hI (cX12_say_met st l D ad cy σ s0 _ g2) (zgV zw74_23 zw75_0 zw75_1 zw1_5 zw75_2) rfl ⟨rfl, rfl⟩ 1 hdX12_say ⟨Nat.le_of_ble_eq_true rfl, Nat.le_of_ble_eq_true rfl⟩ rfl rfl (wM_e0 ad cy σ) rfl hl rfl (Nat.le_of_ble_eq_true rfl) dX12_saySingle_117 ⟨Nat.zero_le _, Nat.zero_le _⟩ (fun H locs hI => ?_)
  refine lv_aload_n hx hb dX12_saySingle_120 rfl (lv_at hl 0 rfl) ?_
  refine lv_iload_n hx hb dX12_saySingle_121 rfl (lv_at hl 1 rfl) ?_
  obtain ⟨σ3, g3, hf⟩ := zbu_use hf
  refine z_callVu (As := [.int x1]) (rest := []) hC hI (cX12_sayR_met st l D ad cy σ2 x1 _ g3) (zgV zw75_12 zw75_13 zw75_14 zw1_5 zw75_15) rfl ⟨rfl, rfl⟩ 1 hdX12_sayR ⟨Nat.le_of_ble_eq_true rfl, Nat.le_of_ble_eq_true rfl⟩ rfl rfl (wM_e0 ad cy σ2) rfl hl rfl (Nat.le_of_ble_eq_true rfl) dX12_saySingle_122 ⟨Nat.zero_le _, Nat.zero_le _⟩ (fun H locs hI => ?_)
  refine lv_iload_n hx hb dX12_saySingle_125 rfl (lv_at hl 2 rfl) ?_
  refine lv_bipush (v := 6) hx hb dX12_saySingle_126 (by decide) ?_
  refine lv_icmp_ge (tgt := 132) hx hb dX12_saySingle_128 (by decide) (fun q => ?_) (fun q => ?_)
  · replace hf := zif_t q hf
    refine lv_aload_n hx hb dX12_saySingle_132 rfl (lv_at hl 0 rfl) ?_
    refine z_ldcSW hC hI 83 (by decide) rfl rfl dX12_saySingle_133 ?_
    obtain ⟨σ4, g4, hf⟩ := zbu_use hf
    refine z_callVu (As := [.ref (st (100 + 83))]) (rest := []) hC hI (cX12_say_met st l D ad cy σ3 83 _ g4) (zgV zw74_23 zw75_0 zw75_1 zw1_5 zw75_2) rfl ⟨rfl, rfl⟩ 1 hdX12_say ⟨Nat.le_of_ble_eq_true rfl, Nat.le_of_ble_eq_true rfl⟩ rfl rfl (wM_e0 ad cy σ3) rfl hl rfl (Nat.le_of_ble_eq_true rfl) dX12_saySingle_136 ⟨Nat.zero_le _, Nat.zero_le _⟩ (fun H locs hI => ?_)
    refine lv_aload_n hx hb dX12_saySingle_139 rfl (lv_at hl 0 rfl) ?_
    refine lv_aload_n hx hb dX12_saySingle_140 rfl (lv_at hl 0 rfl) ?_
    obtain ⟨σ5, v6, g5, hf⟩ := zbi_use hf
    refine z_callVi (As := []) (rest := [.ref (ad 0)]) hC hI (cX12_taken_met st l D ad cy σ4  _ g5) (zgV zw74_14 zw74_15 zw74_16 zw1_5 zw74_17) rfl ⟨rfl, rfl⟩ 0 hdX12_taken ⟨Nat.le_of_ble_eq_true rfl, Nat.le_of_ble_eq_true rfl⟩ rfl rfl (wM_e0 ad cy σ4) rfl hl rfl (Nat.le_of_ble_eq_true rfl) dX12_saySingle_141 ⟨Nat.zero_le _, Nat.zero_le _⟩ (fun H locs hI => ?_)
    refine lv_iconst (v := 2) hx hb dX12_saySingle_144 (by decide) ?_
    obtain ⟨σ7, g7, hf⟩ := zbu_use hf
    refine z_callVu (As := [.int v6, .int 2]) (rest := []) hC hI (cX12_hex_met st l D ad cy σ5 v6 2 _ g7) (zgV zw75_8 zw75_9 zw75_10 zw1_5 zw75_11) rfl ⟨rfl, rfl⟩ 2 hdX12_hex ⟨Nat.le_of_ble_eq_true rfl, Nat.le_of_ble_eq_true rfl⟩ rfl rfl (wM_e0 ad cy σ5) rfl hl rfl (Nat.le_of_ble_eq_true rfl) dX12_saySingle_145 ⟨Nat.zero_le _, Nat.zero_le _⟩ (fun H locs hI => ?_)
    exact z_return hC hI hf dX12_saySingle_148
  replace hf := zif_f q hf
  exact z_return hC hI hf dX12_saySingle_131
set_option maxRecDepth 20000 in
set_option maxHeartbeats 4000000 in
theorem bX12_saySingle {st : Nat → Nat} {p : Program} {l : Launch} {e : Env} {s : State} {m : MethodId} {args : Array Value} {below : List Frame} {meth : Method} {c : Code} {D : va_G} {A : Nat → Prop} {ad : Nat → Nat} {cy : Nat → ClassId} (hC : zC p m c cX12_saySingle 3 s args wzX12_saySingle RX12 meth none)  {res : zSt} {H : Heap} {locs : List Loc} {σ : zSt} {ls : Array Slot} {x1 : Int32} {x2 : Int32} (hI : zI st D (tM cy) (wM ad cy σ) A s H locs) (hl : lv_has ls 3 [(0, .ref (ad 0)), (1, .int x1), (2, .int x2)]) (hf : fX12_saySingle  σ x1 x2 = some res) : W p l e rmX12_saySingle s m args below meth c H locs 0 0 (zQu below args s D (tM cy) (wM ad cy) A res) (F0 m 0 ls []) := by
  have hx := hC.1
  have hb := hC.2.1
  unfold fX12_saySingle at hf
  refine lv_iload_n hx hb dX12_saySingle_0 rfl (lv_at hl 2 rfl) ?_
  refine lv_bipush (v := 7) hx hb dX12_saySingle_1 (by decide) ?_
  refine lv_icmp_ne (tgt := 91) hx hb dX12_saySingle_3 (by decide) (fun q => ?_) (fun q => ?_)
  · replace hf := zif_f q hf
    refine lv_aload_n hx hb dX12_saySingle_91 rfl (lv_at hl 0 rfl) ?_
    refine lv_iload_n hx hb dX12_saySingle_92 rfl (lv_at hl 2 rfl) ?_
    refine lv_iconst (v := 4) hx hb dX12_saySingle_93 (by decide) ?_
    refine lv_icmp_ne (tgt := 103) hx hb dX12_saySingle_94 (by decide) (fun q => ?_) (fun q => ?_)
    · replace hf := zif_f q hf
      refine lv_iload_n hx hb dX12_saySingle_103 rfl (lv_at hl 2 rfl) ?_
      refine lv_iconst (v := 5) hx hb dX12_saySingle_104 (by decide) ?_
      refine lv_icmp_ne (tgt := 114) hx hb dX12_saySingle_105 (by decide) (fun q => ?_) (fun q => ?_)
      · replace hf := zif_f q hf
        refine z_ldcSW hC hI 111 (by decide) rfl rfl dX12_saySingle_114 ?_
        exact bX12_saySingle_117 hC  hI hl hf
      replace hf := zif_t q hf
      refine z_ldcSW hC hI 116 (by decide) rfl rfl dX12_saySingle_108 ?_
      refine lv_goto (tgt := 117) hx hb dX12_saySingle_111 (by decide) ?_
      exact bX12_saySingle_117 hC  hI hl hf
    replace hf := zif_t q hf
    refine z_ldcSW hC hI 117 (by decide) rfl rfl dX12_saySingle_97 ?_
    refine lv_goto (tgt := 117) hx hb dX12_saySingle_100 (by decide) ?_
    exact bX12_saySingle_117 hC  hI hl hf
  replace hf := zif_t q hf
  refine lv_aload_n hx hb dX12_saySingle_6 rfl (lv_at hl 0 rfl) ?_
  refine lv_iload_n hx hb dX12_saySingle_7 rfl (lv_at hl 1 rfl) ?_
  refine lv_if_ne (tgt := 17) hx hb dX12_saySingle_8 (by decide) (fun q => ?_) (fun q => ?_)
  · replace hf := zif_f q hf
    refine lv_iload_n hx hb dX12_saySingle_17 rfl (lv_at hl 1 rfl) ?_
    refine lv_iconst (v := 1) hx hb dX12_saySingle_18 (by decide) ?_
    refine lv_icmp_ne (tgt := 28) hx hb dX12_saySingle_19 (by decide) (fun q => ?_) (fun q => ?_)
    · replace hf := zif_f q hf
      refine lv_iload_n hx hb dX12_saySingle_28 rfl (lv_at hl 1 rfl) ?_
      refine lv_iconst (v := 2) hx hb dX12_saySingle_29 (by decide) ?_
      refine lv_icmp_ne (tgt := 39) hx hb dX12_saySingle_30 (by decide) (fun q => ?_) (fun q => ?_)
      · replace hf := zif_f q hf
        refine lv_iload_n hx hb dX12_saySingle_39 rfl (lv_at hl 1 rfl) ?_
        refine lv_iconst (v := 3) hx hb dX12_saySingle_40 (by decide) ?_
        refine lv_icmp_ne (tgt := 50) hx hb dX12_saySingle_41 (by decide) (fun q => ?_) (fun q => ?_)
        · replace hf := zif_f q hf
          refine lv_iload_n hx hb dX12_saySingle_50 rfl (lv_at hl 1 rfl) ?_
          refine lv_iconst (v := 4) hx hb dX12_saySingle_51 (by decide) ?_
          refine lv_icmp_ne (tgt := 61) hx hb dX12_saySingle_52 (by decide) (fun q => ?_) (fun q => ?_)
          · replace hf := zif_f q hf
            refine lv_iload_n hx hb dX12_saySingle_61 rfl (lv_at hl 1 rfl) ?_
            refine lv_iconst (v := 5) hx hb dX12_saySingle_62 (by decide) ?_
            refine lv_icmp_ne (tgt := 72) hx hb dX12_saySingle_63 (by decide) (fun q => ?_) (fun q => ?_)
            · replace hf := zif_f q hf
              refine lv_iload_n hx hb dX12_saySingle_72 rfl (lv_at hl 1 rfl) ?_
              refine lv_bipush (v := 6) hx hb dX12_saySingle_73 (by decide) ?_
              refine lv_icmp_ne (tgt := 84) hx hb dX12_saySingle_75 (by decide) (fun q => ?_) (fun q => ?_)
              · replace hf := zif_f q hf
                refine z_ldcSW hC hI 128 (by decide) rfl rfl dX12_saySingle_84 ?_
                exact bX12_saySingle_87 hC  hI (lv_sub hl [] rfl) hf
              replace hf := zif_t q hf
              refine z_ldcSW hC hI 127 (by decide) rfl rfl dX12_saySingle_78 ?_
              refine lv_goto (tgt := 87) hx hb dX12_saySingle_81 (by decide) ?_
              exact bX12_saySingle_87 hC  hI (lv_sub hl [] rfl) hf
            replace hf := zif_t q hf
            refine z_ldcSW hC hI 126 (by decide) rfl rfl dX12_saySingle_66 ?_
            refine lv_goto (tgt := 87) hx hb dX12_saySingle_69 (by decide) ?_
            exact bX12_saySingle_87 hC  hI (lv_sub hl [] rfl) hf
          replace hf := zif_t q hf
          refine z_ldcSW hC hI 125 (by decide) rfl rfl dX12_saySingle_55 ?_
          refine lv_goto (tgt := 87) hx hb dX12_saySingle_58 (by decide) ?_
          exact bX12_saySingle_87 hC  hI (lv_sub hl [] rfl) hf
        replace hf := zif_t q hf
        refine z_ldcSW hC hI 124 (by decide) rfl rfl dX12_saySingle_44 ?_
        refine lv_goto (tgt := 87) hx hb dX12_saySingle_47 (by decide) ?_
        exact bX12_saySingle_87 hC  hI (lv_sub hl [] rfl) hf
      replace hf := zif_t q hf
      refine z_ldcSW hC hI 123 (by decide) rfl rfl dX12_saySingle_33 ?_
      refine lv_goto (tgt := 87) hx hb dX12_saySingle_36 (by decide) ?_
      exact bX12_saySingle_87 hC  hI (lv_sub hl [] rfl) hf
    replace hf := zif_t q hf
    refine z_ldcSW hC hI 122 (by decide) rfl rfl dX12_saySingle_22 ?_
    refine lv_goto (tgt := 87) hx hb dX12_saySingle_25 (by decide) ?_
    exact bX12_saySingle_87 hC  hI (lv_sub hl [] rfl) hf
  replace hf := zif_t q hf
  refine z_ldcSW hC hI 121 (by decide) rfl rfl dX12_saySingle_11 ?_
  refine lv_goto (tgt := 87) hx hb dX12_saySingle_14 (by decide) ?_
  exact bX12_saySingle_87 hC  hI (lv_sub hl [] rfl) hf
set_option maxRecDepth 20000 in
theorem cX12_saySingle_met (st : Nat → Nat) (l : Launch) (D : va_G) (ad : Nat → Nat) (cy : Nat → ClassId) (σ : zSt) (x1 : Int32) (x2 : Int32) (res : zSt) (hf : fX12_saySingle σ x1 x2 = some res) (sz : Nat) : zMu st l yX12_saySingle wzX12_saySingle rmX12_saySingle [.ref (ad 0), .int x1, .int x2] D (tM cy) (wM ad cy) sz σ res :=
  zMu.of (cc := cX12_saySingle) (maxL := 3) (ret := none) (by decide) rfl (Nat.le_of_ble_eq_true rfl) (fun p e s m args below meth c hC A hI ls hl => bX12_saySingle hC hI hl hf)
theorem hdX12_saySingle : yX12_saySingle.cls = RX12 ∧ yX12_saySingle.cls ≠ "java/lang/invoke/MethodHandle" ∧ yX12_saySingle.cls ≠ "java/lang/invoke/VarHandle" ∧ (parseMethodDescriptor yX12_saySingle.desc).map (fun d => d.parameters.length) = some 2 := by decide +kernel
def rmX12_sayThree : Room := { frames := 7, cells := 0, slots := 0, locals := 181 }
def wzX12_sayThree : List Cond := .code yX12_sayThree cX12_sayThree 4 none :: wsL_law
def fX12_sayThree_266  (σ : zSt)  : Option (zSt) :=
  some σ
def fX12_sayThree_103  (σ : zSt) (x3 : Int32) : Option (zSt) :=
  if x3 = 2 then zbu (fX12_say σ 89) (fun σ1 =>
  fX12_sayThree_266 σ1) else
  fX12_sayThree_266 σ
def fX12_sayThree_91  (σ : zSt) (x3 : Int32) (s0 : Nat) : Option (zSt) :=
  zbu (fX12_say σ s0) (fun σ2 =>
  if x3 ≤ 1 then fX12_sayThree_103 σ2 x3 else
  zbu (fX12_sayHl σ2 ) (fun σ3 =>
  fX12_sayThree_103 σ3 x3))
def fX12_sayThree_151  (σ : zSt)  : Option (zSt) :=
  zbi (fX12_takenWord σ ) (fun σ4 v5 =>
  zbu (fX12_hex σ4 v5 4) (fun σ6 =>
  fX12_sayThree_266 σ6))
def fX12_sayThree_127  (σ : zSt) (x1 : Int32) (x2 : Int32) : Option (zSt) :=
  zbu (fX12_say σ 143) (fun σ7 =>
  if x2 = 2 then zbu (fX12_sayCc σ7 x1) (fun σ8 =>
  zbu (fX12_say σ8 83) (fun σ9 =>
  fX12_sayThree_151 σ9)) else
  fX12_sayThree_151 σ7)
def fX12_sayThree_210  (σ : zSt) (s0 : Nat) : Option (zSt) :=
  zbu (fX12_say σ s0) (fun σ10 =>
  fX12_sayThree_266 σ10)
def fX12_sayThree_183  (σ : zSt) (x1 : Int32) (s0 : Nat) : Option (zSt) :=
  zbu (fX12_say σ s0) (fun σ11 =>
  zbi (fX12_taken σ11 ) (fun σ12 v13 =>
  zbu (fX12_hex σ12 v13 2) (fun σ14 =>
  if x1 = 2 then fX12_sayThree_210 σ14 146 else
  fX12_sayThree_210 σ14 89)))
def fX12_sayThree_254  (σ : zSt) (x1 : Int32) (s0 : Nat) : Option (zSt) :=
  zbu (fX12_say σ s0) (fun σ15 =>
  if x1 = 4 then zbu (fX12_sayHl σ15 ) (fun σ16 =>
  fX12_sayThree_266 σ16) else
  fX12_sayThree_266 σ15)
def fX12_sayThree_50  (σ : zSt) (x1 : Int32) (x2 : Int32) (x3 : Int32) : Option (zSt) :=
  if x2 = 1 then if x3 = 0 then fX12_sayThree_91 σ x3 139 else
  if x3 = 1 then fX12_sayThree_91 σ x3 140 else
  if x3 = 2 then fX12_sayThree_91 σ x3 141 else
  fX12_sayThree_91 σ x3 142 else
  if x2 = 2 then fX12_sayThree_127 σ x1 x2 else
  if x1 = 0 then fX12_sayThree_127 σ x1 x2 else
  if 4 ≤ x1 then if x1 = 4 then fX12_sayThree_254 σ x1 147 else
  if x1 = 5 then fX12_sayThree_254 σ x1 148 else
  if x1 = 6 then fX12_sayThree_254 σ x1 149 else
  fX12_sayThree_254 σ x1 150 else
  if x1 = 2 then fX12_sayThree_183 σ x1 144 else
  fX12_sayThree_183 σ x1 145
def fX12_sayThree  (σ : zSt) (x1 : Int32) (x2 : Int32) : Option (zSt) :=
  zbv (x1 >>> ((1 : Int32) &&& 31)) (fun v17 =>
  if x2 = 0 then zbu (fX12_say σ 137) (fun σ20 =>
  zbu (fX12_sayCc σ20 x1) (fun σ21 =>
  fX12_sayThree_266 σ21)) else
  if x2 = 1 then zck (decide (¬ 2 = 0)) (
  if (zrem x1 2) = 0 then zbu (fX12_say σ 138) (fun σ18 =>
  zbu (fX12_sayRp σ18 v17 1) (fun σ19 =>
  fX12_sayThree_266 σ19)) else
  fX12_sayThree_50 σ x1 x2 v17) else
  fX12_sayThree_50 σ x1 x2 v17)
set_option maxRecDepth 20000 in
set_option maxHeartbeats 4000000 in
theorem bX12_sayThree_266 {st : Nat → Nat} {p : Program} {l : Launch} {e : Env} {s : State} {m : MethodId} {args : Array Value} {below : List Frame} {meth : Method} {c : Code} {D : va_G} {A : Nat → Prop} {ad : Nat → Nat} {cy : Nat → ClassId} (hC : zC p m c cX12_sayThree 4 s args wzX12_sayThree RX12 meth none)  {res : zSt} {H : Heap} {locs : List Loc} {σ : zSt} {ls : Array Slot}  (hI : zI st D (tM cy) (wM ad cy σ) A s H locs) (hl : lv_has ls 4 []) (hf : fX12_sayThree_266  σ  = some res) : W p l e rmX12_sayThree s m args below meth c H locs 0 0 (zQu below args s D (tM cy) (wM ad cy) A res) (F0 m 266 ls []) := by
  have hx := hC.1
  have hb := hC.2.1
  unfold fX12_sayThree_266 at hf
  exact z_return hC hI hf dX12_sayThree_266
set_option maxRecDepth 20000 in
set_option maxHeartbeats 4000000 in
theorem bX12_sayThree_103 {st : Nat → Nat} {p : Program} {l : Launch} {e : Env} {s : State} {m : MethodId} {args : Array Value} {below : List Frame} {meth : Method} {c : Code} {D : va_G} {A : Nat → Prop} {ad : Nat → Nat} {cy : Nat → ClassId} (hC : zC p m c cX12_sayThree 4 s args wzX12_sayThree RX12 meth none)  {res : zSt} {H : Heap} {locs : List Loc} {σ : zSt} {ls : Array Slot} {x3 : Int32} (hI : zI st D (tM cy) (wM ad cy σ) A s H locs) (hl : lv_has ls 4 [(0, .ref (ad 0)), (3, .int x3)]) (hf : fX12_sayThree_103  σ x3 = some res) : W p l e rmX12_sayThree s m args below meth c H locs 0 0 (zQu below args s D (tM cy) (wM ad cy) A res) (F0 m 103 ls []) := by
  have hx := hC.1
  have hb := hC.2.1
  unfold fX12_sayThree_103 at hf
  refine lv_iload_n hx hb dX12_sayThree_103 rfl (lv_at hl 1 rfl) ?_
  refine lv_iconst (v := 2) hx hb dX12_sayThree_104 (by decide) ?_
  refine lv_icmp_ne (tgt := 266) hx hb dX12_sayThree_105 (by decide) (fun q => ?_) (fun q => ?_)
  · replace hf := zif_f q hf
    exact bX12_sayThree_266 hC  hI (lv_sub hl [] rfl) hf
  replace hf := zif_t q hf
  refine lv_aload_n hx hb dX12_sayThree_108 rfl (lv_at hl 0 rfl) ?_
  refine z_ldcSW hC hI 89 (by decide) rfl rfl dX12_sayThree_109 ?_
  obtain ⟨σ1, g1, hf⟩ := zbu_use hf
  refine z_callVu (As := [.ref (st (100 + 89))]) (rest := []) hC hI (cX12_say_met st l D ad cy σ 89 _ g1) (zgV zw74_23 zw75_0 zw75_1 zw1_5 zw75_2) rfl ⟨rfl, rfl⟩ 1 hdX12_say ⟨Nat.le_of_ble_eq_true rfl, Nat.le_of_ble_eq_true rfl⟩ rfl rfl (wM_e0 ad cy σ) rfl hl rfl (Nat.le_of_ble_eq_true rfl) dX12_sayThree_112 ⟨Nat.zero_le _, Nat.zero_le _⟩ (fun H locs hI => ?_)
  refine lv_goto (tgt := 266) hx hb dX12_sayThree_115 (by decide) ?_
  exact bX12_sayThree_266 hC  hI (lv_sub hl [] rfl) hf
set_option maxRecDepth 20000 in
set_option maxHeartbeats 4000000 in
theorem bX12_sayThree_91 {st : Nat → Nat} {p : Program} {l : Launch} {e : Env} {s : State} {m : MethodId} {args : Array Value} {below : List Frame} {meth : Method} {c : Code} {D : va_G} {A : Nat → Prop} {ad : Nat → Nat} {cy : Nat → ClassId} (hC : zC p m c cX12_sayThree 4 s args wzX12_sayThree RX12 meth none)  {res : zSt} {H : Heap} {locs : List Loc} {σ : zSt} {ls : Array Slot} {x3 : Int32} {s0 : Nat} (hI : zI st D (tM cy) (wM ad cy σ) A s H locs) (hl : lv_has ls 4 [(0, .ref (ad 0)), (3, .int x3)]) (hf : fX12_sayThree_91  σ x3 s0 = some res) : W p l e rmX12_sayThree s m args below meth c H locs 0 0 (zQu below args s D (tM cy) (wM ad cy) A res) (F0 m 91 ls [.ref (st (100 + s0)), .ref (ad 0)]) := by
  have hx := hC.1
  have hb := hC.2.1
  unfold fX12_sayThree_91 at hf
  obtain ⟨σ2, g2, hf⟩ := zbu_use hf
  refine z_callVu (As := [.ref (st (100 + s0))]) (rest := []) hC hI (cX12_say_met st l D ad cy σ s0 _ g2) (zgV zw74_23 zw75_0 zw75_1 zw1_5 zw75_2) rfl ⟨rfl, rfl⟩ 1 hdX12_say ⟨Nat.le_of_ble_eq_true rfl, Nat.le_of_ble_eq_true rfl⟩ rfl rfl (wM_e0 ad cy σ) rfl hl rfl (Nat.le_of_ble_eq_true rfl) dX12_sayThree_91 ⟨Nat.zero_le _, Nat.zero_le _⟩ (fun H locs hI => ?_)
  refine lv_iload_n hx hb dX12_sayThree_94 rfl (lv_at hl 1 rfl) ?_
  refine lv_iconst (v := 1) hx hb dX12_sayThree_95 (by decide) ?_
  refine lv_icmp_le (tgt := 103) hx hb dX12_sayThree_96 (by decide) (fun q => ?_) (fun q => ?_)
  · replace hf := zif_t q hf
    exact bX12_sayThree_103 hC  hI hl hf
  replace hf := zif_f q hf
  refine lv_aload_n hx hb dX12_sayThree_99 rfl (lv_at hl 0 rfl) ?_
  obtain ⟨σ3, g3, hf⟩ := zbu_use hf
  refine z_callVu (As := []) (rest := []) hC hI (cX12_sayHl_met st l D ad cy σ2  _ g3) (zgV zw75_20 zw75_21 zw75_22 zw1_5 zw75_23) rfl ⟨rfl, rfl⟩ 0 hdX12_sayHl ⟨Nat.le_of_ble_eq_true rfl, Nat.le_of_ble_eq_true rfl⟩ rfl rfl (wM_e0 ad cy σ2) rfl hl rfl (Nat.le_of_ble_eq_true rfl) dX12_sayThree_100 ⟨Nat.zero_le _, Nat.zero_le _⟩ (fun H locs hI => ?_)
  exact bX12_sayThree_103 hC  hI hl hf
set_option maxRecDepth 20000 in
set_option maxHeartbeats 4000000 in
theorem bX12_sayThree_151 {st : Nat → Nat} {p : Program} {l : Launch} {e : Env} {s : State} {m : MethodId} {args : Array Value} {below : List Frame} {meth : Method} {c : Code} {D : va_G} {A : Nat → Prop} {ad : Nat → Nat} {cy : Nat → ClassId} (hC : zC p m c cX12_sayThree 4 s args wzX12_sayThree RX12 meth none)  {res : zSt} {H : Heap} {locs : List Loc} {σ : zSt} {ls : Array Slot}  (hI : zI st D (tM cy) (wM ad cy σ) A s H locs) (hl : lv_has ls 4 [(0, .ref (ad 0))]) (hf : fX12_sayThree_151  σ  = some res) : W p l e rmX12_sayThree s m args below meth c H locs 0 0 (zQu below args s D (tM cy) (wM ad cy) A res) (F0 m 151 ls []) := by
  have hx := hC.1
  have hb := hC.2.1
  unfold fX12_sayThree_151 at hf
  refine lv_aload_n hx hb dX12_sayThree_151 rfl (lv_at hl 0 rfl) ?_
  refine lv_aload_n hx hb dX12_sayThree_152 rfl (lv_at hl 0 rfl) ?_
  obtain ⟨σ4, v5, g4, hf⟩ := zbi_use hf
  refine z_callVi (As := []) (rest := [.ref (ad 0)]) hC hI (cX12_takenWord_met st l D ad cy σ  _ g4) (zgV zw76_20 zw76_21 zw76_22 zw1_5 zw76_23) rfl ⟨rfl, rfl⟩ 0 hdX12_takenWord ⟨Nat.le_of_ble_eq_true rfl, Nat.le_of_ble_eq_true rfl⟩ rfl rfl (wM_e0 ad cy σ) rfl hl rfl (Nat.le_of_ble_eq_true rfl) dX12_sayThree_153 ⟨Nat.zero_le _, Nat.zero_le _⟩ (fun H locs hI => ?_)
  refine lv_iconst (v := 4) hx hb dX12_sayThree_156 (by decide) ?_
  obtain ⟨σ6, g6, hf⟩ := zbu_use hf
  refine z_callVu (As := [.int v5, .int 4]) (rest := []) hC hI (cX12_hex_met st l D ad cy σ4 v5 4 _ g6) (zgV zw75_8 zw75_9 zw75_10 zw1_5 zw75_11) rfl ⟨rfl, rfl⟩ 2 hdX12_hex ⟨Nat.le_of_ble_eq_true rfl, Nat.le_of_ble_eq_true rfl⟩ rfl rfl (wM_e0 ad cy σ4) rfl hl rfl (Nat.le_of_ble_eq_true rfl) dX12_sayThree_157 ⟨Nat.zero_le _, Nat.zero_le _⟩ (fun H locs hI => ?_)
  refine lv_goto (tgt := 266) hx hb dX12_sayThree_160 (by decide) ?_
  exact bX12_sayThree_266 hC  hI (lv_sub hl [] rfl) hf
set_option maxRecDepth 20000 in
set_option maxHeartbeats 4000000 in
theorem bX12_sayThree_127 {st : Nat → Nat} {p : Program} {l : Launch} {e : Env} {s : State} {m : MethodId} {args : Array Value} {below : List Frame} {meth : Method} {c : Code} {D : va_G} {A : Nat → Prop} {ad : Nat → Nat} {cy : Nat → ClassId} (hC : zC p m c cX12_sayThree 4 s args wzX12_sayThree RX12 meth none)  {res : zSt} {H : Heap} {locs : List Loc} {σ : zSt} {ls : Array Slot} {x1 : Int32} {x2 : Int32} (hI : zI st D (tM cy) (wM ad cy σ) A s H locs) (hl : lv_has ls 4 [(0, .ref (ad 0)), (1, .int x1), (2, .int x2)]) (hf : fX12_sayThree_127  σ x1 x2 = some res) : W p l e rmX12_sayThree s m args below meth c H locs 0 0 (zQu below args s D (tM cy) (wM ad cy) A res) (F0 m 127 ls []) := by
  have hx := hC.1
  have hb := hC.2.1
  unfold fX12_sayThree_127 at hf
  refine lv_aload_n hx hb dX12_sayThree_127 rfl (lv_at hl 0 rfl) ?_
  refine z_ldcSW hC hI 143 (by decide) rfl rfl dX12_sayThree_128 ?_
  obtain ⟨σ7, g7, hf⟩ := zbu_use hf
  refine z_callVu (As := [.ref (st (100 + 143))]) (rest := []) hC hI (cX12_say_met st l D ad cy σ 143 _ g7) (zgV zw74_23 zw75_0 zw75_1 zw1_5 zw75_2) rfl ⟨rfl, rfl⟩ 1 hdX12_say ⟨Nat.le_of_ble_eq_true rfl, Nat.le_of_ble_eq_true rfl⟩ rfl rfl (wM_e0 ad cy σ) rfl hl rfl (Nat.le_of_ble_eq_true rfl) dX12_sayThree_131 ⟨Nat.zero_le _, Nat.zero_le _⟩ (fun H locs hI => ?_)
  refine lv_iload_n hx hb dX12_sayThree_134 rfl (lv_at hl 2 rfl) ?_
  refine lv_iconst (v := 2) hx hb dX12_sayThree_135 (by decide) ?_
  refine lv_icmp_ne (tgt := 151) hx hb dX12_sayThree_136 (by decide) (fun q => ?_) (fun q => ?_)
  · replace hf := zif_f q hf
    exact bX12_sayThree_151 hC  hI (lv_sub hl [0] rfl) hf
  replace hf := zif_t q hf
  refine lv_aload_n hx hb dX12_sayThree_139 rfl (lv_at hl 0 rfl) ?_
  refine lv_iload_n hx hb dX12_sayThree_140 rfl (lv_at hl 1 rfl) ?_
  obtain ⟨σ8, g8, hf⟩ := zbu_use hf
  refine z_callVu (As := [.int x1]) (rest := []) hC hI (cX12_sayCc_met st l D ad cy σ7 x1 _ g8) (zgV zw76_8 zw76_9 zw76_10 zw1_5 zw76_11) rfl ⟨rfl, rfl⟩ 1 hdX12_sayCc ⟨Nat.le_of_ble_eq_true rfl, Nat.le_of_ble_eq_true rfl⟩ rfl rfl (wM_e0 ad cy σ7) rfl hl rfl (Nat.le_of_ble_eq_true rfl) dX12_sayThree_141 ⟨Nat.zero_le _, Nat.zero_le _⟩ (fun H locs hI => ?_)
  refine lv_aload_n hx hb dX12_sayThree_144 rfl (lv_at hl 0 rfl) ?_
  refine z_ldcSW hC hI 83 (by decide) rfl rfl dX12_sayThree_145 ?_
  obtain ⟨σ9, g9, hf⟩ := zbu_use hf
  refine z_callVu (As := [.ref (st (100 + 83))]) (rest := []) hC hI (cX12_say_met st l D ad cy σ8 83 _ g9) (zgV zw74_23 zw75_0 zw75_1 zw1_5 zw75_2) rfl ⟨rfl, rfl⟩ 1 hdX12_say ⟨Nat.le_of_ble_eq_true rfl, Nat.le_of_ble_eq_true rfl⟩ rfl rfl (wM_e0 ad cy σ8) rfl hl rfl (Nat.le_of_ble_eq_true rfl) dX12_sayThree_148 ⟨Nat.zero_le _, Nat.zero_le _⟩ (fun H locs hI => ?_)
  exact bX12_sayThree_151 hC  hI (lv_sub hl [0] rfl) hf
set_option maxRecDepth 20000 in
set_option maxHeartbeats 4000000 in
theorem bX12_sayThree_210 {st : Nat → Nat} {p : Program} {l : Launch} {e : Env} {s : State} {m : MethodId} {args : Array Value} {below : List Frame} {meth : Method} {c : Code} {D : va_G} {A : Nat → Prop} {ad : Nat → Nat} {cy : Nat → ClassId} (hC : zC p m c cX12_sayThree 4 s args wzX12_sayThree RX12 meth none)  {res : zSt} {H : Heap} {locs : List Loc} {σ : zSt} {ls : Array Slot} {s0 : Nat} (hI : zI st D (tM cy) (wM ad cy σ) A s H locs) (hl : lv_has ls 4 []) (hf : fX12_sayThree_210  σ s0 = some res) : W p l e rmX12_sayThree s m args below meth c H locs 0 0 (zQu below args s D (tM cy) (wM ad cy) A res) (F0 m 210 ls [.ref (st (100 + s0)), .ref (ad 0)]) := by
  have hx := hC.1
  have hb := hC.2.1
  unfold fX12_sayThree_210 at hf
  obtain ⟨σ10, g10, hf⟩ := zbu_use hf
  refine z_callVu (As := [.ref (st (100 + s0))]) (rest := []) hC hI (cX12_say_met st l D ad cy σ s0 _ g10) (zgV zw74_23 zw75_0 zw75_1 zw1_5 zw75_2) rfl ⟨rfl, rfl⟩ 1 hdX12_say ⟨Nat.le_of_ble_eq_true rfl, Nat.le_of_ble_eq_true rfl⟩ rfl rfl (wM_e0 ad cy σ) rfl hl rfl (Nat.le_of_ble_eq_true rfl) dX12_sayThree_210 ⟨Nat.zero_le _, Nat.zero_le _⟩ (fun H locs hI => ?_)
  refine lv_goto (tgt := 266) hx hb dX12_sayThree_213 (by decide) ?_
  exact bX12_sayThree_266 hC  hI hl hf
set_option maxRecDepth 20000 in
set_option maxHeartbeats 4000000 in
theorem bX12_sayThree_183 {st : Nat → Nat} {p : Program} {l : Launch} {e : Env} {s : State} {m : MethodId} {args : Array Value} {below : List Frame} {meth : Method} {c : Code} {D : va_G} {A : Nat → Prop} {ad : Nat → Nat} {cy : Nat → ClassId} (hC : zC p m c cX12_sayThree 4 s args wzX12_sayThree RX12 meth none)  {res : zSt} {H : Heap} {locs : List Loc} {σ : zSt} {ls : Array Slot} {x1 : Int32} {s0 : Nat} (hI : zI st D (tM cy) (wM ad cy σ) A s H locs) (hl : lv_has ls 4 [(0, .ref (ad 0)), (1, .int x1)]) (hf : fX12_sayThree_183  σ x1 s0 = some res) : W p l e rmX12_sayThree s m args below meth c H locs 0 0 (zQu below args s D (tM cy) (wM ad cy) A res) (F0 m 183 ls [.ref (st (100 + s0)), .ref (ad 0)]) := by
  have hx := hC.1
  have hb := hC.2.1
  unfold fX12_sayThree_183 at hf
  obtain ⟨σ11, g11, hf⟩ := zbu_use hf
  refine z_callVu (As := [.ref (st (100 + s0))]) (rest := []) hC hI (cX12_say_met st l D ad cy σ s0 _ g11) (zgV zw74_23 zw75_0 zw75_1 zw1_5 zw75_2) rfl ⟨rfl, rfl⟩ 1 hdX12_say ⟨Nat.le_of_ble_eq_true rfl, Nat.le_of_ble_eq_true rfl⟩ rfl rfl (wM_e0 ad cy σ) rfl hl rfl (Nat.le_of_ble_eq_true rfl) dX12_sayThree_183 ⟨Nat.zero_le _, Nat.zero_le _⟩ (fun H locs hI => ?_)
  refine lv_aload_n hx hb dX12_sayThree_186 rfl (lv_at hl 0 rfl) ?_
  refine lv_aload_n hx hb dX12_sayThree_187 rfl (lv_at hl 0 rfl) ?_
  obtain ⟨σ12, v13, g12, hf⟩ := zbi_use hf
  refine z_callVi (As := []) (rest := [.ref (ad 0)]) hC hI (cX12_taken_met st l D ad cy σ11  _ g12) (zgV zw74_14 zw74_15 zw74_16 zw1_5 zw74_17) rfl ⟨rfl, rfl⟩ 0 hdX12_taken ⟨Nat.le_of_ble_eq_true rfl, Nat.le_of_ble_eq_true rfl⟩ rfl rfl (wM_e0 ad cy σ11) rfl hl rfl (Nat.le_of_ble_eq_true rfl) dX12_sayThree_188 ⟨Nat.zero_le _, Nat.zero_le _⟩ (fun H locs hI => ?_)
  refine lv_iconst (v := 2) hx hb dX12_sayThree_191 (by decide) ?_
  obtain ⟨σ14, g14, hf⟩ := zbu_use hf
  refine z_callVu (As := [.int v13, .int 2]) (rest := []) hC hI (cX12_hex_met st l D ad cy σ12 v13 2 _ g14) (zgV zw75_8 zw75_9 zw75_10 zw1_5 zw75_11) rfl ⟨rfl, rfl⟩ 2 hdX12_hex ⟨Nat.le_of_ble_eq_true rfl, Nat.le_of_ble_eq_true rfl⟩ rfl rfl (wM_e0 ad cy σ12) rfl hl rfl (Nat.le_of_ble_eq_true rfl) dX12_sayThree_192 ⟨Nat.zero_le _, Nat.zero_le _⟩ (fun H locs hI => ?_)
  refine lv_aload_n hx hb dX12_sayThree_195 rfl (lv_at hl 0 rfl) ?_
  refine lv_iload_n hx hb dX12_sayThree_196 rfl (lv_at hl 1 rfl) ?_
  refine lv_iconst (v := 2) hx hb dX12_sayThree_197 (by decide) ?_
  refine lv_icmp_ne (tgt := 207) hx hb dX12_sayThree_198 (by decide) (fun q => ?_) (fun q => ?_)
  · replace hf := zif_f q hf
    refine z_ldcSW hC hI 89 (by decide) rfl rfl dX12_sayThree_207 ?_
    exact bX12_sayThree_210 hC  hI (lv_sub hl [] rfl) hf
  replace hf := zif_t q hf
  refine z_ldcSW hC hI 146 (by decide) rfl rfl dX12_sayThree_201 ?_
  refine lv_goto (tgt := 210) hx hb dX12_sayThree_204 (by decide) ?_
  exact bX12_sayThree_210 hC  hI (lv_sub hl [] rfl) hf
set_option maxRecDepth 20000 in
set_option maxHeartbeats 4000000 in
theorem bX12_sayThree_254 {st : Nat → Nat} {p : Program} {l : Launch} {e : Env} {s : State} {m : MethodId} {args : Array Value} {below : List Frame} {meth : Method} {c : Code} {D : va_G} {A : Nat → Prop} {ad : Nat → Nat} {cy : Nat → ClassId} (hC : zC p m c cX12_sayThree 4 s args wzX12_sayThree RX12 meth none)  {res : zSt} {H : Heap} {locs : List Loc} {σ : zSt} {ls : Array Slot} {x1 : Int32} {s0 : Nat} (hI : zI st D (tM cy) (wM ad cy σ) A s H locs) (hl : lv_has ls 4 [(0, .ref (ad 0)), (1, .int x1)]) (hf : fX12_sayThree_254  σ x1 s0 = some res) : W p l e rmX12_sayThree s m args below meth c H locs 0 0 (zQu below args s D (tM cy) (wM ad cy) A res) (F0 m 254 ls [.ref (st (100 + s0)), .ref (ad 0)]) := by
  have hx := hC.1
  have hb := hC.2.1
  unfold fX12_sayThree_254 at hf
  obtain ⟨σ15, g15, hf⟩ := zbu_use hf
  refine z_callVu (As := [.ref (st (100 + s0))]) (rest := []) hC hI (cX12_say_met st l D ad cy σ s0 _ g15) (zgV zw74_23 zw75_0 zw75_1 zw1_5 zw75_2) rfl ⟨rfl, rfl⟩ 1 hdX12_say ⟨Nat.le_of_ble_eq_true rfl, Nat.le_of_ble_eq_true rfl⟩ rfl rfl (wM_e0 ad cy σ) rfl hl rfl (Nat.le_of_ble_eq_true rfl) dX12_sayThree_254 ⟨Nat.zero_le _, Nat.zero_le _⟩ (fun H locs hI => ?_)
  refine lv_iload_n hx hb dX12_sayThree_257 rfl (lv_at hl 1 rfl) ?_
  refine lv_iconst (v := 4) hx hb dX12_sayThree_258 (by decide) ?_
  refine lv_icmp_ne (tgt := 266) hx hb dX12_sayThree_259 (by decide) (fun q => ?_) (fun q => ?_)
  · replace hf := zif_f q hf
    exact bX12_sayThree_266 hC  hI (lv_sub hl [] rfl) hf
  replace hf := zif_t q hf
  refine lv_aload_n hx hb dX12_sayThree_262 rfl (lv_at hl 0 rfl) ?_
  obtain ⟨σ16, g16, hf⟩ := zbu_use hf
  refine z_callVu (As := []) (rest := []) hC hI (cX12_sayHl_met st l D ad cy σ15  _ g16) (zgV zw75_20 zw75_21 zw75_22 zw1_5 zw75_23) rfl ⟨rfl, rfl⟩ 0 hdX12_sayHl ⟨Nat.le_of_ble_eq_true rfl, Nat.le_of_ble_eq_true rfl⟩ rfl rfl (wM_e0 ad cy σ15) rfl hl rfl (Nat.le_of_ble_eq_true rfl) dX12_sayThree_263 ⟨Nat.zero_le _, Nat.zero_le _⟩ (fun H locs hI => ?_)
  exact bX12_sayThree_266 hC  hI (lv_sub hl [] rfl) hf
set_option maxRecDepth 20000 in
set_option maxHeartbeats 4000000 in
theorem bX12_sayThree_50 {st : Nat → Nat} {p : Program} {l : Launch} {e : Env} {s : State} {m : MethodId} {args : Array Value} {below : List Frame} {meth : Method} {c : Code} {D : va_G} {A : Nat → Prop} {ad : Nat → Nat} {cy : Nat → ClassId} (hC : zC p m c cX12_sayThree 4 s args wzX12_sayThree RX12 meth none)  {res : zSt} {H : Heap} {locs : List Loc} {σ : zSt} {ls : Array Slot} {x1 : Int32} {x2 : Int32} {x3 : Int32} (hI : zI st D (tM cy) (wM ad cy σ) A s H locs) (hl : lv_has ls 4 [(0, .ref (ad 0)), (1, .int x1), (2, .int x2), (3, .int x3)]) (hf : fX12_sayThree_50  σ x1 x2 x3 = some res) : W p l e rmX12_sayThree s m args below meth c H locs 0 0 (zQu below args s D (tM cy) (wM ad cy) A res) (F0 m 50 ls []) := by
  have hx := hC.1
  have hb := hC.2.1
  unfold fX12_sayThree_50 at hf
  refine lv_iload_n hx hb dX12_sayThree_50 rfl (lv_at hl 2 rfl) ?_
  refine lv_iconst (v := 1) hx hb dX12_sayThree_51 (by decide) ?_
  refine lv_icmp_ne (tgt := 118) hx hb dX12_sayThree_52 (by decide) (fun q => ?_) (fun q => ?_)
  · replace hf := zif_f q hf
    refine lv_iload_n hx hb dX12_sayThree_118 rfl (lv_at hl 2 rfl) ?_
    refine lv_iconst (v := 2) hx hb dX12_sayThree_119 (by decide) ?_
    refine lv_icmp_eq (tgt := 127) hx hb dX12_sayThree_120 (by decide) (fun q => ?_) (fun q => ?_)
    · replace hf := zif_t q hf
      exact bX12_sayThree_127 hC  hI (lv_sub hl [0, 1, 2] rfl) hf
    replace hf := zif_f q hf
    refine lv_iload_n hx hb dX12_sayThree_123 rfl (lv_at hl 1 rfl) ?_
    refine lv_if_ne (tgt := 163) hx hb dX12_sayThree_124 (by decide) (fun q => ?_) (fun q => ?_)
    · replace hf := zif_f q hf
      refine lv_iload_n hx hb dX12_sayThree_163 rfl (lv_at hl 1 rfl) ?_
      refine lv_iconst (v := 4) hx hb dX12_sayThree_164 (by decide) ?_
      refine lv_icmp_ge (tgt := 216) hx hb dX12_sayThree_165 (by decide) (fun q => ?_) (fun q => ?_)
      · replace hf := zif_t q hf
        refine lv_aload_n hx hb dX12_sayThree_216 rfl (lv_at hl 0 rfl) ?_
        refine lv_iload_n hx hb dX12_sayThree_217 rfl (lv_at hl 1 rfl) ?_
        refine lv_iconst (v := 4) hx hb dX12_sayThree_218 (by decide) ?_
        refine lv_icmp_ne (tgt := 228) hx hb dX12_sayThree_219 (by decide) (fun q => ?_) (fun q => ?_)
        · replace hf := zif_f q hf
          refine lv_iload_n hx hb dX12_sayThree_228 rfl (lv_at hl 1 rfl) ?_
          refine lv_iconst (v := 5) hx hb dX12_sayThree_229 (by decide) ?_
          refine lv_icmp_ne (tgt := 239) hx hb dX12_sayThree_230 (by decide) (fun q => ?_) (fun q => ?_)
          · replace hf := zif_f q hf
            refine lv_iload_n hx hb dX12_sayThree_239 rfl (lv_at hl 1 rfl) ?_
            refine lv_bipush (v := 6) hx hb dX12_sayThree_240 (by decide) ?_
            refine lv_icmp_ne (tgt := 251) hx hb dX12_sayThree_242 (by decide) (fun q => ?_) (fun q => ?_)
            · replace hf := zif_f q hf
              refine z_ldcSW hC hI 150 (by decide) rfl rfl dX12_sayThree_251 ?_
              exact bX12_sayThree_254 hC  hI (lv_sub hl [0, 1] rfl) hf
            replace hf := zif_t q hf
            refine z_ldcSW hC hI 149 (by decide) rfl rfl dX12_sayThree_245 ?_
            refine lv_goto (tgt := 254) hx hb dX12_sayThree_248 (by decide) ?_
            exact bX12_sayThree_254 hC  hI (lv_sub hl [0, 1] rfl) hf
          replace hf := zif_t q hf
          refine z_ldcSW hC hI 148 (by decide) rfl rfl dX12_sayThree_233 ?_
          refine lv_goto (tgt := 254) hx hb dX12_sayThree_236 (by decide) ?_
          exact bX12_sayThree_254 hC  hI (lv_sub hl [0, 1] rfl) hf
        replace hf := zif_t q hf
        refine z_ldcSW hC hI 147 (by decide) rfl rfl dX12_sayThree_222 ?_
        refine lv_goto (tgt := 254) hx hb dX12_sayThree_225 (by decide) ?_
        exact bX12_sayThree_254 hC  hI (lv_sub hl [0, 1] rfl) hf
      replace hf := zif_f q hf
      refine lv_aload_n hx hb dX12_sayThree_168 rfl (lv_at hl 0 rfl) ?_
      refine lv_iload_n hx hb dX12_sayThree_169 rfl (lv_at hl 1 rfl) ?_
      refine lv_iconst (v := 2) hx hb dX12_sayThree_170 (by decide) ?_
      refine lv_icmp_ne (tgt := 180) hx hb dX12_sayThree_171 (by decide) (fun q => ?_) (fun q => ?_)
      · replace hf := zif_f q hf
        refine z_ldcSW hC hI 145 (by decide) rfl rfl dX12_sayThree_180 ?_
        exact bX12_sayThree_183 hC  hI (lv_sub hl [0, 1] rfl) hf
      replace hf := zif_t q hf
      refine z_ldcSW hC hI 144 (by decide) rfl rfl dX12_sayThree_174 ?_
      refine lv_goto (tgt := 183) hx hb dX12_sayThree_177 (by decide) ?_
      exact bX12_sayThree_183 hC  hI (lv_sub hl [0, 1] rfl) hf
    replace hf := zif_t q hf
    exact bX12_sayThree_127 hC  hI (lv_sub hl [0, 1, 2] rfl) hf
  replace hf := zif_t q hf
  refine lv_aload_n hx hb dX12_sayThree_55 rfl (lv_at hl 0 rfl) ?_
  refine lv_iload_n hx hb dX12_sayThree_56 rfl (lv_at hl 3 rfl) ?_
  refine lv_if_ne (tgt := 66) hx hb dX12_sayThree_57 (by decide) (fun q => ?_) (fun q => ?_)
  · replace hf := zif_f q hf
    refine lv_iload_n hx hb dX12_sayThree_66 rfl (lv_at hl 3 rfl) ?_
    refine lv_iconst (v := 1) hx hb dX12_sayThree_67 (by decide) ?_
    refine lv_icmp_ne (tgt := 77) hx hb dX12_sayThree_68 (by decide) (fun q => ?_) (fun q => ?_)
    · replace hf := zif_f q hf
      refine lv_iload_n hx hb dX12_sayThree_77 rfl (lv_at hl 3 rfl) ?_
      refine lv_iconst (v := 2) hx hb dX12_sayThree_78 (by decide) ?_
      refine lv_icmp_ne (tgt := 88) hx hb dX12_sayThree_79 (by decide) (fun q => ?_) (fun q => ?_)
      · replace hf := zif_f q hf
        refine z_ldcSW hC hI 142 (by decide) rfl rfl dX12_sayThree_88 ?_
        exact bX12_sayThree_91 hC  hI (lv_sub hl [0, 3] rfl) hf
      replace hf := zif_t q hf
      refine z_ldcSW hC hI 141 (by decide) rfl rfl dX12_sayThree_82 ?_
      refine lv_goto (tgt := 91) hx hb dX12_sayThree_85 (by decide) ?_
      exact bX12_sayThree_91 hC  hI (lv_sub hl [0, 3] rfl) hf
    replace hf := zif_t q hf
    refine z_ldcSW hC hI 140 (by decide) rfl rfl dX12_sayThree_71 ?_
    refine lv_goto (tgt := 91) hx hb dX12_sayThree_74 (by decide) ?_
    exact bX12_sayThree_91 hC  hI (lv_sub hl [0, 3] rfl) hf
  replace hf := zif_t q hf
  refine z_ldcSW hC hI 139 (by decide) rfl rfl dX12_sayThree_60 ?_
  refine lv_goto (tgt := 91) hx hb dX12_sayThree_63 (by decide) ?_
  exact bX12_sayThree_91 hC  hI (lv_sub hl [0, 3] rfl) hf
set_option maxRecDepth 20000 in
set_option maxHeartbeats 4000000 in
theorem bX12_sayThree {st : Nat → Nat} {p : Program} {l : Launch} {e : Env} {s : State} {m : MethodId} {args : Array Value} {below : List Frame} {meth : Method} {c : Code} {D : va_G} {A : Nat → Prop} {ad : Nat → Nat} {cy : Nat → ClassId} (hC : zC p m c cX12_sayThree 4 s args wzX12_sayThree RX12 meth none)  {res : zSt} {H : Heap} {locs : List Loc} {σ : zSt} {ls : Array Slot} {x1 : Int32} {x2 : Int32} (hI : zI st D (tM cy) (wM ad cy σ) A s H locs) (hl : lv_has ls 4 [(0, .ref (ad 0)), (1, .int x1), (2, .int x2)]) (hf : fX12_sayThree  σ x1 x2 = some res) : W p l e rmX12_sayThree s m args below meth c H locs 0 0 (zQu below args s D (tM cy) (wM ad cy) A res) (F0 m 0 ls []) := by
  have hx := hC.1
  have hb := hC.2.1
  unfold fX12_sayThree at hf
  refine lv_iload_n hx hb dX12_sayThree_0 rfl (lv_at hl 1 rfl) ?_
  refine lv_iconst (v := 1) hx hb dX12_sayThree_1 (by decide) ?_
  refine lv_ishr hx hb dX12_sayThree_2 ?_
  refine lv_topi (fun v17 ev17 => ?_)
  replace hf := zbv_use ev17 hf
  refine lv_istore_n (lv' := [(3, .int v17), (0, .ref (ad 0)), (1, .int x1), (2, .int x2)]) hx hb dX12_sayThree_3 rfl hl (by decide) rfl (fun ls hl => ?_)
  refine lv_iload_n hx hb dX12_sayThree_4 rfl (lv_at hl 3 rfl) ?_
  refine lv_if_ne (tgt := 23) hx hb dX12_sayThree_5 (by decide) (fun q => ?_) (fun q => ?_)
  · replace hf := zif_f q hf
    refine lv_iload_n hx hb dX12_sayThree_23 rfl (lv_at hl 3 rfl) ?_
    refine lv_iconst (v := 1) hx hb dX12_sayThree_24 (by decide) ?_
    refine lv_icmp_ne (tgt := 50) hx hb dX12_sayThree_25 (by decide) (fun q => ?_) (fun q => ?_)
    · replace hf := zif_f q hf
      exact bX12_sayThree_50 hC  hI (lv_sub hl [1, 2, 3, 0] rfl) hf
    replace hf := zif_t q hf
    refine lv_iload_n hx hb dX12_sayThree_28 rfl (lv_at hl 2 rfl) ?_
    refine lv_iconst (v := 2) hx hb dX12_sayThree_29 (by decide) ?_
    obtain ⟨q, hf⟩ := zck_use hf
    refine z_irem hx hb dX12_sayThree_30 (of_decide_eq_true q) ?_
    refine lv_if_ne (tgt := 50) hx hb dX12_sayThree_31 (by decide) (fun q => ?_) (fun q => ?_)
    · replace hf := zif_f q hf
      exact bX12_sayThree_50 hC  hI (lv_sub hl [1, 2, 3, 0] rfl) hf
    replace hf := zif_t q hf
    refine lv_aload_n hx hb dX12_sayThree_34 rfl (lv_at hl 1 rfl) ?_
    refine z_ldcSW hC hI 138 (by decide) rfl rfl dX12_sayThree_35 ?_
    obtain ⟨σ18, g18, hf⟩ := zbu_use hf
    refine z_callVu (As := [.ref (st (100 + 138))]) (rest := []) hC hI (cX12_say_met st l D ad cy σ 138 _ g18) (zgV zw74_23 zw75_0 zw75_1 zw1_5 zw75_2) rfl ⟨rfl, rfl⟩ 1 hdX12_say ⟨Nat.le_of_ble_eq_true rfl, Nat.le_of_ble_eq_true rfl⟩ rfl rfl (wM_e0 ad cy σ) rfl hl rfl (Nat.le_of_ble_eq_true rfl) dX12_sayThree_38 ⟨Nat.zero_le _, Nat.zero_le _⟩ (fun H locs hI => ?_)
    refine lv_aload_n hx hb dX12_sayThree_41 rfl (lv_at hl 1 rfl) ?_
    refine lv_iload_n hx hb dX12_sayThree_42 rfl (lv_at hl 0 rfl) ?_
    refine lv_iconst (v := 1) hx hb dX12_sayThree_43 (by decide) ?_
    obtain ⟨σ19, g19, hf⟩ := zbu_use hf
    refine z_callVu (As := [.int v17, .int 1]) (rest := []) hC hI (cX12_sayRp_met st l D ad cy σ18 v17 1 _ g19) (zgV zw76_16 zw76_17 zw76_18 zw1_5 zw76_19) rfl ⟨rfl, rfl⟩ 2 hdX12_sayRp ⟨Nat.le_of_ble_eq_true rfl, Nat.le_of_ble_eq_true rfl⟩ rfl rfl (wM_e0 ad cy σ18) rfl hl rfl (Nat.le_of_ble_eq_true rfl) dX12_sayThree_44 ⟨Nat.zero_le _, Nat.zero_le _⟩ (fun H locs hI => ?_)
    refine lv_goto (tgt := 266) hx hb dX12_sayThree_47 (by decide) ?_
    exact bX12_sayThree_266 hC  hI (lv_sub hl [] rfl) hf
  replace hf := zif_t q hf
  refine lv_aload_n hx hb dX12_sayThree_8 rfl (lv_at hl 1 rfl) ?_
  refine z_ldcSW hC hI 137 (by decide) rfl rfl dX12_sayThree_9 ?_
  obtain ⟨σ20, g20, hf⟩ := zbu_use hf
  refine z_callVu (As := [.ref (st (100 + 137))]) (rest := []) hC hI (cX12_say_met st l D ad cy σ 137 _ g20) (zgV zw74_23 zw75_0 zw75_1 zw1_5 zw75_2) rfl ⟨rfl, rfl⟩ 1 hdX12_say ⟨Nat.le_of_ble_eq_true rfl, Nat.le_of_ble_eq_true rfl⟩ rfl rfl (wM_e0 ad cy σ) rfl hl rfl (Nat.le_of_ble_eq_true rfl) dX12_sayThree_12 ⟨Nat.zero_le _, Nat.zero_le _⟩ (fun H locs hI => ?_)
  refine lv_aload_n hx hb dX12_sayThree_15 rfl (lv_at hl 1 rfl) ?_
  refine lv_iload_n hx hb dX12_sayThree_16 rfl (lv_at hl 2 rfl) ?_
  obtain ⟨σ21, g21, hf⟩ := zbu_use hf
  refine z_callVu (As := [.int x1]) (rest := []) hC hI (cX12_sayCc_met st l D ad cy σ20 x1 _ g21) (zgV zw76_8 zw76_9 zw76_10 zw1_5 zw76_11) rfl ⟨rfl, rfl⟩ 1 hdX12_sayCc ⟨Nat.le_of_ble_eq_true rfl, Nat.le_of_ble_eq_true rfl⟩ rfl rfl (wM_e0 ad cy σ20) rfl hl rfl (Nat.le_of_ble_eq_true rfl) dX12_sayThree_17 ⟨Nat.zero_le _, Nat.zero_le _⟩ (fun H locs hI => ?_)
  refine lv_goto (tgt := 266) hx hb dX12_sayThree_20 (by decide) ?_
  exact bX12_sayThree_266 hC  hI (lv_sub hl [] rfl) hf
set_option maxRecDepth 20000 in
theorem cX12_sayThree_met (st : Nat → Nat) (l : Launch) (D : va_G) (ad : Nat → Nat) (cy : Nat → ClassId) (σ : zSt) (x1 : Int32) (x2 : Int32) (res : zSt) (hf : fX12_sayThree σ x1 x2 = some res) (sz : Nat) : zMu st l yX12_sayThree wzX12_sayThree rmX12_sayThree [.ref (ad 0), .int x1, .int x2] D (tM cy) (wM ad cy) sz σ res :=
  zMu.of (cc := cX12_sayThree) (maxL := 4) (ret := none) (by decide) rfl (Nat.le_of_ble_eq_true rfl) (fun p e s m args below meth c hC A hI ls hl => bX12_sayThree hC hI hl hf)
theorem hdX12_sayThree : yX12_sayThree.cls = RX12 ∧ yX12_sayThree.cls ≠ "java/lang/invoke/MethodHandle" ∧ yX12_sayThree.cls ≠ "java/lang/invoke/VarHandle" ∧ (parseMethodDescriptor yX12_sayThree.desc).map (fun d => d.parameters.length) = some 2 := by decide +kernel
def rmX12_sayLast : Room := { frames := 7, cells := 0, slots := 0, locals := 181 }
def wzX12_sayLast : List Cond := .code yX12_sayLast cX12_sayLast 4 none :: wsL_law
def fX12_sayLast_115  (σ : zSt)  : Option (zSt) :=
  some σ
def fX12_sayLast_43  (σ : zSt)  : Option (zSt) :=
  zbi (fX12_takenWord σ ) (fun σ1 v2 =>
  zbu (fX12_hex σ1 v2 4) (fun σ3 =>
  fX12_sayLast_115 σ3))
def fX12_sayLast_19  (σ : zSt) (x1 : Int32) (x2 : Int32) : Option (zSt) :=
  zbu (fX12_say σ 151) (fun σ4 =>
  if x2 = 4 then zbu (fX12_sayCc σ4 x1) (fun σ5 =>
  zbu (fX12_say σ5 83) (fun σ6 =>
  fX12_sayLast_43 σ6)) else
  fX12_sayLast_43 σ4)
def fX12_sayLast_55  (σ : zSt) (x1 : Int32) (x2 : Int32) (x3 : Int32) : Option (zSt) :=
  if x2 = 5 then zbu (fX12_say σ 152) (fun σ13 =>
  zbu (fX12_sayRp σ13 x3 1) (fun σ14 =>
  fX12_sayLast_115 σ14)) else
  if x2 = 6 then zbu (fX12_sayDo σ x1) (fun σ9 =>
  zbi (fX12_taken σ9 ) (fun σ10 v11 =>
  zbu (fX12_hex σ10 v11 2) (fun σ12 =>
  fX12_sayLast_115 σ12))) else
  zbu (fX12_say σ 153) (fun σ7 =>
  zbu (fX12_hex σ7 (8 * x1) 2) (fun σ8 =>
  fX12_sayLast_115 σ8))
def fX12_sayLast  (σ : zSt) (x1 : Int32) (x2 : Int32) : Option (zSt) :=
  zbv (x1 >>> ((1 : Int32) &&& 31)) (fun v15 =>
  if x2 = 4 then fX12_sayLast_19 σ x1 x2 else
  if x2 = 5 then if x1 = 1 then fX12_sayLast_19 σ x1 x2 else
  fX12_sayLast_55 σ x1 x2 v15 else
  fX12_sayLast_55 σ x1 x2 v15)
set_option maxRecDepth 20000 in
set_option maxHeartbeats 4000000 in
theorem bX12_sayLast_115 {st : Nat → Nat} {p : Program} {l : Launch} {e : Env} {s : State} {m : MethodId} {args : Array Value} {below : List Frame} {meth : Method} {c : Code} {D : va_G} {A : Nat → Prop} {ad : Nat → Nat} {cy : Nat → ClassId} (hC : zC p m c cX12_sayLast 4 s args wzX12_sayLast RX12 meth none)  {res : zSt} {H : Heap} {locs : List Loc} {σ : zSt} {ls : Array Slot}  (hI : zI st D (tM cy) (wM ad cy σ) A s H locs) (hl : lv_has ls 4 []) (hf : fX12_sayLast_115  σ  = some res) : W p l e rmX12_sayLast s m args below meth c H locs 0 0 (zQu below args s D (tM cy) (wM ad cy) A res) (F0 m 115 ls []) := by
  have hx := hC.1
  have hb := hC.2.1
  unfold fX12_sayLast_115 at hf
  exact z_return hC hI hf dX12_sayLast_115
set_option maxRecDepth 20000 in
set_option maxHeartbeats 4000000 in
theorem bX12_sayLast_43 {st : Nat → Nat} {p : Program} {l : Launch} {e : Env} {s : State} {m : MethodId} {args : Array Value} {below : List Frame} {meth : Method} {c : Code} {D : va_G} {A : Nat → Prop} {ad : Nat → Nat} {cy : Nat → ClassId} (hC : zC p m c cX12_sayLast 4 s args wzX12_sayLast RX12 meth none)  {res : zSt} {H : Heap} {locs : List Loc} {σ : zSt} {ls : Array Slot}  (hI : zI st D (tM cy) (wM ad cy σ) A s H locs) (hl : lv_has ls 4 [(0, .ref (ad 0))]) (hf : fX12_sayLast_43  σ  = some res) : W p l e rmX12_sayLast s m args below meth c H locs 0 0 (zQu below args s D (tM cy) (wM ad cy) A res) (F0 m 43 ls []) := by
  have hx := hC.1
  have hb := hC.2.1
  unfold fX12_sayLast_43 at hf
  refine lv_aload_n hx hb dX12_sayLast_43 rfl (lv_at hl 0 rfl) ?_
  refine lv_aload_n hx hb dX12_sayLast_44 rfl (lv_at hl 0 rfl) ?_
  obtain ⟨σ1, v2, g1, hf⟩ := zbi_use hf
  refine z_callVi (As := []) (rest := [.ref (ad 0)]) hC hI (cX12_takenWord_met st l D ad cy σ  _ g1) (zgV zw76_20 zw76_21 zw76_22 zw1_5 zw76_23) rfl ⟨rfl, rfl⟩ 0 hdX12_takenWord ⟨Nat.le_of_ble_eq_true rfl, Nat.le_of_ble_eq_true rfl⟩ rfl rfl (wM_e0 ad cy σ) rfl hl rfl (Nat.le_of_ble_eq_true rfl) dX12_sayLast_45 ⟨Nat.zero_le _, Nat.zero_le _⟩ (fun H locs hI => ?_)
  refine lv_iconst (v := 4) hx hb dX12_sayLast_48 (by decide) ?_
  obtain ⟨σ3, g3, hf⟩ := zbu_use hf
  refine z_callVu (As := [.int v2, .int 4]) (rest := []) hC hI (cX12_hex_met st l D ad cy σ1 v2 4 _ g3) (zgV zw75_8 zw75_9 zw75_10 zw1_5 zw75_11) rfl ⟨rfl, rfl⟩ 2 hdX12_hex ⟨Nat.le_of_ble_eq_true rfl, Nat.le_of_ble_eq_true rfl⟩ rfl rfl (wM_e0 ad cy σ1) rfl hl rfl (Nat.le_of_ble_eq_true rfl) dX12_sayLast_49 ⟨Nat.zero_le _, Nat.zero_le _⟩ (fun H locs hI => ?_)
  refine lv_goto (tgt := 115) hx hb dX12_sayLast_52 (by decide) ?_
  exact bX12_sayLast_115 hC  hI (lv_sub hl [] rfl) hf
set_option maxRecDepth 20000 in
set_option maxHeartbeats 4000000 in
theorem bX12_sayLast_19 {st : Nat → Nat} {p : Program} {l : Launch} {e : Env} {s : State} {m : MethodId} {args : Array Value} {below : List Frame} {meth : Method} {c : Code} {D : va_G} {A : Nat → Prop} {ad : Nat → Nat} {cy : Nat → ClassId} (hC : zC p m c cX12_sayLast 4 s args wzX12_sayLast RX12 meth none)  {res : zSt} {H : Heap} {locs : List Loc} {σ : zSt} {ls : Array Slot} {x1 : Int32} {x2 : Int32} (hI : zI st D (tM cy) (wM ad cy σ) A s H locs) (hl : lv_has ls 4 [(0, .ref (ad 0)), (1, .int x1), (2, .int x2)]) (hf : fX12_sayLast_19  σ x1 x2 = some res) : W p l e rmX12_sayLast s m args below meth c H locs 0 0 (zQu below args s D (tM cy) (wM ad cy) A res) (F0 m 19 ls []) := by
  have hx := hC.1
  have hb := hC.2.1
  unfold fX12_sayLast_19 at hf
  refine lv_aload_n hx hb dX12_sayLast_19 rfl (lv_at hl 0 rfl) ?_
  refine z_ldcSW hC hI 151 (by decide) rfl rfl dX12_sayLast_20 ?_
  obtain ⟨σ4, g4, hf⟩ := zbu_use hf
  refine z_callVu (As := [.ref (st (100 + 151))]) (rest := []) hC hI (cX12_say_met st l D ad cy σ 151 _ g4) (zgV zw74_23 zw75_0 zw75_1 zw1_5 zw75_2) rfl ⟨rfl, rfl⟩ 1 hdX12_say ⟨Nat.le_of_ble_eq_true rfl, Nat.le_of_ble_eq_true rfl⟩ rfl rfl (wM_e0 ad cy σ) rfl hl rfl (Nat.le_of_ble_eq_true rfl) dX12_sayLast_23 ⟨Nat.zero_le _, Nat.zero_le _⟩ (fun H locs hI => ?_)
  refine lv_iload_n hx hb dX12_sayLast_26 rfl (lv_at hl 2 rfl) ?_
  refine lv_iconst (v := 4) hx hb dX12_sayLast_27 (by decide) ?_
  refine lv_icmp_ne (tgt := 43) hx hb dX12_sayLast_28 (by decide) (fun q => ?_) (fun q => ?_)
  · replace hf := zif_f q hf
    exact bX12_sayLast_43 hC  hI (lv_sub hl [0] rfl) hf
  replace hf := zif_t q hf
  refine lv_aload_n hx hb dX12_sayLast_31 rfl (lv_at hl 0 rfl) ?_
  refine lv_iload_n hx hb dX12_sayLast_32 rfl (lv_at hl 1 rfl) ?_
  obtain ⟨σ5, g5, hf⟩ := zbu_use hf
  refine z_callVu (As := [.int x1]) (rest := []) hC hI (cX12_sayCc_met st l D ad cy σ4 x1 _ g5) (zgV zw76_8 zw76_9 zw76_10 zw1_5 zw76_11) rfl ⟨rfl, rfl⟩ 1 hdX12_sayCc ⟨Nat.le_of_ble_eq_true rfl, Nat.le_of_ble_eq_true rfl⟩ rfl rfl (wM_e0 ad cy σ4) rfl hl rfl (Nat.le_of_ble_eq_true rfl) dX12_sayLast_33 ⟨Nat.zero_le _, Nat.zero_le _⟩ (fun H locs hI => ?_)
  refine lv_aload_n hx hb dX12_sayLast_36 rfl (lv_at hl 0 rfl) ?_
  refine z_ldcSW hC hI 83 (by decide) rfl rfl dX12_sayLast_37 ?_
  obtain ⟨σ6, g6, hf⟩ := zbu_use hf
  refine z_callVu (As := [.ref (st (100 + 83))]) (rest := []) hC hI (cX12_say_met st l D ad cy σ5 83 _ g6) (zgV zw74_23 zw75_0 zw75_1 zw1_5 zw75_2) rfl ⟨rfl, rfl⟩ 1 hdX12_say ⟨Nat.le_of_ble_eq_true rfl, Nat.le_of_ble_eq_true rfl⟩ rfl rfl (wM_e0 ad cy σ5) rfl hl rfl (Nat.le_of_ble_eq_true rfl) dX12_sayLast_40 ⟨Nat.zero_le _, Nat.zero_le _⟩ (fun H locs hI => ?_)
  exact bX12_sayLast_43 hC  hI (lv_sub hl [0] rfl) hf
set_option maxRecDepth 20000 in
set_option maxHeartbeats 4000000 in
theorem bX12_sayLast_55 {st : Nat → Nat} {p : Program} {l : Launch} {e : Env} {s : State} {m : MethodId} {args : Array Value} {below : List Frame} {meth : Method} {c : Code} {D : va_G} {A : Nat → Prop} {ad : Nat → Nat} {cy : Nat → ClassId} (hC : zC p m c cX12_sayLast 4 s args wzX12_sayLast RX12 meth none)  {res : zSt} {H : Heap} {locs : List Loc} {σ : zSt} {ls : Array Slot} {x1 : Int32} {x2 : Int32} {x3 : Int32} (hI : zI st D (tM cy) (wM ad cy σ) A s H locs) (hl : lv_has ls 4 [(0, .ref (ad 0)), (1, .int x1), (2, .int x2), (3, .int x3)]) (hf : fX12_sayLast_55  σ x1 x2 x3 = some res) : W p l e rmX12_sayLast s m args below meth c H locs 0 0 (zQu below args s D (tM cy) (wM ad cy) A res) (F0 m 55 ls []) := by
  have hx := hC.1
  have hb := hC.2.1
  unfold fX12_sayLast_55 at hf
  refine lv_iload_n hx hb dX12_sayLast_55 rfl (lv_at hl 2 rfl) ?_
  refine lv_iconst (v := 5) hx hb dX12_sayLast_56 (by decide) ?_
  refine lv_icmp_ne (tgt := 76) hx hb dX12_sayLast_57 (by decide) (fun q => ?_) (fun q => ?_)
  · replace hf := zif_f q hf
    refine lv_iload_n hx hb dX12_sayLast_76 rfl (lv_at hl 2 rfl) ?_
    refine lv_bipush (v := 6) hx hb dX12_sayLast_77 (by decide) ?_
    refine lv_icmp_ne (tgt := 99) hx hb dX12_sayLast_79 (by decide) (fun q => ?_) (fun q => ?_)
    · replace hf := zif_f q hf
      refine lv_aload_n hx hb dX12_sayLast_99 rfl (lv_at hl 0 rfl) ?_
      refine z_ldcSW hC hI 153 (by decide) rfl rfl dX12_sayLast_100 ?_
      obtain ⟨σ7, g7, hf⟩ := zbu_use hf
      refine z_callVu (As := [.ref (st (100 + 153))]) (rest := []) hC hI (cX12_say_met st l D ad cy σ 153 _ g7) (zgV zw74_23 zw75_0 zw75_1 zw1_5 zw75_2) rfl ⟨rfl, rfl⟩ 1 hdX12_say ⟨Nat.le_of_ble_eq_true rfl, Nat.le_of_ble_eq_true rfl⟩ rfl rfl (wM_e0 ad cy σ) rfl hl rfl (Nat.le_of_ble_eq_true rfl) dX12_sayLast_103 ⟨Nat.zero_le _, Nat.zero_le _⟩ (fun H locs hI => ?_)
      refine lv_aload_n hx hb dX12_sayLast_106 rfl (lv_at hl 0 rfl) ?_
      refine lv_bipush (v := 8) hx hb dX12_sayLast_107 (by decide) ?_
      refine lv_iload_n hx hb dX12_sayLast_109 rfl (lv_at hl 1 rfl) ?_
      refine lv_imul hx hb dX12_sayLast_110 ?_
      refine lv_iconst (v := 2) hx hb dX12_sayLast_111 (by decide) ?_
      obtain ⟨σ8, g8, hf⟩ := zbu_use hf
      refine z_callVu (As := [.int (8 * x1), .int 2]) (rest := []) hC hI (cX12_hex_met st l D ad cy σ7 (8 * x1) 2 _ g8) (zgV zw75_8 zw75_9 zw75_10 zw1_5 zw75_11) rfl ⟨rfl, rfl⟩ 2 hdX12_hex ⟨Nat.le_of_ble_eq_true rfl, Nat.le_of_ble_eq_true rfl⟩ rfl rfl (wM_e0 ad cy σ7) rfl hl rfl (Nat.le_of_ble_eq_true rfl) dX12_sayLast_112 ⟨Nat.zero_le _, Nat.zero_le _⟩ (fun H locs hI => ?_)
      exact bX12_sayLast_115 hC  hI (lv_sub hl [] rfl) hf
    replace hf := zif_t q hf
    refine lv_aload_n hx hb dX12_sayLast_82 rfl (lv_at hl 0 rfl) ?_
    refine lv_iload_n hx hb dX12_sayLast_83 rfl (lv_at hl 1 rfl) ?_
    obtain ⟨σ9, g9, hf⟩ := zbu_use hf
    refine z_callVu (As := [.int x1]) (rest := []) hC hI (cX12_sayDo_met st l D ad cy σ x1 _ g9) (zgV zw77_8 zw77_9 zw77_10 zw1_5 zw77_11) rfl ⟨rfl, rfl⟩ 1 hdX12_sayDo ⟨Nat.le_of_ble_eq_true rfl, Nat.le_of_ble_eq_true rfl⟩ rfl rfl (wM_e0 ad cy σ) rfl hl rfl (Nat.le_of_ble_eq_true rfl) dX12_sayLast_84 ⟨Nat.zero_le _, Nat.zero_le _⟩ (fun H locs hI => ?_)
    refine lv_aload_n hx hb dX12_sayLast_87 rfl (lv_at hl 0 rfl) ?_
    refine lv_aload_n hx hb dX12_sayLast_88 rfl (lv_at hl 0 rfl) ?_
    obtain ⟨σ10, v11, g10, hf⟩ := zbi_use hf
    refine z_callVi (As := []) (rest := [.ref (ad 0)]) hC hI (cX12_taken_met st l D ad cy σ9  _ g10) (zgV zw74_14 zw74_15 zw74_16 zw1_5 zw74_17) rfl ⟨rfl, rfl⟩ 0 hdX12_taken ⟨Nat.le_of_ble_eq_true rfl, Nat.le_of_ble_eq_true rfl⟩ rfl rfl (wM_e0 ad cy σ9) rfl hl rfl (Nat.le_of_ble_eq_true rfl) dX12_sayLast_89 ⟨Nat.zero_le _, Nat.zero_le _⟩ (fun H locs hI => ?_)
    refine lv_iconst (v := 2) hx hb dX12_sayLast_92 (by decide) ?_
    obtain ⟨σ12, g12, hf⟩ := zbu_use hf
    refine z_callVu (As := [.int v11, .int 2]) (rest := []) hC hI (cX12_hex_met st l D ad cy σ10 v11 2 _ g12) (zgV zw75_8 zw75_9 zw75_10 zw1_5 zw75_11) rfl ⟨rfl, rfl⟩ 2 hdX12_hex ⟨Nat.le_of_ble_eq_true rfl, Nat.le_of_ble_eq_true rfl⟩ rfl rfl (wM_e0 ad cy σ10) rfl hl rfl (Nat.le_of_ble_eq_true rfl) dX12_sayLast_93 ⟨Nat.zero_le _, Nat.zero_le _⟩ (fun H locs hI => ?_)
    refine lv_goto (tgt := 115) hx hb dX12_sayLast_96 (by decide) ?_
    exact bX12_sayLast_115 hC  hI (lv_sub hl [] rfl) hf
  replace hf := zif_t q hf
  refine lv_aload_n hx hb dX12_sayLast_60 rfl (lv_at hl 0 rfl) ?_
  refine z_ldcSW hC hI 152 (by decide) rfl rfl dX12_sayLast_61 ?_
  obtain ⟨σ13, g13, hf⟩ := zbu_use hf
  refine z_callVu (As := [.ref (st (100 + 152))]) (rest := []) hC hI (cX12_say_met st l D ad cy σ 152 _ g13) (zgV zw74_23 zw75_0 zw75_1 zw1_5 zw75_2) rfl ⟨rfl, rfl⟩ 1 hdX12_say ⟨Nat.le_of_ble_eq_true rfl, Nat.le_of_ble_eq_true rfl⟩ rfl rfl (wM_e0 ad cy σ) rfl hl rfl (Nat.le_of_ble_eq_true rfl) dX12_sayLast_64 ⟨Nat.zero_le _, Nat.zero_le _⟩ (fun H locs hI => ?_)
  refine lv_aload_n hx hb dX12_sayLast_67 rfl (lv_at hl 0 rfl) ?_
  refine lv_iload_n hx hb dX12_sayLast_68 rfl (lv_at hl 3 rfl) ?_
  refine lv_iconst (v := 1) hx hb dX12_sayLast_69 (by decide) ?_
  obtain ⟨σ14, g14, hf⟩ := zbu_use hf
  refine z_callVu (As := [.int x3, .int 1]) (rest := []) hC hI (cX12_sayRp_met st l D ad cy σ13 x3 1 _ g14) (zgV zw76_16 zw76_17 zw76_18 zw1_5 zw76_19) rfl ⟨rfl, rfl⟩ 2 hdX12_sayRp ⟨Nat.le_of_ble_eq_true rfl, Nat.le_of_ble_eq_true rfl⟩ rfl rfl (wM_e0 ad cy σ13) rfl hl rfl (Nat.le_of_ble_eq_true rfl) dX12_sayLast_70 ⟨Nat.zero_le _, Nat.zero_le _⟩ (fun H locs hI => ?_)
  refine lv_goto (tgt := 115) hx hb dX12_sayLast_73 (by decide) ?_
  exact bX12_sayLast_115 hC  hI (lv_sub hl [] rfl) hf
set_option maxRecDepth 20000 in
set_option maxHeartbeats 4000000 in
theorem bX12_sayLast {st : Nat → Nat} {p : Program} {l : Launch} {e : Env} {s : State} {m : MethodId} {args : Array Value} {below : List Frame} {meth : Method} {c : Code} {D : va_G} {A : Nat → Prop} {ad : Nat → Nat} {cy : Nat → ClassId} (hC : zC p m c cX12_sayLast 4 s args wzX12_sayLast RX12 meth none)  {res : zSt} {H : Heap} {locs : List Loc} {σ : zSt} {ls : Array Slot} {x1 : Int32} {x2 : Int32} (hI : zI st D (tM cy) (wM ad cy σ) A s H locs) (hl : lv_has ls 4 [(0, .ref (ad 0)), (1, .int x1), (2, .int x2)]) (hf : fX12_sayLast  σ x1 x2 = some res) : W p l e rmX12_sayLast s m args below meth c H locs 0 0 (zQu below args s D (tM cy) (wM ad cy) A res) (F0 m 0 ls []) := by
  have hx := hC.1
  have hb := hC.2.1
  unfold fX12_sayLast at hf
  refine lv_iload_n hx hb dX12_sayLast_0 rfl (lv_at hl 1 rfl) ?_
  refine lv_iconst (v := 1) hx hb dX12_sayLast_1 (by decide) ?_
  refine lv_ishr hx hb dX12_sayLast_2 ?_
  refine lv_topi (fun v15 ev15 => ?_)
  replace hf := zbv_use ev15 hf
  refine lv_istore_n (lv' := [(3, .int v15), (0, .ref (ad 0)), (1, .int x1), (2, .int x2)]) hx hb dX12_sayLast_3 rfl hl (by decide) rfl (fun ls hl => ?_)
  refine lv_iload_n hx hb dX12_sayLast_4 rfl (lv_at hl 3 rfl) ?_
  refine lv_iconst (v := 4) hx hb dX12_sayLast_5 (by decide) ?_
  refine lv_icmp_eq (tgt := 19) hx hb dX12_sayLast_6 (by decide) (fun q => ?_) (fun q => ?_)
  · replace hf := zif_t q hf
    exact bX12_sayLast_19 hC  hI (lv_sub hl [1, 2, 3] rfl) hf
  replace hf := zif_f q hf
  refine lv_iload_n hx hb dX12_sayLast_9 rfl (lv_at hl 3 rfl) ?_
  refine lv_iconst (v := 5) hx hb dX12_sayLast_10 (by decide) ?_
  refine lv_icmp_ne (tgt := 55) hx hb dX12_sayLast_11 (by decide) (fun q => ?_) (fun q => ?_)
  · replace hf := zif_f q hf
    exact bX12_sayLast_55 hC  hI (lv_sub hl [1, 2, 3, 0] rfl) hf
  replace hf := zif_t q hf
  refine lv_iload_n hx hb dX12_sayLast_14 rfl (lv_at hl 2 rfl) ?_
  refine lv_iconst (v := 1) hx hb dX12_sayLast_15 (by decide) ?_
  refine lv_icmp_ne (tgt := 55) hx hb dX12_sayLast_16 (by decide) (fun q => ?_) (fun q => ?_)
  · replace hf := zif_f q hf
    exact bX12_sayLast_55 hC  hI (lv_sub hl [1, 2, 3, 0] rfl) hf
  replace hf := zif_t q hf
  exact bX12_sayLast_19 hC  hI (lv_sub hl [1, 2, 3] rfl) hf
set_option maxRecDepth 20000 in
theorem cX12_sayLast_met (st : Nat → Nat) (l : Launch) (D : va_G) (ad : Nat → Nat) (cy : Nat → ClassId) (σ : zSt) (x1 : Int32) (x2 : Int32) (res : zSt) (hf : fX12_sayLast σ x1 x2 = some res) (sz : Nat) : zMu st l yX12_sayLast wzX12_sayLast rmX12_sayLast [.ref (ad 0), .int x1, .int x2] D (tM cy) (wM ad cy) sz σ res :=
  zMu.of (cc := cX12_sayLast) (maxL := 4) (ret := none) (by decide) rfl (Nat.le_of_ble_eq_true rfl) (fun p e s m args below meth c hC A hI ls hl => bX12_sayLast hC hI hl hf)
theorem hdX12_sayLast : yX12_sayLast.cls = RX12 ∧ yX12_sayLast.cls ≠ "java/lang/invoke/MethodHandle" ∧ yX12_sayLast.cls ≠ "java/lang/invoke/VarHandle" ∧ (parseMethodDescriptor yX12_sayLast.desc).map (fun d => d.parameters.length) = some 2 := by decide +kernel
def rmX12_sayPlain : Room := { frames := 8, cells := 0, slots := 0, locals := 205 }
def wzX12_sayPlain : List Cond := .code yX12_sayPlain cX12_sayPlain 4 none :: wsL_law
def fX12_sayPlain_137  (σ : zSt)  : Option (zSt) :=
  some σ
def fX12_sayPlain_32  (σ : zSt) (x1 : Int32) (x2 : Int32) (x3 : Int32) : Option (zSt) :=
  if 64 ≤ x1 then if x1 = 118 then zbu (fX12_say σ 129) (fun σ9 =>
  fX12_sayPlain_137 σ9) else
  if 128 ≤ x1 then if 192 ≤ x1 then if 4 ≤ x3 then zbu (fX12_sayLast σ x2 x3) (fun σ1 =>
  fX12_sayPlain_137 σ1) else
  zbu (fX12_sayThree σ x2 x3) (fun σ2 =>
  fX12_sayPlain_137 σ2) else
  zbu (fX12_sayDo σ x2) (fun σ3 =>
  zbu (fX12_sayR σ3 x3) (fun σ4 =>
  fX12_sayPlain_137 σ4)) else
  zbu (fX12_say σ 111) (fun σ5 =>
  zbu (fX12_sayR σ5 x2) (fun σ6 =>
  zbu (fX12_say σ6 83) (fun σ7 =>
  zbu (fX12_sayR σ7 x3) (fun σ8 =>
  fX12_sayPlain_137 σ8)))) else
  zbu (fX12_saySingle σ x2 x3) (fun σ10 =>
  fX12_sayPlain_137 σ10)
def fX12_sayPlain  (σ : zSt) (x1 : Int32) : Option (zSt) :=
  zbv ((x1 >>> ((3 : Int32) &&& 31)) &&& 7) (fun v11 =>
  zbv (x1 &&& 7) (fun v12 =>
  if 64 ≤ x1 then fX12_sayPlain_32 σ x1 v11 v12 else
  if 4 ≤ v12 then fX12_sayPlain_32 σ x1 v11 v12 else
  zbu (fX12_sayZero σ v11 v12) (fun σ13 =>
  fX12_sayPlain_137 σ13)))
set_option maxRecDepth 20000 in
set_option maxHeartbeats 4000000 in
theorem bX12_sayPlain_137 {st : Nat → Nat} {p : Program} {l : Launch} {e : Env} {s : State} {m : MethodId} {args : Array Value} {below : List Frame} {meth : Method} {c : Code} {D : va_G} {A : Nat → Prop} {ad : Nat → Nat} {cy : Nat → ClassId} (hC : zC p m c cX12_sayPlain 4 s args wzX12_sayPlain RX12 meth none)  {res : zSt} {H : Heap} {locs : List Loc} {σ : zSt} {ls : Array Slot}  (hI : zI st D (tM cy) (wM ad cy σ) A s H locs) (hl : lv_has ls 4 []) (hf : fX12_sayPlain_137  σ  = some res) : W p l e rmX12_sayPlain s m args below meth c H locs 0 0 (zQu below args s D (tM cy) (wM ad cy) A res) (F0 m 137 ls []) := by
  have hx := hC.1
  have hb := hC.2.1
  unfold fX12_sayPlain_137 at hf
  exact z_return hC hI hf dX12_sayPlain_137
set_option maxRecDepth 20000 in
set_option maxHeartbeats 4000000 in
theorem bX12_sayPlain_32 {st : Nat → Nat} {p : Program} {l : Launch} {e : Env} {s : State} {m : MethodId} {args : Array Value} {below : List Frame} {meth : Method} {c : Code} {D : va_G} {A : Nat → Prop} {ad : Nat → Nat} {cy : Nat → ClassId} (hC : zC p m c cX12_sayPlain 4 s args wzX12_sayPlain RX12 meth none)  {res : zSt} {H : Heap} {locs : List Loc} {σ : zSt} {ls : Array Slot} {x1 : Int32} {x2 : Int32} {x3 : Int32} (hI : zI st D (tM cy) (wM ad cy σ) A s H locs) (hl : lv_has ls 4 [(0, .ref (ad 0)), (1, .int x1), (2, .int x2), (3, .int x3)]) (hf : fX12_sayPlain_32  σ x1 x2 x3 = some res) : W p l e rmX12_sayPlain s m args below meth c H locs 0 0 (zQu below args s D (tM cy) (wM ad cy) A res) (F0 m 32 ls []) := by
  have hx := hC.1
  have hb := hC.2.1
  unfold fX12_sayPlain_32 at hf
  refine lv_iload_n hx hb dX12_sayPlain_32 rfl (lv_at hl 1 rfl) ?_
  refine lv_bipush (v := 64) hx hb dX12_sayPlain_33 (by decide) ?_
  refine lv_icmp_ge (tgt := 47) hx hb dX12_sayPlain_35 (by decide) (fun q => ?_) (fun q => ?_)
  · replace hf := zif_t q hf
    refine lv_iload_n hx hb dX12_sayPlain_47 rfl (lv_at hl 1 rfl) ?_
    refine lv_bipush (v := 118) hx hb dX12_sayPlain_48 (by decide) ?_
    refine lv_icmp_ne (tgt := 63) hx hb dX12_sayPlain_50 (by decide) (fun q => ?_) (fun q => ?_)
    · replace hf := zif_f q hf
      refine lv_iload_n hx hb dX12_sayPlain_63 rfl (lv_at hl 1 rfl) ?_
      refine lv_sipush (v := 128) hx hb dX12_sayPlain_64 (by decide) ?_
      refine lv_icmp_ge (tgt := 97) hx hb dX12_sayPlain_67 (by decide) (fun q => ?_) (fun q => ?_)
      · replace hf := zif_t q hf
        refine lv_iload_n hx hb dX12_sayPlain_97 rfl (lv_at hl 1 rfl) ?_
        refine lv_sipush (v := 192) hx hb dX12_sayPlain_98 (by decide) ?_
        refine lv_icmp_ge (tgt := 117) hx hb dX12_sayPlain_101 (by decide) (fun q => ?_) (fun q => ?_)
        · replace hf := zif_t q hf
          refine lv_iload_n hx hb dX12_sayPlain_117 rfl (lv_at hl 3 rfl) ?_
          refine lv_iconst (v := 4) hx hb dX12_sayPlain_118 (by decide) ?_
          refine lv_icmp_ge (tgt := 131) hx hb dX12_sayPlain_119 (by decide) (fun q => ?_) (fun q => ?_)
          · replace hf := zif_t q hf
            refine lv_aload_n hx hb dX12_sayPlain_131 rfl (lv_at hl 0 rfl) ?_
            refine lv_iload_n hx hb dX12_sayPlain_132 rfl (lv_at hl 2 rfl) ?_
            refine lv_iload_n hx hb dX12_sayPlain_133 rfl (lv_at hl 3 rfl) ?_
            obtain ⟨σ1, g1, hf⟩ := zbu_use hf
            refine z_callVu (As := [.int x2, .int x3]) (rest := []) hC hI (cX12_sayLast_met st l D ad cy σ x2 x3 _ g1) (zgV zw77_16 zw77_17 zw77_18 zw1_5 zw77_19) rfl ⟨rfl, rfl⟩ 2 hdX12_sayLast ⟨Nat.le_of_ble_eq_true rfl, Nat.le_of_ble_eq_true rfl⟩ rfl rfl (wM_e0 ad cy σ) rfl hl rfl (Nat.le_of_ble_eq_true rfl) dX12_sayPlain_134 ⟨Nat.zero_le _, Nat.zero_le _⟩ (fun H locs hI => ?_)
            exact bX12_sayPlain_137 hC  hI (lv_sub hl [] rfl) hf
          replace hf := zif_f q hf
          refine lv_aload_n hx hb dX12_sayPlain_122 rfl (lv_at hl 0 rfl) ?_
          refine lv_iload_n hx hb dX12_sayPlain_123 rfl (lv_at hl 2 rfl) ?_
          refine lv_iload_n hx hb dX12_sayPlain_124 rfl (lv_at hl 3 rfl) ?_
          obtain ⟨σ2, g2, hf⟩ := zbu_use hf
          refine z_callVu (As := [.int x2, .int x3]) (rest := []) hC hI (cX12_sayThree_met st l D ad cy σ x2 x3 _ g2) (zgV zw77_12 zw77_13 zw77_14 zw1_5 zw77_15) rfl ⟨rfl, rfl⟩ 2 hdX12_sayThree ⟨Nat.le_of_ble_eq_true rfl, Nat.le_of_ble_eq_true rfl⟩ rfl rfl (wM_e0 ad cy σ) rfl hl rfl (Nat.le_of_ble_eq_true rfl) dX12_sayPlain_125 ⟨Nat.zero_le _, Nat.zero_le _⟩ (fun H locs hI => ?_)
          refine lv_goto (tgt := 137) hx hb dX12_sayPlain_128 (by decide) ?_
          exact bX12_sayPlain_137 hC  hI (lv_sub hl [] rfl) hf
        replace hf := zif_f q hf
        refine lv_aload_n hx hb dX12_sayPlain_104 rfl (lv_at hl 0 rfl) ?_
        refine lv_iload_n hx hb dX12_sayPlain_105 rfl (lv_at hl 2 rfl) ?_
        obtain ⟨σ3, g3, hf⟩ := zbu_use hf
        refine z_callVu (As := [.int x2]) (rest := []) hC hI (cX12_sayDo_met st l D ad cy σ x2 _ g3) (zgV zw77_8 zw77_9 zw77_10 zw1_5 zw77_11) rfl ⟨rfl, rfl⟩ 1 hdX12_sayDo ⟨Nat.le_of_ble_eq_true rfl, Nat.le_of_ble_eq_true rfl⟩ rfl rfl (wM_e0 ad cy σ) rfl hl rfl (Nat.le_of_ble_eq_true rfl) dX12_sayPlain_106 ⟨Nat.zero_le _, Nat.zero_le _⟩ (fun H locs hI => ?_)
        refine lv_aload_n hx hb dX12_sayPlain_109 rfl (lv_at hl 0 rfl) ?_
        refine lv_iload_n hx hb dX12_sayPlain_110 rfl (lv_at hl 3 rfl) ?_
        obtain ⟨σ4, g4, hf⟩ := zbu_use hf
        refine z_callVu (As := [.int x3]) (rest := []) hC hI (cX12_sayR_met st l D ad cy σ3 x3 _ g4) (zgV zw75_12 zw75_13 zw75_14 zw1_5 zw75_15) rfl ⟨rfl, rfl⟩ 1 hdX12_sayR ⟨Nat.le_of_ble_eq_true rfl, Nat.le_of_ble_eq_true rfl⟩ rfl rfl (wM_e0 ad cy σ3) rfl hl rfl (Nat.le_of_ble_eq_true rfl) dX12_sayPlain_111 ⟨Nat.zero_le _, Nat.zero_le _⟩ (fun H locs hI => ?_)
        refine lv_goto (tgt := 137) hx hb dX12_sayPlain_114 (by decide) ?_
        exact bX12_sayPlain_137 hC  hI (lv_sub hl [] rfl) hf
      replace hf := zif_f q hf
      refine lv_aload_n hx hb dX12_sayPlain_70 rfl (lv_at hl 0 rfl) ?_
      refine z_ldcSW hC hI 111 (by decide) rfl rfl dX12_sayPlain_71 ?_
      obtain ⟨σ5, g5, hf⟩ := zbu_use hf
      refine z_callVu (As := [.ref (st (100 + 111))]) (rest := []) hC hI (cX12_say_met st l D ad cy σ 111 _ g5) (zgV zw74_23 zw75_0 zw75_1 zw1_5 zw75_2) rfl ⟨rfl, rfl⟩ 1 hdX12_say ⟨Nat.le_of_ble_eq_true rfl, Nat.le_of_ble_eq_true rfl⟩ rfl rfl (wM_e0 ad cy σ) rfl hl rfl (Nat.le_of_ble_eq_true rfl) dX12_sayPlain_74 ⟨Nat.zero_le _, Nat.zero_le _⟩ (fun H locs hI => ?_)
      refine lv_aload_n hx hb dX12_sayPlain_77 rfl (lv_at hl 0 rfl) ?_
      refine lv_iload_n hx hb dX12_sayPlain_78 rfl (lv_at hl 2 rfl) ?_
      obtain ⟨σ6, g6, hf⟩ := zbu_use hf
      refine z_callVu (As := [.int x2]) (rest := []) hC hI (cX12_sayR_met st l D ad cy σ5 x2 _ g6) (zgV zw75_12 zw75_13 zw75_14 zw1_5 zw75_15) rfl ⟨rfl, rfl⟩ 1 hdX12_sayR ⟨Nat.le_of_ble_eq_true rfl, Nat.le_of_ble_eq_true rfl⟩ rfl rfl (wM_e0 ad cy σ5) rfl hl rfl (Nat.le_of_ble_eq_true rfl) dX12_sayPlain_79 ⟨Nat.zero_le _, Nat.zero_le _⟩ (fun H locs hI => ?_)
      refine lv_aload_n hx hb dX12_sayPlain_82 rfl (lv_at hl 0 rfl) ?_
      refine z_ldcSW hC hI 83 (by decide) rfl rfl dX12_sayPlain_83 ?_
      obtain ⟨σ7, g7, hf⟩ := zbu_use hf
      refine z_callVu (As := [.ref (st (100 + 83))]) (rest := []) hC hI (cX12_say_met st l D ad cy σ6 83 _ g7) (zgV zw74_23 zw75_0 zw75_1 zw1_5 zw75_2) rfl ⟨rfl, rfl⟩ 1 hdX12_say ⟨Nat.le_of_ble_eq_true rfl, Nat.le_of_ble_eq_true rfl⟩ rfl rfl (wM_e0 ad cy σ6) rfl hl rfl (Nat.le_of_ble_eq_true rfl) dX12_sayPlain_86 ⟨Nat.zero_le _, Nat.zero_le _⟩ (fun H locs hI => ?_)
      refine lv_aload_n hx hb dX12_sayPlain_89 rfl (lv_at hl 0 rfl) ?_
      refine lv_iload_n hx hb dX12_sayPlain_90 rfl (lv_at hl 3 rfl) ?_
      obtain ⟨σ8, g8, hf⟩ := zbu_use hf
      refine z_callVu (As := [.int x3]) (rest := []) hC hI (cX12_sayR_met st l D ad cy σ7 x3 _ g8) (zgV zw75_12 zw75_13 zw75_14 zw1_5 zw75_15) rfl ⟨rfl, rfl⟩ 1 hdX12_sayR ⟨Nat.le_of_ble_eq_true rfl, Nat.le_of_ble_eq_true rfl⟩ rfl rfl (wM_e0 ad cy σ7) rfl hl rfl (Nat.le_of_ble_eq_true rfl) dX12_sayPlain_91 ⟨Nat.zero_le _, Nat.zero_le _⟩ (fun H locs hI => ?_)
      refine lv_goto (tgt := 137) hx hb dX12_sayPlain_94 (by decide) ?_
      exact bX12_sayPlain_137 hC  hI (lv_sub hl [] rfl) hf
    replace hf := zif_t q hf
    refine lv_aload_n hx hb dX12_sayPlain_53 rfl (lv_at hl 0 rfl) ?_
    refine z_ldcSW hC hI 129 (by decide) rfl rfl dX12_sayPlain_54 ?_
    obtain ⟨σ9, g9, hf⟩ := zbu_use hf
    refine z_callVu (As := [.ref (st (100 + 129))]) (rest := []) hC hI (cX12_say_met st l D ad cy σ 129 _ g9) (zgV zw74_23 zw75_0 zw75_1 zw1_5 zw75_2) rfl ⟨rfl, rfl⟩ 1 hdX12_say ⟨Nat.le_of_ble_eq_true rfl, Nat.le_of_ble_eq_true rfl⟩ rfl rfl (wM_e0 ad cy σ) rfl hl rfl (Nat.le_of_ble_eq_true rfl) dX12_sayPlain_57 ⟨Nat.zero_le _, Nat.zero_le _⟩ (fun H locs hI => ?_)
    refine lv_goto (tgt := 137) hx hb dX12_sayPlain_60 (by decide) ?_
    exact bX12_sayPlain_137 hC  hI (lv_sub hl [] rfl) hf
  replace hf := zif_f q hf
  refine lv_aload_n hx hb dX12_sayPlain_38 rfl (lv_at hl 0 rfl) ?_
  refine lv_iload_n hx hb dX12_sayPlain_39 rfl (lv_at hl 2 rfl) ?_
  refine lv_iload_n hx hb dX12_sayPlain_40 rfl (lv_at hl 3 rfl) ?_
  obtain ⟨σ10, g10, hf⟩ := zbu_use hf
  refine z_callVu (As := [.int x2, .int x3]) (rest := []) hC hI (cX12_saySingle_met st l D ad cy σ x2 x3 _ g10) (zgV zw77_4 zw77_5 zw77_6 zw1_5 zw77_7) rfl ⟨rfl, rfl⟩ 2 hdX12_saySingle ⟨Nat.le_of_ble_eq_true rfl, Nat.le_of_ble_eq_true rfl⟩ rfl rfl (wM_e0 ad cy σ) rfl hl rfl (Nat.le_of_ble_eq_true rfl) dX12_sayPlain_41 ⟨Nat.zero_le _, Nat.zero_le _⟩ (fun H locs hI => ?_)
  refine lv_goto (tgt := 137) hx hb dX12_sayPlain_44 (by decide) ?_
  exact bX12_sayPlain_137 hC  hI (lv_sub hl [] rfl) hf
set_option maxRecDepth 20000 in
set_option maxHeartbeats 4000000 in
theorem bX12_sayPlain {st : Nat → Nat} {p : Program} {l : Launch} {e : Env} {s : State} {m : MethodId} {args : Array Value} {below : List Frame} {meth : Method} {c : Code} {D : va_G} {A : Nat → Prop} {ad : Nat → Nat} {cy : Nat → ClassId} (hC : zC p m c cX12_sayPlain 4 s args wzX12_sayPlain RX12 meth none)  {res : zSt} {H : Heap} {locs : List Loc} {σ : zSt} {ls : Array Slot} {x1 : Int32} (hI : zI st D (tM cy) (wM ad cy σ) A s H locs) (hl : lv_has ls 4 [(0, .ref (ad 0)), (1, .int x1)]) (hf : fX12_sayPlain  σ x1 = some res) : W p l e rmX12_sayPlain s m args below meth c H locs 0 0 (zQu below args s D (tM cy) (wM ad cy) A res) (F0 m 0 ls []) := by
  have hx := hC.1
  have hb := hC.2.1
  unfold fX12_sayPlain at hf
  refine lv_iload_n hx hb dX12_sayPlain_0 rfl (lv_at hl 1 rfl) ?_
  refine lv_iconst (v := 3) hx hb dX12_sayPlain_1 (by decide) ?_
  refine lv_ishr hx hb dX12_sayPlain_2 ?_
  refine lv_bipush (v := 7) hx hb dX12_sayPlain_3 (by decide) ?_
  refine lv_iand hx hb dX12_sayPlain_5 ?_
  refine lv_topi (fun v11 ev11 => ?_)
  replace hf := zbv_use ev11 hf
  refine lv_istore_n (lv' := [(2, .int v11), (0, .ref (ad 0)), (1, .int x1)]) hx hb dX12_sayPlain_6 rfl hl (by decide) rfl (fun ls hl => ?_)
  refine lv_iload_n hx hb dX12_sayPlain_7 rfl (lv_at hl 2 rfl) ?_
  refine lv_bipush (v := 7) hx hb dX12_sayPlain_8 (by decide) ?_
  refine lv_iand hx hb dX12_sayPlain_10 ?_
  refine lv_topi (fun v12 ev12 => ?_)
  replace hf := zbv_use ev12 hf
  refine lv_istore_n (lv' := [(3, .int v12), (2, .int v11), (0, .ref (ad 0)), (1, .int x1)]) hx hb dX12_sayPlain_11 rfl hl (by decide) rfl (fun ls hl => ?_)
  refine lv_iload_n hx hb dX12_sayPlain_12 rfl (lv_at hl 3 rfl) ?_
  refine lv_bipush (v := 64) hx hb dX12_sayPlain_13 (by decide) ?_
  refine lv_icmp_ge (tgt := 32) hx hb dX12_sayPlain_15 (by decide) (fun q => ?_) (fun q => ?_)
  · replace hf := zif_t q hf
    exact bX12_sayPlain_32 hC  hI (lv_sub hl [2, 3, 1, 0] rfl) hf
  replace hf := zif_f q hf
  refine lv_iload_n hx hb dX12_sayPlain_18 rfl (lv_at hl 0 rfl) ?_
  refine lv_iconst (v := 4) hx hb dX12_sayPlain_19 (by decide) ?_
  refine lv_icmp_ge (tgt := 32) hx hb dX12_sayPlain_20 (by decide) (fun q => ?_) (fun q => ?_)
  · replace hf := zif_t q hf
    exact bX12_sayPlain_32 hC  hI (lv_sub hl [2, 3, 1, 0] rfl) hf
  replace hf := zif_f q hf
  refine lv_aload_n hx hb dX12_sayPlain_23 rfl (lv_at hl 2 rfl) ?_
  refine lv_iload_n hx hb dX12_sayPlain_24 rfl (lv_at hl 1 rfl) ?_
  refine lv_iload_n hx hb dX12_sayPlain_25 rfl (lv_at hl 0 rfl) ?_
  obtain ⟨σ13, g13, hf⟩ := zbu_use hf
  refine z_callVu (As := [.int v11, .int v12]) (rest := []) hC hI (cX12_sayZero_met st l D ad cy σ v11 v12 _ g13) (zgV zw76_4 zw76_5 zw76_6 zw1_5 zw76_7) rfl ⟨rfl, rfl⟩ 2 hdX12_sayZero ⟨Nat.le_of_ble_eq_true rfl, Nat.le_of_ble_eq_true rfl⟩ rfl rfl (wM_e0 ad cy σ) rfl hl rfl (Nat.le_of_ble_eq_true rfl) dX12_sayPlain_26 ⟨Nat.zero_le _, Nat.zero_le _⟩ (fun H locs hI => ?_)
  refine lv_goto (tgt := 137) hx hb dX12_sayPlain_29 (by decide) ?_
  exact bX12_sayPlain_137 hC  hI (lv_sub hl [] rfl) hf
set_option maxRecDepth 20000 in
theorem cX12_sayPlain_met (st : Nat → Nat) (l : Launch) (D : va_G) (ad : Nat → Nat) (cy : Nat → ClassId) (σ : zSt) (x1 : Int32) (res : zSt) (hf : fX12_sayPlain σ x1 = some res) (sz : Nat) : zMu st l yX12_sayPlain wzX12_sayPlain rmX12_sayPlain [.ref (ad 0), .int x1] D (tM cy) (wM ad cy) sz σ res :=
  zMu.of (cc := cX12_sayPlain) (maxL := 4) (ret := none) (by decide) rfl (Nat.le_of_ble_eq_true rfl) (fun p e s m args below meth c hC A hI ls hl => bX12_sayPlain hC hI hl hf)
theorem hdX12_sayPlain : yX12_sayPlain.cls = RX12 ∧ yX12_sayPlain.cls ≠ "java/lang/invoke/MethodHandle" ∧ yX12_sayPlain.cls ≠ "java/lang/invoke/VarHandle" ∧ (parseMethodDescriptor yX12_sayPlain.desc).map (fun d => d.parameters.length) = some 1 := by decide +kernel
def rmX12_sayPrefixed : Room := { frames := 9, cells := 0, slots := 0, locals := 228 }
def wzX12_sayPrefixed : List Cond := .code yX12_sayPrefixed cX12_sayPrefixed 7 none :: wsL_law
theorem hinX12_sayPrefixed_X120 : ∀ w ∈ wsX120, w ∈ wzX12_sayPrefixed := fun w h => List.mem_cons_of_mem _ (inlX12 w h)
def fX12_sayPrefixed_30  (σ : zSt)  : Option (zSt) :=
  zbu (fX12_say σ 71) (fun σ1 =>
  some σ1)
def fX12_sayPrefixed_133  (σ : zSt)  : Option (zSt) :=
  some σ
def fX12_sayPrefixed_240  (σ : zSt) (x2 : Int32) : Option (zSt) :=
  zbu (fX12_sayPlain σ x2) (fun σ2 =>
  some σ2)
def fX12_sayPrefixed_219  (σ : zSt) (x2 : Int32) (s0 : Int32) : Option (zSt) :=
  zck (zbo s0) (zbv (zsi σ 0 42 s0) (fun σ3 =>
  if (zgi σ3 0 42) = 0 then fX12_sayPrefixed_240 σ3 x2 else
  zbi (fX12_taken σ3 ) (fun σ4 v5 =>
  zbi (fX12_signed σ4 v5) (fun σ6 v7 =>
  zbv (zsi σ6 0 43 v7) (fun σ8 =>
  fX12_sayPrefixed_240 σ8 x2)))))
def fX12_sayPrefixed_218  (σ : zSt) (x2 : Int32) : Option (zSt) :=
  fX12_sayPrefixed_219 σ x2 0
def fX12_sayPrefixed_214  (σ : zSt) (x2 : Int32) : Option (zSt) :=
  fX12_sayPrefixed_219 σ x2 1
def fX12_sayPrefixed_201  (σ : zSt) (x2 : Int32) (x4 : Int32) (x5 : Int32) : Option (zSt) :=
  if x5 = 2 then if x4 = 6 then fX12_sayPrefixed_214 σ x2 else
  fX12_sayPrefixed_218 σ x2 else
  fX12_sayPrefixed_218 σ x2
def fX12_sayPrefixed_195  (σ : zSt) (x2 : Int32) (x4 : Int32) (x5 : Int32) : Option (zSt) :=
  if x2 = 118 then fX12_sayPrefixed_201 σ x2 x4 x5 else
  fX12_sayPrefixed_214 σ x2
def fX12_sayPrefixed_176  (σ : zSt) (x2 : Int32) (x3 : Int32) (x4 : Int32) (x5 : Int32) : Option (zSt) :=
  if x5 = 1 then if x3 = 6 then fX12_sayPrefixed_195 σ x2 x4 x5 else
  if x4 = 6 then fX12_sayPrefixed_195 σ x2 x4 x5 else
  fX12_sayPrefixed_201 σ x2 x4 x5 else
  fX12_sayPrefixed_201 σ x2 x4 x5
def fX12_sayPrefixed  (σ : zSt) (x1 : Int32) : Option (zSt) :=
  zbi (fX12_read σ (zgi σ 0 40)) (fun σ9 v10 =>
  if v10 = 221 then fX12_sayPrefixed_30 σ9 else
  if v10 = 237 then fX12_sayPrefixed_30 σ9 else
  if v10 = 253 then fX12_sayPrefixed_30 σ9 else
  zbv (zsi σ9 0 40 ((zgi σ9 0 40) + 1)) (fun σ11 =>
  zbv (zsi σ11 0 41 x1) (fun σ12 =>
  zbv ((v10 >>> ((3 : Int32) &&& 31)) &&& 7) (fun v13 =>
  zbv (v10 &&& 7) (fun v14 =>
  zbv (v10 >>> ((6 : Int32) &&& 31)) (fun v15 =>
  if v10 = 203 then zbi (fX12_taken σ12 ) (fun σ16 v17 =>
  zbi (fX12_signed σ16 v17) (fun σ18 v19 =>
  zbv (zsi σ18 0 43 v19) (fun σ20 =>
  zck (zbo 1) (zbv (zsi σ20 0 42 1) (fun σ21 =>
  zbi (fX12_taken σ21 ) (fun σ22 v23 =>
  zbu (fX12_sayTurn σ22 ((v23 &&& 248) ||| 6)) (fun σ24 =>
  if (v23 >>> ((6 : Int32) &&& 31)) = 1 then fX12_sayPrefixed_133 σ24 else
  zck (decide (¬ 8 = 0)) (
  if (zrem v23 8) = 6 then fX12_sayPrefixed_133 σ24 else
  zbu (fX12_say σ24 83) (fun σ25 =>
  zck (decide (¬ 8 = 0)) (
  zbu (fX12_sayR σ25 (zrem v23 8)) (fun σ26 =>
  some σ26))))))))))) else
  if v15 = 0 then if v14 ≤ 3 then fX12_sayPrefixed_176 σ12 v10 v13 v14 v15 else
  if 7 ≤ v14 then fX12_sayPrefixed_176 σ12 v10 v13 v14 v15 else
  if v13 = 6 then fX12_sayPrefixed_214 σ12 v10 else
  fX12_sayPrefixed_176 σ12 v10 v13 v14 v15 else
  fX12_sayPrefixed_176 σ12 v10 v13 v14 v15))))))
set_option maxRecDepth 20000 in
set_option maxHeartbeats 4000000 in
theorem bX12_sayPrefixed_30 {st : Nat → Nat} {p : Program} {l : Launch} {e : Env} {s : State} {m : MethodId} {args : Array Value} {below : List Frame} {meth : Method} {c : Code} {D : va_G} {A : Nat → Prop} {ad : Nat → Nat} {cy : Nat → ClassId} (hC : zC p m c cX12_sayPrefixed 7 s args wzX12_sayPrefixed RX12 meth none)  {res : zSt} {H : Heap} {locs : List Loc} {σ : zSt} {ls : Array Slot}  (hI : zI st D (tM cy) (wM ad cy σ) A s H locs) (hl : lv_has ls 7 [(0, .ref (ad 0))]) (hf : fX12_sayPrefixed_30  σ  = some res) : W p l e rmX12_sayPrefixed s m args below meth c H locs 0 0 (zQu below args s D (tM cy) (wM ad cy) A res) (F0 m 30 ls []) := by
  have hx := hC.1
  have hb := hC.2.1
  unfold fX12_sayPrefixed_30 at hf
  refine lv_aload_n hx hb dX12_sayPrefixed_30 rfl (lv_at hl 0 rfl) ?_
  refine z_ldcSW hC hI 71 (by decide) rfl rfl dX12_sayPrefixed_31 ?_
  obtain ⟨σ1, g1, hf⟩ := zbu_use hf
  refine z_callVu (As := [.ref (st (100 + 71))]) (rest := []) hC hI (cX12_say_met st l D ad cy σ 71 _ g1) (zgV zw74_23 zw75_0 zw75_1 zw1_5 zw75_2) rfl ⟨rfl, rfl⟩ 1 hdX12_say ⟨Nat.le_of_ble_eq_true rfl, Nat.le_of_ble_eq_true rfl⟩ rfl rfl (wM_e0 ad cy σ) rfl hl rfl (Nat.le_of_ble_eq_true rfl) dX12_sayPrefixed_34 ⟨Nat.zero_le _, Nat.zero_le _⟩ (fun H locs hI => ?_)
  exact z_return hC hI hf dX12_sayPrefixed_37
set_option maxRecDepth 20000 in
set_option maxHeartbeats 4000000 in
theorem bX12_sayPrefixed_133 {st : Nat → Nat} {p : Program} {l : Launch} {e : Env} {s : State} {m : MethodId} {args : Array Value} {below : List Frame} {meth : Method} {c : Code} {D : va_G} {A : Nat → Prop} {ad : Nat → Nat} {cy : Nat → ClassId} (hC : zC p m c cX12_sayPrefixed 7 s args wzX12_sayPrefixed RX12 meth none)  {res : zSt} {H : Heap} {locs : List Loc} {σ : zSt} {ls : Array Slot}  (hI : zI st D (tM cy) (wM ad cy σ) A s H locs) (hl : lv_has ls 7 []) (hf : fX12_sayPrefixed_133  σ  = some res) : W p l e rmX12_sayPrefixed s m args below meth c H locs 0 0 (zQu below args s D (tM cy) (wM ad cy) A res) (F0 m 133 ls []) := by
  have hx := hC.1
  have hb := hC.2.1
  unfold fX12_sayPrefixed_133 at hf
  exact z_return hC hI hf dX12_sayPrefixed_133
set_option maxRecDepth 20000 in
set_option maxHeartbeats 4000000 in
theorem bX12_sayPrefixed_240 {st : Nat → Nat} {p : Program} {l : Launch} {e : Env} {s : State} {m : MethodId} {args : Array Value} {below : List Frame} {meth : Method} {c : Code} {D : va_G} {A : Nat → Prop} {ad : Nat → Nat} {cy : Nat → ClassId} (hC : zC p m c cX12_sayPrefixed 7 s args wzX12_sayPrefixed RX12 meth none)  {res : zSt} {H : Heap} {locs : List Loc} {σ : zSt} {ls : Array Slot} {x2 : Int32} (hI : zI st D (tM cy) (wM ad cy σ) A s H locs) (hl : lv_has ls 7 [(0, .ref (ad 0)), (2, .int x2)]) (hf : fX12_sayPrefixed_240  σ x2 = some res) : W p l e rmX12_sayPrefixed s m args below meth c H locs 0 0 (zQu below args s D (tM cy) (wM ad cy) A res) (F0 m 240 ls []) := by
  have hx := hC.1
  have hb := hC.2.1
  unfold fX12_sayPrefixed_240 at hf
  refine lv_aload_n hx hb dX12_sayPrefixed_240 rfl (lv_at hl 0 rfl) ?_
  refine lv_iload_n hx hb dX12_sayPrefixed_241 rfl (lv_at hl 1 rfl) ?_
  obtain ⟨σ2, g2, hf⟩ := zbu_use hf
  refine z_callVu (As := [.int x2]) (rest := []) hC hI (cX12_sayPlain_met st l D ad cy σ x2 _ g2) (zgV zw76_0 zw76_1 zw76_2 zw1_5 zw76_3) rfl ⟨rfl, rfl⟩ 1 hdX12_sayPlain ⟨Nat.le_of_ble_eq_true rfl, Nat.le_of_ble_eq_true rfl⟩ rfl rfl (wM_e0 ad cy σ) rfl hl rfl (Nat.le_of_ble_eq_true rfl) dX12_sayPrefixed_242 ⟨Nat.zero_le _, Nat.zero_le _⟩ (fun H locs hI => ?_)
  exact z_return hC hI hf dX12_sayPrefixed_245
set_option maxRecDepth 20000 in
set_option maxHeartbeats 4000000 in
theorem bX12_sayPrefixed_219 {st : Nat → Nat} {p : Program} {l : Launch} {e : Env} {s : State} {m : MethodId} {args : Array Value} {below : List Frame} {meth : Method} {c : Code} {D : va_G} {A : Nat → Prop} {ad : Nat → Nat} {cy : Nat → ClassId} (hC : zC p m c cX12_sayPrefixed 7 s args wzX12_sayPrefixed RX12 meth none)  {res : zSt} {H : Heap} {locs : List Loc} {σ : zSt} {ls : Array Slot} {x2 : Int32} {s0 : Int32} (hI : zI st D (tM cy) (wM ad cy σ) A s H locs) (hl : lv_has ls 7 [(0, .ref (ad 0)), (2, .int x2)]) (hf : fX12_sayPrefixed_219  σ x2 s0 = some res) : W p l e rmX12_sayPrefixed s m args below meth c H locs 0 0 (zQu below args s D (tM cy) (wM ad cy) A res) (F0 m 219 ls [.int s0, .ref (ad 0)]) := by
  have hx := hC.1
  have hb := hC.2.1
  unfold fX12_sayPrefixed_219 at hf
  obtain ⟨q, hf⟩ := zck_use hf
  obtain ⟨σ3, eσ3⟩ : ∃ z, z = zsi σ 0 42 s0 := ⟨_, rfl⟩
  replace hf := zbv_use eσ3 hf
  refine z_put hC hI hinX12_sayPrefixed_X120 tyX12_ok nmX12 0 (wM_e0 ad cy σ) rfl 42 (by decide) (List.mem_cons_of_mem _ zw74_13) rfl (zbo_n q) (zbo_f q) (Nat.le_of_ble_eq_true rfl) ((wM_s0_42 ad cy σ s0).trans (congrArg (wM ad cy) eσ3.symm)) dX12_sayPrefixed_219 (fun H locs hI => ?_)
  refine lv_aload_n hx hb dX12_sayPrefixed_222 rfl (lv_at hl 0 rfl) ?_
  refine z_get hC hI hinX12_sayPrefixed_X120 0 (wM_e0 ad cy σ3) rfl 42 (by decide) (List.mem_cons_of_mem _ zw74_13) rfl dX12_sayPrefixed_223 ?_
  refine lv_if_eq (tgt := 240) hx hb dX12_sayPrefixed_226 (by decide) (fun q => ?_) (fun q => ?_)
  · replace hf := zif_t q hf
    exact bX12_sayPrefixed_240 hC  hI hl hf
  replace hf := zif_f q hf
  refine lv_aload_n hx hb dX12_sayPrefixed_229 rfl (lv_at hl 0 rfl) ?_
  refine lv_aload_n hx hb dX12_sayPrefixed_230 rfl (lv_at hl 0 rfl) ?_
  obtain ⟨σ4, v5, g4, hf⟩ := zbi_use hf
  refine z_callVi (As := []) (rest := [.ref (ad 0)]) hC hI (cX12_taken_met st l D ad cy σ3  _ g4) (zgV zw74_14 zw74_15 zw74_16 zw1_5 zw74_17) rfl ⟨rfl, rfl⟩ 0 hdX12_taken ⟨Nat.le_of_ble_eq_true rfl, Nat.le_of_ble_eq_true rfl⟩ rfl rfl (wM_e0 ad cy σ3) rfl hl rfl (Nat.le_of_ble_eq_true rfl) dX12_sayPrefixed_231 ⟨Nat.zero_le _, Nat.zero_le _⟩ (fun H locs hI => ?_)
  obtain ⟨σ6, v7, g6, hf⟩ := zbi_use hf
  refine z_callSi (As := [.int v5]) (rest := [.ref (ad 0)]) hC hI (cX12_signed_met st l D ad cy σ4 v5 _ g6) (zgS zw50_18 zw50_19 zw1_5 zw50_20) rfl ⟨rfl, rfl⟩ 1 hdX12_signed ⟨Nat.le_of_ble_eq_true rfl, Nat.le_of_ble_eq_true rfl⟩ rfl hl rfl (Nat.le_of_ble_eq_true rfl) dX12_sayPrefixed_234 ⟨Nat.zero_le _, Nat.zero_le _⟩ (fun H locs hI => ?_)
  obtain ⟨σ8, eσ8⟩ : ∃ z, z = zsi σ6 0 43 v7 := ⟨_, rfl⟩
  replace hf := zbv_use eσ8 hf
  refine z_put hC hI hinX12_sayPrefixed_X120 tyX12_ok nmX12 0 (wM_e0 ad cy σ6) rfl 43 (by decide) (List.mem_cons_of_mem _ zw74_22) rfl rfl rfl (Nat.le_of_ble_eq_true rfl) ((wM_s0_43 ad cy σ6 v7).trans (congrArg (wM ad cy) eσ8.symm)) dX12_sayPrefixed_237 (fun H locs hI => ?_)
  exact bX12_sayPrefixed_240 hC  hI hl hf
set_option maxRecDepth 20000 in
set_option maxHeartbeats 4000000 in
theorem bX12_sayPrefixed_218 {st : Nat → Nat} {p : Program} {l : Launch} {e : Env} {s : State} {m : MethodId} {args : Array Value} {below : List Frame} {meth : Method} {c : Code} {D : va_G} {A : Nat → Prop} {ad : Nat → Nat} {cy : Nat → ClassId} (hC : zC p m c cX12_sayPrefixed 7 s args wzX12_sayPrefixed RX12 meth none)  {res : zSt} {H : Heap} {locs : List Loc} {σ : zSt} {ls : Array Slot} {x2 : Int32} (hI : zI st D (tM cy) (wM ad cy σ) A s H locs) (hl : lv_has ls 7 [(0, .ref (ad 0)), (2, .int x2)]) (hf : fX12_sayPrefixed_218  σ x2 = some res) : W p l e rmX12_sayPrefixed s m args below meth c H locs 0 0 (zQu below args s D (tM cy) (wM ad cy) A res) (F0 m 218 ls [.ref (ad 0)]) := by
  have hx := hC.1
  have hb := hC.2.1
  unfold fX12_sayPrefixed_218 at hf
  refine lv_iconst (v := 0) hx hb dX12_sayPrefixed_218 (by decide) ?_
  exact bX12_sayPrefixed_219 hC  hI hl hf
set_option maxRecDepth 20000 in
set_option maxHeartbeats 4000000 in
theorem bX12_sayPrefixed_214 {st : Nat → Nat} {p : Program} {l : Launch} {e : Env} {s : State} {m : MethodId} {args : Array Value} {below : List Frame} {meth : Method} {c : Code} {D : va_G} {A : Nat → Prop} {ad : Nat → Nat} {cy : Nat → ClassId} (hC : zC p m c cX12_sayPrefixed 7 s args wzX12_sayPrefixed RX12 meth none)  {res : zSt} {H : Heap} {locs : List Loc} {σ : zSt} {ls : Array Slot} {x2 : Int32} (hI : zI st D (tM cy) (wM ad cy σ) A s H locs) (hl : lv_has ls 7 [(0, .ref (ad 0)), (2, .int x2)]) (hf : fX12_sayPrefixed_214  σ x2 = some res) : W p l e rmX12_sayPrefixed s m args below meth c H locs 0 0 (zQu below args s D (tM cy) (wM ad cy) A res) (F0 m 214 ls [.ref (ad 0)]) := by
  have hx := hC.1
  have hb := hC.2.1
  unfold fX12_sayPrefixed_214 at hf
  refine lv_iconst (v := 1) hx hb dX12_sayPrefixed_214 (by decide) ?_
  refine lv_goto (tgt := 219) hx hb dX12_sayPrefixed_215 (by decide) ?_
  exact bX12_sayPrefixed_219 hC  hI hl hf
set_option maxRecDepth 20000 in
set_option maxHeartbeats 4000000 in
theorem bX12_sayPrefixed_201 {st : Nat → Nat} {p : Program} {l : Launch} {e : Env} {s : State} {m : MethodId} {args : Array Value} {below : List Frame} {meth : Method} {c : Code} {D : va_G} {A : Nat → Prop} {ad : Nat → Nat} {cy : Nat → ClassId} (hC : zC p m c cX12_sayPrefixed 7 s args wzX12_sayPrefixed RX12 meth none)  {res : zSt} {H : Heap} {locs : List Loc} {σ : zSt} {ls : Array Slot} {x2 : Int32} {x4 : Int32} {x5 : Int32} (hI : zI st D (tM cy) (wM ad cy σ) A s H locs) (hl : lv_has ls 7 [(0, .ref (ad 0)), (2, .int x2), (4, .int x4), (5, .int x5)]) (hf : fX12_sayPrefixed_201  σ x2 x4 x5 = some res) : W p l e rmX12_sayPrefixed s m args below meth c H locs 0 0 (zQu below args s D (tM cy) (wM ad cy) A res) (F0 m 201 ls [.ref (ad 0)]) := by
  have hx := hC.1
  have hb := hC.2.1
  unfold fX12_sayPrefixed_201 at hf
  refine lv_iload hx hb dX12_sayPrefixed_201 (lv_at hl 3 rfl) ?_
  refine lv_iconst (v := 2) hx hb dX12_sayPrefixed_203 (by decide) ?_
  refine lv_icmp_ne (tgt := 218) hx hb dX12_sayPrefixed_204 (by decide) (fun q => ?_) (fun q => ?_)
  · replace hf := zif_f q hf
    exact bX12_sayPrefixed_218 hC  hI (lv_sub hl [0, 1] rfl) hf
  replace hf := zif_t q hf
  refine lv_iload hx hb dX12_sayPrefixed_207 (lv_at hl 2 rfl) ?_
  refine lv_bipush (v := 6) hx hb dX12_sayPrefixed_209 (by decide) ?_
  refine lv_icmp_ne (tgt := 218) hx hb dX12_sayPrefixed_211 (by decide) (fun q => ?_) (fun q => ?_)
  · replace hf := zif_f q hf
    exact bX12_sayPrefixed_218 hC  hI (lv_sub hl [0, 1] rfl) hf
  replace hf := zif_t q hf
  exact bX12_sayPrefixed_214 hC  hI (lv_sub hl [0, 1] rfl) hf
set_option maxRecDepth 20000 in
set_option maxHeartbeats 4000000 in
theorem bX12_sayPrefixed_195 {st : Nat → Nat} {p : Program} {l : Launch} {e : Env} {s : State} {m : MethodId} {args : Array Value} {below : List Frame} {meth : Method} {c : Code} {D : va_G} {A : Nat → Prop} {ad : Nat → Nat} {cy : Nat → ClassId} (hC : zC p m c cX12_sayPrefixed 7 s args wzX12_sayPrefixed RX12 meth none)  {res : zSt} {H : Heap} {locs : List Loc} {σ : zSt} {ls : Array Slot} {x2 : Int32} {x4 : Int32} {x5 : Int32} (hI : zI st D (tM cy) (wM ad cy σ) A s H locs) (hl : lv_has ls 7 [(0, .ref (ad 0)), (2, .int x2), (4, .int x4), (5, .int x5)]) (hf : fX12_sayPrefixed_195  σ x2 x4 x5 = some res) : W p l e rmX12_sayPrefixed s m args below meth c H locs 0 0 (zQu below args s D (tM cy) (wM ad cy) A res) (F0 m 195 ls [.ref (ad 0)]) := by
  have hx := hC.1
  have hb := hC.2.1
  unfold fX12_sayPrefixed_195 at hf
  refine lv_iload_n hx hb dX12_sayPrefixed_195 rfl (lv_at hl 1 rfl) ?_
  refine lv_bipush (v := 118) hx hb dX12_sayPrefixed_196 (by decide) ?_
  refine lv_icmp_ne (tgt := 214) hx hb dX12_sayPrefixed_198 (by decide) (fun q => ?_) (fun q => ?_)
  · replace hf := zif_f q hf
    exact bX12_sayPrefixed_214 hC  hI (lv_sub hl [0, 1] rfl) hf
  replace hf := zif_t q hf
  exact bX12_sayPrefixed_201 hC  hI hl hf
set_option maxRecDepth 20000 in
set_option maxHeartbeats 4000000 in
theorem bX12_sayPrefixed_176 {st : Nat → Nat} {p : Program} {l : Launch} {e : Env} {s : State} {m : MethodId} {args : Array Value} {below : List Frame} {meth : Method} {c : Code} {D : va_G} {A : Nat → Prop} {ad : Nat → Nat} {cy : Nat → ClassId} (hC : zC p m c cX12_sayPrefixed 7 s args wzX12_sayPrefixed RX12 meth none)  {res : zSt} {H : Heap} {locs : List Loc} {σ : zSt} {ls : Array Slot} {x2 : Int32} {x3 : Int32} {x4 : Int32} {x5 : Int32} (hI : zI st D (tM cy) (wM ad cy σ) A s H locs) (hl : lv_has ls 7 [(0, .ref (ad 0)), (2, .int x2), (3, .int x3), (4, .int x4), (5, .int x5)]) (hf : fX12_sayPrefixed_176  σ x2 x3 x4 x5 = some res) : W p l e rmX12_sayPrefixed s m args below meth c H locs 0 0 (zQu below args s D (tM cy) (wM ad cy) A res) (F0 m 176 ls [.ref (ad 0)]) := by
  have hx := hC.1
  have hb := hC.2.1
  unfold fX12_sayPrefixed_176 at hf
  refine lv_iload hx hb dX12_sayPrefixed_176 (lv_at hl 4 rfl) ?_
  refine lv_iconst (v := 1) hx hb dX12_sayPrefixed_178 (by decide) ?_
  refine lv_icmp_ne (tgt := 201) hx hb dX12_sayPrefixed_179 (by decide) (fun q => ?_) (fun q => ?_)
  · replace hf := zif_f q hf
    exact bX12_sayPrefixed_201 hC  hI (lv_sub hl [0, 1, 3, 4] rfl) hf
  replace hf := zif_t q hf
  refine lv_iload_n hx hb dX12_sayPrefixed_182 rfl (lv_at hl 2 rfl) ?_
  refine lv_bipush (v := 6) hx hb dX12_sayPrefixed_183 (by decide) ?_
  refine lv_icmp_eq (tgt := 195) hx hb dX12_sayPrefixed_185 (by decide) (fun q => ?_) (fun q => ?_)
  · replace hf := zif_t q hf
    exact bX12_sayPrefixed_195 hC  hI (lv_sub hl [0, 1, 3, 4] rfl) hf
  replace hf := zif_f q hf
  refine lv_iload hx hb dX12_sayPrefixed_188 (lv_at hl 3 rfl) ?_
  refine lv_bipush (v := 6) hx hb dX12_sayPrefixed_190 (by decide) ?_
  refine lv_icmp_ne (tgt := 201) hx hb dX12_sayPrefixed_192 (by decide) (fun q => ?_) (fun q => ?_)
  · replace hf := zif_f q hf
    exact bX12_sayPrefixed_201 hC  hI (lv_sub hl [0, 1, 3, 4] rfl) hf
  replace hf := zif_t q hf
  exact bX12_sayPrefixed_195 hC  hI (lv_sub hl [0, 1, 3, 4] rfl) hf
set_option maxRecDepth 20000 in
set_option maxHeartbeats 4000000 in
theorem bX12_sayPrefixed {st : Nat → Nat} {p : Program} {l : Launch} {e : Env} {s : State} {m : MethodId} {args : Array Value} {below : List Frame} {meth : Method} {c : Code} {D : va_G} {A : Nat → Prop} {ad : Nat → Nat} {cy : Nat → ClassId} (hC : zC p m c cX12_sayPrefixed 7 s args wzX12_sayPrefixed RX12 meth none)  {res : zSt} {H : Heap} {locs : List Loc} {σ : zSt} {ls : Array Slot} {x1 : Int32} (hI : zI st D (tM cy) (wM ad cy σ) A s H locs) (hl : lv_has ls 7 [(0, .ref (ad 0)), (1, .int x1)]) (hf : fX12_sayPrefixed  σ x1 = some res) : W p l e rmX12_sayPrefixed s m args below meth c H locs 0 0 (zQu below args s D (tM cy) (wM ad cy) A res) (F0 m 0 ls []) := by
  have hx := hC.1
  have hb := hC.2.1
  unfold fX12_sayPrefixed at hf
  refine lv_aload_n hx hb dX12_sayPrefixed_0 rfl (lv_at hl 0 rfl) ?_
  refine lv_aload_n hx hb dX12_sayPrefixed_1 rfl (lv_at hl 0 rfl) ?_
  refine z_get hC hI hinX12_sayPrefixed_X120 0 (wM_e0 ad cy σ) rfl 40 (by decide) (List.mem_cons_of_mem _ zw74_11) rfl dX12_sayPrefixed_2 ?_
  obtain ⟨σ9, v10, g9, hf⟩ := zbi_use hf
  refine z_callVi (As := [.int (zgi σ 0 40)]) (rest := []) hC hI (cX12_read_met st l D ad cy σ (zgi σ 0 40) _ g9) (zgV zw49_8 zw49_9 zw49_10 zw1_5 zw49_11) rfl ⟨rfl, rfl⟩ 1 hdX12_read ⟨Nat.le_of_ble_eq_true rfl, Nat.le_of_ble_eq_true rfl⟩ rfl rfl (wM_e0 ad cy σ) rfl hl rfl (Nat.le_of_ble_eq_true rfl) dX12_sayPrefixed_5 ⟨Nat.zero_le _, Nat.zero_le _⟩ (fun H locs hI => ?_)
  refine lv_istore_n (lv' := [(2, .int v10), (0, .ref (ad 0)), (1, .int x1)]) hx hb dX12_sayPrefixed_8 rfl hl (by decide) rfl (fun ls hl => ?_)
  refine lv_iload_n hx hb dX12_sayPrefixed_9 rfl (lv_at hl 0 rfl) ?_
  refine lv_sipush (v := 221) hx hb dX12_sayPrefixed_10 (by decide) ?_
  refine lv_icmp_eq (tgt := 30) hx hb dX12_sayPrefixed_13 (by decide) (fun q => ?_) (fun q => ?_)
  · replace hf := zif_t q hf
    exact bX12_sayPrefixed_30 hC  hI (lv_sub hl [1] rfl) hf
  replace hf := zif_f q hf
  refine lv_iload_n hx hb dX12_sayPrefixed_16 rfl (lv_at hl 0 rfl) ?_
  refine lv_sipush (v := 237) hx hb dX12_sayPrefixed_17 (by decide) ?_
  refine lv_icmp_eq (tgt := 30) hx hb dX12_sayPrefixed_20 (by decide) (fun q => ?_) (fun q => ?_)
  · replace hf := zif_t q hf
    exact bX12_sayPrefixed_30 hC  hI (lv_sub hl [1] rfl) hf
  replace hf := zif_f q hf
  refine lv_iload_n hx hb dX12_sayPrefixed_23 rfl (lv_at hl 0 rfl) ?_
  refine lv_sipush (v := 253) hx hb dX12_sayPrefixed_24 (by decide) ?_
  refine lv_icmp_ne (tgt := 38) hx hb dX12_sayPrefixed_27 (by decide) (fun q => ?_) (fun q => ?_)
  · replace hf := zif_f q hf
    refine lv_aload_n hx hb dX12_sayPrefixed_38 rfl (lv_at hl 1 rfl) ?_
    refine lv_dup hx hb dX12_sayPrefixed_39 rfl ?_
    refine z_get hC hI hinX12_sayPrefixed_X120 0 (wM_e0 ad cy σ9) rfl 40 (by decide) (List.mem_cons_of_mem _ zw74_11) rfl dX12_sayPrefixed_40 ?_
    refine lv_iconst (v := 1) hx hb dX12_sayPrefixed_43 (by decide) ?_
    refine lv_iadd hx hb dX12_sayPrefixed_44 ?_
    obtain ⟨σ11, eσ11⟩ : ∃ z, z = zsi σ9 0 40 ((zgi σ9 0 40) + 1) := ⟨_, rfl⟩
    replace hf := zbv_use eσ11 hf
    refine z_put hC hI hinX12_sayPrefixed_X120 tyX12_ok nmX12 0 (wM_e0 ad cy σ9) rfl 40 (by decide) (List.mem_cons_of_mem _ zw74_11) rfl rfl rfl (Nat.le_of_ble_eq_true rfl) ((wM_s0_40 ad cy σ9 ((zgi σ9 0 40) + 1)).trans (congrArg (wM ad cy) eσ11.symm)) dX12_sayPrefixed_45 (fun H locs hI => ?_)
    refine lv_aload_n hx hb dX12_sayPrefixed_48 rfl (lv_at hl 1 rfl) ?_
    refine lv_iload_n hx hb dX12_sayPrefixed_49 rfl (lv_at hl 2 rfl) ?_
    obtain ⟨σ12, eσ12⟩ : ∃ z, z = zsi σ11 0 41 x1 := ⟨_, rfl⟩
    replace hf := zbv_use eσ12 hf
    refine z_put hC hI hinX12_sayPrefixed_X120 tyX12_ok nmX12 0 (wM_e0 ad cy σ11) rfl 41 (by decide) (List.mem_cons_of_mem _ zw74_12) rfl rfl rfl (Nat.le_of_ble_eq_true rfl) ((wM_s0_41 ad cy σ11 x1).trans (congrArg (wM ad cy) eσ12.symm)) dX12_sayPrefixed_50 (fun H locs hI => ?_)
    refine lv_iload_n hx hb dX12_sayPrefixed_53 rfl (lv_at hl 0 rfl) ?_
    refine lv_iconst (v := 3) hx hb dX12_sayPrefixed_54 (by decide) ?_
    refine lv_ishr hx hb dX12_sayPrefixed_55 ?_
    refine lv_bipush (v := 7) hx hb dX12_sayPrefixed_56 (by decide) ?_
    refine lv_iand hx hb dX12_sayPrefixed_58 ?_
    refine lv_topi (fun v13 ev13 => ?_)
    replace hf := zbv_use ev13 hf
    refine lv_istore_n (lv' := [(3, .int v13), (2, .int v10), (0, .ref (ad 0)), (1, .int x1)]) hx hb dX12_sayPrefixed_59 rfl hl (by decide) rfl (fun ls hl => ?_)
    refine lv_iload_n hx hb dX12_sayPrefixed_60 rfl (lv_at hl 1 rfl) ?_
    refine lv_bipush (v := 7) hx hb dX12_sayPrefixed_61 (by decide) ?_
    refine lv_iand hx hb dX12_sayPrefixed_63 ?_
    refine lv_topi (fun v14 ev14 => ?_)
    replace hf := zbv_use ev14 hf
    refine lv_istore (lv' := [(4, .int v14), (3, .int v13), (2, .int v10), (0, .ref (ad 0)), (1, .int x1)]) hx hb dX12_sayPrefixed_64 hl (by decide) rfl (fun ls hl => ?_)
    refine lv_iload_n hx hb dX12_sayPrefixed_66 rfl (lv_at hl 2 rfl) ?_
    refine lv_bipush (v := 6) hx hb dX12_sayPrefixed_67 (by decide) ?_
    refine lv_ishr hx hb dX12_sayPrefixed_69 ?_
    refine lv_topi (fun v15 ev15 => ?_)
    replace hf := zbv_use ev15 hf
    refine lv_istore (lv' := [(5, .int v15), (4, .int v14), (3, .int v13), (2, .int v10), (0, .ref (ad 0)), (1, .int x1)]) hx hb dX12_sayPrefixed_70 hl (by decide) rfl (fun ls hl => ?_)
    refine lv_iload_n hx hb dX12_sayPrefixed_72 rfl (lv_at hl 3 rfl) ?_
    refine lv_sipush (v := 203) hx hb dX12_sayPrefixed_73 (by decide) ?_
    refine lv_icmp_ne (tgt := 151) hx hb dX12_sayPrefixed_76 (by decide) (fun q => ?_) (fun q => ?_)
    · replace hf := zif_f q hf
      refine lv_aload_n hx hb dX12_sayPrefixed_151 rfl (lv_at hl 4 rfl) ?_
      refine lv_iload hx hb dX12_sayPrefixed_152 (lv_at hl 0 rfl) ?_
      refine lv_if_ne (tgt := 176) hx hb dX12_sayPrefixed_154 (by decide) (fun q => ?_) (fun q => ?_)
      · replace hf := zif_f q hf
        exact bX12_sayPrefixed_176 hC  hI (lv_sub hl [4, 3, 2, 1, 0] rfl) hf
      replace hf := zif_t q hf
      refine lv_iload hx hb dX12_sayPrefixed_157 (lv_at hl 1 rfl) ?_
      refine lv_iconst (v := 3) hx hb dX12_sayPrefixed_159 (by decide) ?_
      refine lv_icmp_le (tgt := 176) hx hb dX12_sayPrefixed_160 (by decide) (fun q => ?_) (fun q => ?_)
      · replace hf := zif_t q hf
        exact bX12_sayPrefixed_176 hC  hI (lv_sub hl [4, 3, 2, 1, 0] rfl) hf
      replace hf := zif_f q hf
      refine lv_iload hx hb dX12_sayPrefixed_163 (lv_at hl 1 rfl) ?_
      refine lv_bipush (v := 7) hx hb dX12_sayPrefixed_165 (by decide) ?_
      refine lv_icmp_ge (tgt := 176) hx hb dX12_sayPrefixed_167 (by decide) (fun q => ?_) (fun q => ?_)
      · replace hf := zif_t q hf
        exact bX12_sayPrefixed_176 hC  hI (lv_sub hl [4, 3, 2, 1, 0] rfl) hf
      replace hf := zif_f q hf
      refine lv_iload_n hx hb dX12_sayPrefixed_170 rfl (lv_at hl 2 rfl) ?_
      refine lv_bipush (v := 6) hx hb dX12_sayPrefixed_171 (by decide) ?_
      refine lv_icmp_eq (tgt := 214) hx hb dX12_sayPrefixed_173 (by decide) (fun q => ?_) (fun q => ?_)
      · replace hf := zif_t q hf
        exact bX12_sayPrefixed_214 hC  hI (lv_sub hl [4, 3] rfl) hf
      replace hf := zif_f q hf
      exact bX12_sayPrefixed_176 hC  hI (lv_sub hl [4, 3, 2, 1, 0] rfl) hf
    replace hf := zif_t q hf
    refine lv_aload_n hx hb dX12_sayPrefixed_79 rfl (lv_at hl 4 rfl) ?_
    refine lv_aload_n hx hb dX12_sayPrefixed_80 rfl (lv_at hl 4 rfl) ?_
    obtain ⟨σ16, v17, g16, hf⟩ := zbi_use hf
    refine z_callVi (As := []) (rest := [.ref (ad 0)]) hC hI (cX12_taken_met st l D ad cy σ12  _ g16) (zgV zw74_14 zw74_15 zw74_16 zw1_5 zw74_17) rfl ⟨rfl, rfl⟩ 0 hdX12_taken ⟨Nat.le_of_ble_eq_true rfl, Nat.le_of_ble_eq_true rfl⟩ rfl rfl (wM_e0 ad cy σ12) rfl hl rfl (Nat.le_of_ble_eq_true rfl) dX12_sayPrefixed_81 ⟨Nat.zero_le _, Nat.zero_le _⟩ (fun H locs hI => ?_)
    obtain ⟨σ18, v19, g18, hf⟩ := zbi_use hf
    refine z_callSi (As := [.int v17]) (rest := [.ref (ad 0)]) hC hI (cX12_signed_met st l D ad cy σ16 v17 _ g18) (zgS zw50_18 zw50_19 zw1_5 zw50_20) rfl ⟨rfl, rfl⟩ 1 hdX12_signed ⟨Nat.le_of_ble_eq_true rfl, Nat.le_of_ble_eq_true rfl⟩ rfl hl rfl (Nat.le_of_ble_eq_true rfl) dX12_sayPrefixed_84 ⟨Nat.zero_le _, Nat.zero_le _⟩ (fun H locs hI => ?_)
    obtain ⟨σ20, eσ20⟩ : ∃ z, z = zsi σ18 0 43 v19 := ⟨_, rfl⟩
    replace hf := zbv_use eσ20 hf
    refine z_put hC hI hinX12_sayPrefixed_X120 tyX12_ok nmX12 0 (wM_e0 ad cy σ18) rfl 43 (by decide) (List.mem_cons_of_mem _ zw74_22) rfl rfl rfl (Nat.le_of_ble_eq_true rfl) ((wM_s0_43 ad cy σ18 v19).trans (congrArg (wM ad cy) eσ20.symm)) dX12_sayPrefixed_87 (fun H locs hI => ?_)
    refine lv_aload_n hx hb dX12_sayPrefixed_90 rfl (lv_at hl 4 rfl) ?_
    refine lv_iconst (v := 1) hx hb dX12_sayPrefixed_91 (by decide) ?_
    obtain ⟨q, hf⟩ := zck_use hf
    obtain ⟨σ21, eσ21⟩ : ∃ z, z = zsi σ20 0 42 1 := ⟨_, rfl⟩
    replace hf := zbv_use eσ21 hf
    refine z_put hC hI hinX12_sayPrefixed_X120 tyX12_ok nmX12 0 (wM_e0 ad cy σ20) rfl 42 (by decide) (List.mem_cons_of_mem _ zw74_13) rfl (zbo_n q) (zbo_f q) (Nat.le_of_ble_eq_true rfl) ((wM_s0_42 ad cy σ20 1).trans (congrArg (wM ad cy) eσ21.symm)) dX12_sayPrefixed_92 (fun H locs hI => ?_)
    refine lv_aload_n hx hb dX12_sayPrefixed_95 rfl (lv_at hl 4 rfl) ?_
    obtain ⟨σ22, v23, g22, hf⟩ := zbi_use hf
    refine z_callVi (As := []) (rest := []) hC hI (cX12_taken_met st l D ad cy σ21  _ g22) (zgV zw74_14 zw74_15 zw74_16 zw1_5 zw74_17) rfl ⟨rfl, rfl⟩ 0 hdX12_taken ⟨Nat.le_of_ble_eq_true rfl, Nat.le_of_ble_eq_true rfl⟩ rfl rfl (wM_e0 ad cy σ21) rfl hl rfl (Nat.le_of_ble_eq_true rfl) dX12_sayPrefixed_96 ⟨Nat.zero_le _, Nat.zero_le _⟩ (fun H locs hI => ?_)
    refine lv_istore (lv' := [(6, .int v23), (5, .int v15), (4, .int v14), (3, .int v13), (2, .int v10), (0, .ref (ad 0)), (1, .int x1)]) hx hb dX12_sayPrefixed_99 hl (by decide) rfl (fun ls hl => ?_)
    refine lv_aload_n hx hb dX12_sayPrefixed_101 rfl (lv_at hl 5 rfl) ?_
    refine lv_iload hx hb dX12_sayPrefixed_102 (lv_at hl 0 rfl) ?_
    refine lv_sipush (v := 248) hx hb dX12_sayPrefixed_104 (by decide) ?_
    refine lv_iand hx hb dX12_sayPrefixed_107 ?_
    refine lv_bipush (v := 6) hx hb dX12_sayPrefixed_108 (by decide) ?_
    refine lv_ior hx hb dX12_sayPrefixed_110 ?_
    obtain ⟨σ24, g24, hf⟩ := zbu_use hf
    refine z_callVu (As := [.int ((v23 &&& 248) ||| 6)]) (rest := []) hC hI (cX12_sayTurn_met st l D ad cy σ22 ((v23 &&& 248) ||| 6) _ g24) (zgV zw75_4 zw75_5 zw75_6 zw1_5 zw75_7) rfl ⟨rfl, rfl⟩ 1 hdX12_sayTurn ⟨Nat.le_of_ble_eq_true rfl, Nat.le_of_ble_eq_true rfl⟩ rfl rfl (wM_e0 ad cy σ22) rfl hl rfl (Nat.le_of_ble_eq_true rfl) dX12_sayPrefixed_111 ⟨Nat.zero_le _, Nat.zero_le _⟩ (fun H locs hI => ?_)
    refine lv_iload hx hb dX12_sayPrefixed_114 (lv_at hl 0 rfl) ?_
    refine lv_bipush (v := 6) hx hb dX12_sayPrefixed_116 (by decide) ?_
    refine lv_ishr hx hb dX12_sayPrefixed_118 ?_
    refine lv_iconst (v := 1) hx hb dX12_sayPrefixed_119 (by decide) ?_
    refine lv_icmp_eq (tgt := 133) hx hb dX12_sayPrefixed_120 (by decide) (fun q => ?_) (fun q => ?_)
    · replace hf := zif_t q hf
      exact bX12_sayPrefixed_133 hC  hI (lv_sub hl [] rfl) hf
    replace hf := zif_f q hf
    refine lv_iload hx hb dX12_sayPrefixed_123 (lv_at hl 0 rfl) ?_
    refine lv_bipush (v := 8) hx hb dX12_sayPrefixed_125 (by decide) ?_
    obtain ⟨q, hf⟩ := zck_use hf
    refine z_irem hx hb dX12_sayPrefixed_127 (of_decide_eq_true q) ?_
    refine lv_bipush (v := 6) hx hb dX12_sayPrefixed_128 (by decide) ?_
    refine lv_icmp_ne (tgt := 134) hx hb dX12_sayPrefixed_130 (by decide) (fun q => ?_) (fun q => ?_)
    · replace hf := zif_f q hf
      refine lv_aload_n hx hb dX12_sayPrefixed_134 rfl (lv_at hl 5 rfl) ?_
      refine z_ldcSW hC hI 83 (by decide) rfl rfl dX12_sayPrefixed_135 ?_
      obtain ⟨σ25, g25, hf⟩ := zbu_use hf
      refine z_callVu (As := [.ref (st (100 + 83))]) (rest := []) hC hI (cX12_say_met st l D ad cy σ24 83 _ g25) (zgV zw74_23 zw75_0 zw75_1 zw1_5 zw75_2) rfl ⟨rfl, rfl⟩ 1 hdX12_say ⟨Nat.le_of_ble_eq_true rfl, Nat.le_of_ble_eq_true rfl⟩ rfl rfl (wM_e0 ad cy σ24) rfl hl rfl (Nat.le_of_ble_eq_true rfl) dX12_sayPrefixed_138 ⟨Nat.zero_le _, Nat.zero_le _⟩ (fun H locs hI => ?_)
      refine lv_aload_n hx hb dX12_sayPrefixed_141 rfl (lv_at hl 5 rfl) ?_
      refine lv_iload hx hb dX12_sayPrefixed_142 (lv_at hl 0 rfl) ?_
      refine lv_bipush (v := 8) hx hb dX12_sayPrefixed_144 (by decide) ?_
      obtain ⟨q, hf⟩ := zck_use hf
      refine z_irem hx hb dX12_sayPrefixed_146 (of_decide_eq_true q) ?_
      obtain ⟨σ26, g26, hf⟩ := zbu_use hf
      refine z_callVu (As := [.int (zrem v23 8)]) (rest := []) hC hI (cX12_sayR_met st l D ad cy σ25 (zrem v23 8) _ g26) (zgV zw75_12 zw75_13 zw75_14 zw1_5 zw75_15) rfl ⟨rfl, rfl⟩ 1 hdX12_sayR ⟨Nat.le_of_ble_eq_true rfl, Nat.le_of_ble_eq_true rfl⟩ rfl rfl (wM_e0 ad cy σ25) rfl hl rfl (Nat.le_of_ble_eq_true rfl) dX12_sayPrefixed_147 ⟨Nat.zero_le _, Nat.zero_le _⟩ (fun H locs hI => ?_)
      exact z_return hC hI hf dX12_sayPrefixed_150
    replace hf := zif_t q hf
    exact bX12_sayPrefixed_133 hC  hI (lv_sub hl [] rfl) hf
  replace hf := zif_t q hf
  exact bX12_sayPrefixed_30 hC  hI (lv_sub hl [1] rfl) hf
set_option maxRecDepth 20000 in
theorem cX12_sayPrefixed_met (st : Nat → Nat) (l : Launch) (D : va_G) (ad : Nat → Nat) (cy : Nat → ClassId) (σ : zSt) (x1 : Int32) (res : zSt) (hf : fX12_sayPrefixed σ x1 = some res) (sz : Nat) : zMu st l yX12_sayPrefixed wzX12_sayPrefixed rmX12_sayPrefixed [.ref (ad 0), .int x1] D (tM cy) (wM ad cy) sz σ res :=
  zMu.of (cc := cX12_sayPrefixed) (maxL := 7) (ret := none) (by decide) rfl (Nat.le_of_ble_eq_true rfl) (fun p e s m args below meth c hC A hI ls hl => bX12_sayPrefixed hC hI hl hf)
theorem hdX12_sayPrefixed : yX12_sayPrefixed.cls = RX12 ∧ yX12_sayPrefixed.cls ≠ "java/lang/invoke/MethodHandle" ∧ yX12_sayPrefixed.cls ≠ "java/lang/invoke/VarHandle" ∧ (parseMethodDescriptor yX12_sayPrefixed.desc).map (fun d => d.parameters.length) = some 1 := by decide +kernel
def rmX12_sayOdd : Room := { frames := 5, cells := 0, slots := 0, locals := 139 }
def wzX12_sayOdd : List Cond := .code yX12_sayOdd cX12_sayOdd 3 none :: wsL_law
def fX12_sayOdd_155  (σ : zSt)  : Option (zSt) :=
  some σ
def fX12_sayOdd_35  (σ : zSt) (s0 : Nat) : Option (zSt) :=
  zbu (fX12_say σ s0) (fun σ1 =>
  fX12_sayOdd_155 σ1)
def fX12_sayOdd_77  (σ : zSt) (s0 : Nat) : Option (zSt) :=
  zbu (fX12_say σ s0) (fun σ2 =>
  fX12_sayOdd_155 σ2)
def fX12_sayOdd_152  (σ : zSt) (s0 : Nat) : Option (zSt) :=
  zbu (fX12_say σ s0) (fun σ3 =>
  fX12_sayOdd_155 σ3)
def fX12_sayOdd  (σ : zSt) (x1 : Int32) (x2 : Int32) : Option (zSt) :=
  if x2 = 4 then zbu (fX12_say σ 167) (fun σ4 =>
  fX12_sayOdd_155 σ4) else
  if x2 = 5 then if x1 = 1 then fX12_sayOdd_35 σ 168 else
  fX12_sayOdd_35 σ 169 else
  if x2 = 6 then zck (decide (¬ 4 = 0)) (
  if 2 ≤ (zrem x1 4) then zck (decide (¬ 4 = 0)) (
  if (zrem x1 4) = 2 then fX12_sayOdd_77 σ 171 else
  fX12_sayOdd_77 σ 172) else
  fX12_sayOdd_77 σ 170) else
  if x1 = 0 then fX12_sayOdd_152 σ 173 else
  if x1 = 1 then fX12_sayOdd_152 σ 174 else
  if x1 = 2 then fX12_sayOdd_152 σ 175 else
  if x1 = 3 then fX12_sayOdd_152 σ 176 else
  if x1 = 4 then fX12_sayOdd_152 σ 177 else
  if x1 = 5 then fX12_sayOdd_152 σ 178 else
  fX12_sayOdd_152 σ 71
set_option maxRecDepth 20000 in
set_option maxHeartbeats 4000000 in
theorem bX12_sayOdd_155 {st : Nat → Nat} {p : Program} {l : Launch} {e : Env} {s : State} {m : MethodId} {args : Array Value} {below : List Frame} {meth : Method} {c : Code} {D : va_G} {A : Nat → Prop} {ad : Nat → Nat} {cy : Nat → ClassId} (hC : zC p m c cX12_sayOdd 3 s args wzX12_sayOdd RX12 meth none)  {res : zSt} {H : Heap} {locs : List Loc} {σ : zSt} {ls : Array Slot}  (hI : zI st D (tM cy) (wM ad cy σ) A s H locs) (hl : lv_has ls 3 []) (hf : fX12_sayOdd_155  σ  = some res) : W p l e rmX12_sayOdd s m args below meth c H locs 0 0 (zQu below args s D (tM cy) (wM ad cy) A res) (F0 m 155 ls []) := by
  have hx := hC.1
  have hb := hC.2.1
  unfold fX12_sayOdd_155 at hf
  exact z_return hC hI hf dX12_sayOdd_155
set_option maxRecDepth 20000 in
set_option maxHeartbeats 4000000 in
theorem bX12_sayOdd_35 {st : Nat → Nat} {p : Program} {l : Launch} {e : Env} {s : State} {m : MethodId} {args : Array Value} {below : List Frame} {meth : Method} {c : Code} {D : va_G} {A : Nat → Prop} {ad : Nat → Nat} {cy : Nat → ClassId} (hC : zC p m c cX12_sayOdd 3 s args wzX12_sayOdd RX12 meth none)  {res : zSt} {H : Heap} {locs : List Loc} {σ : zSt} {ls : Array Slot} {s0 : Nat} (hI : zI st D (tM cy) (wM ad cy σ) A s H locs) (hl : lv_has ls 3 []) (hf : fX12_sayOdd_35  σ s0 = some res) : W p l e rmX12_sayOdd s m args below meth c H locs 0 0 (zQu below args s D (tM cy) (wM ad cy) A res) (F0 m 35 ls [.ref (st (100 + s0)), .ref (ad 0)]) := by
  have hx := hC.1
  have hb := hC.2.1
  unfold fX12_sayOdd_35 at hf
  obtain ⟨σ1, g1, hf⟩ := zbu_use hf
  refine z_callVu (As := [.ref (st (100 + s0))]) (rest := []) hC hI (cX12_say_met st l D ad cy σ s0 _ g1) (zgV zw74_23 zw75_0 zw75_1 zw1_5 zw75_2) rfl ⟨rfl, rfl⟩ 1 hdX12_say ⟨Nat.le_of_ble_eq_true rfl, Nat.le_of_ble_eq_true rfl⟩ rfl rfl (wM_e0 ad cy σ) rfl hl rfl (Nat.le_of_ble_eq_true rfl) dX12_sayOdd_35 ⟨Nat.zero_le _, Nat.zero_le _⟩ (fun H locs hI => ?_)
  refine lv_goto (tgt := 155) hx hb dX12_sayOdd_38 (by decide) ?_
  exact bX12_sayOdd_155 hC  hI hl hf
set_option maxRecDepth 20000 in
set_option maxHeartbeats 4000000 in
theorem bX12_sayOdd_77 {st : Nat → Nat} {p : Program} {l : Launch} {e : Env} {s : State} {m : MethodId} {args : Array Value} {below : List Frame} {meth : Method} {c : Code} {D : va_G} {A : Nat → Prop} {ad : Nat → Nat} {cy : Nat → ClassId} (hC : zC p m c cX12_sayOdd 3 s args wzX12_sayOdd RX12 meth none)  {res : zSt} {H : Heap} {locs : List Loc} {σ : zSt} {ls : Array Slot} {s0 : Nat} (hI : zI st D (tM cy) (wM ad cy σ) A s H locs) (hl : lv_has ls 3 []) (hf : fX12_sayOdd_77  σ s0 = some res) : W p l e rmX12_sayOdd s m args below meth c H locs 0 0 (zQu below args s D (tM cy) (wM ad cy) A res) (F0 m 77 ls [.ref (st (100 + s0)), .ref (ad 0)]) := by
  have hx := hC.1
  have hb := hC.2.1
  unfold fX12_sayOdd_77 at hf
  obtain ⟨σ2, g2, hf⟩ := zbu_use hf
  refine z_callVu (As := [.ref (st (100 + s0))]) (rest := []) hC hI (cX12_say_met st l D ad cy σ s0 _ g2) (zgV zw74_23 zw75_0 zw75_1 zw1_5 zw75_2) rfl ⟨rfl, rfl⟩ 1 hdX12_say ⟨Nat.le_of_ble_eq_true rfl, Nat.le_of_ble_eq_true rfl⟩ rfl rfl (wM_e0 ad cy σ) rfl hl rfl (Nat.le_of_ble_eq_true rfl) dX12_sayOdd_77 ⟨Nat.zero_le _, Nat.zero_le _⟩ (fun H locs hI => ?_)
  refine lv_goto (tgt := 155) hx hb dX12_sayOdd_80 (by decide) ?_
  exact bX12_sayOdd_155 hC  hI hl hf
set_option maxRecDepth 20000 in
set_option maxHeartbeats 4000000 in
theorem bX12_sayOdd_152 {st : Nat → Nat} {p : Program} {l : Launch} {e : Env} {s : State} {m : MethodId} {args : Array Value} {below : List Frame} {meth : Method} {c : Code} {D : va_G} {A : Nat → Prop} {ad : Nat → Nat} {cy : Nat → ClassId} (hC : zC p m c cX12_sayOdd 3 s args wzX12_sayOdd RX12 meth none)  {res : zSt} {H : Heap} {locs : List Loc} {σ : zSt} {ls : Array Slot} {s0 : Nat} (hI : zI st D (tM cy) (wM ad cy σ) A s H locs) (hl : lv_has ls 3 []) (hf : fX12_sayOdd_152  σ s0 = some res) : W p l e rmX12_sayOdd s m args below meth c H locs 0 0 (zQu below args s D (tM cy) (wM ad cy) A res) (F0 m 152 ls [.ref (st (100 + s0)), .ref (ad 0)]) := by
  have hx := hC.1
  have hb := hC.2.1
  unfold fX12_sayOdd_152 at hf
  obtain ⟨σ3, g3, hf⟩ := zbu_use hf
  refine z_callVu (As := [.ref (st (100 + s0))]) (rest := []) hC hI (cX12_say_met st l D ad cy σ s0 _ g3) (zgV zw74_23 zw75_0 zw75_1 zw1_5 zw75_2) rfl ⟨rfl, rfl⟩ 1 hdX12_say ⟨Nat.le_of_ble_eq_true rfl, Nat.le_of_ble_eq_true rfl⟩ rfl rfl (wM_e0 ad cy σ) rfl hl rfl (Nat.le_of_ble_eq_true rfl) dX12_sayOdd_152 ⟨Nat.zero_le _, Nat.zero_le _⟩ (fun H locs hI => ?_)
  exact bX12_sayOdd_155 hC  hI hl hf
set_option maxRecDepth 20000 in
set_option maxHeartbeats 4000000 in
theorem bX12_sayOdd {st : Nat → Nat} {p : Program} {l : Launch} {e : Env} {s : State} {m : MethodId} {args : Array Value} {below : List Frame} {meth : Method} {c : Code} {D : va_G} {A : Nat → Prop} {ad : Nat → Nat} {cy : Nat → ClassId} (hC : zC p m c cX12_sayOdd 3 s args wzX12_sayOdd RX12 meth none)  {res : zSt} {H : Heap} {locs : List Loc} {σ : zSt} {ls : Array Slot} {x1 : Int32} {x2 : Int32} (hI : zI st D (tM cy) (wM ad cy σ) A s H locs) (hl : lv_has ls 3 [(0, .ref (ad 0)), (1, .int x1), (2, .int x2)]) (hf : fX12_sayOdd  σ x1 x2 = some res) : W p l e rmX12_sayOdd s m args below meth c H locs 0 0 (zQu below args s D (tM cy) (wM ad cy) A res) (F0 m 0 ls []) := by
  have hx := hC.1
  have hb := hC.2.1
  unfold fX12_sayOdd at hf
  refine lv_iload_n hx hb dX12_sayOdd_0 rfl (lv_at hl 2 rfl) ?_
  refine lv_iconst (v := 4) hx hb dX12_sayOdd_1 (by decide) ?_
  refine lv_icmp_ne (tgt := 15) hx hb dX12_sayOdd_2 (by decide) (fun q => ?_) (fun q => ?_)
  · replace hf := zif_f q hf
    refine lv_iload_n hx hb dX12_sayOdd_15 rfl (lv_at hl 2 rfl) ?_
    refine lv_iconst (v := 5) hx hb dX12_sayOdd_16 (by decide) ?_
    refine lv_icmp_ne (tgt := 41) hx hb dX12_sayOdd_17 (by decide) (fun q => ?_) (fun q => ?_)
    · replace hf := zif_f q hf
      refine lv_iload_n hx hb dX12_sayOdd_41 rfl (lv_at hl 2 rfl) ?_
      refine lv_bipush (v := 6) hx hb dX12_sayOdd_42 (by decide) ?_
      refine lv_icmp_ne (tgt := 83) hx hb dX12_sayOdd_44 (by decide) (fun q => ?_) (fun q => ?_)
      · replace hf := zif_f q hf
        refine lv_aload_n hx hb dX12_sayOdd_83 rfl (lv_at hl 0 rfl) ?_
        refine lv_iload_n hx hb dX12_sayOdd_84 rfl (lv_at hl 1 rfl) ?_
        refine lv_if_ne (tgt := 94) hx hb dX12_sayOdd_85 (by decide) (fun q => ?_) (fun q => ?_)
        · replace hf := zif_f q hf
          refine lv_iload_n hx hb dX12_sayOdd_94 rfl (lv_at hl 1 rfl) ?_
          refine lv_iconst (v := 1) hx hb dX12_sayOdd_95 (by decide) ?_
          refine lv_icmp_ne (tgt := 105) hx hb dX12_sayOdd_96 (by decide) (fun q => ?_) (fun q => ?_)
          · replace hf := zif_f q hf
            refine lv_iload_n hx hb dX12_sayOdd_105 rfl (lv_at hl 1 rfl) ?_
            refine lv_iconst (v := 2) hx hb dX12_sayOdd_106 (by decide) ?_
            refine lv_icmp_ne (tgt := 116) hx hb dX12_sayOdd_107 (by decide) (fun q => ?_) (fun q => ?_)
            · replace hf := zif_f q hf
              refine lv_iload_n hx hb dX12_sayOdd_116 rfl (lv_at hl 1 rfl) ?_
              refine lv_iconst (v := 3) hx hb dX12_sayOdd_117 (by decide) ?_
              refine lv_icmp_ne (tgt := 127) hx hb dX12_sayOdd_118 (by decide) (fun q => ?_) (fun q => ?_)
              · replace hf := zif_f q hf
                refine lv_iload_n hx hb dX12_sayOdd_127 rfl (lv_at hl 1 rfl) ?_
                refine lv_iconst (v := 4) hx hb dX12_sayOdd_128 (by decide) ?_
                refine lv_icmp_ne (tgt := 138) hx hb dX12_sayOdd_129 (by decide) (fun q => ?_) (fun q => ?_)
                · replace hf := zif_f q hf
                  refine lv_iload_n hx hb dX12_sayOdd_138 rfl (lv_at hl 1 rfl) ?_
                  refine lv_iconst (v := 5) hx hb dX12_sayOdd_139 (by decide) ?_
                  refine lv_icmp_ne (tgt := 149) hx hb dX12_sayOdd_140 (by decide) (fun q => ?_) (fun q => ?_)
                  · replace hf := zif_f q hf
                    refine z_ldcSW hC hI 71 (by decide) rfl rfl dX12_sayOdd_149 ?_
                    exact bX12_sayOdd_152 hC  hI (lv_sub hl [] rfl) hf
                  replace hf := zif_t q hf
                  refine z_ldcSW hC hI 178 (by decide) rfl rfl dX12_sayOdd_143 ?_
                  refine lv_goto (tgt := 152) hx hb dX12_sayOdd_146 (by decide) ?_
                  exact bX12_sayOdd_152 hC  hI (lv_sub hl [] rfl) hf
                replace hf := zif_t q hf
                refine z_ldcSW hC hI 177 (by decide) rfl rfl dX12_sayOdd_132 ?_
                refine lv_goto (tgt := 152) hx hb dX12_sayOdd_135 (by decide) ?_
                exact bX12_sayOdd_152 hC  hI (lv_sub hl [] rfl) hf
              replace hf := zif_t q hf
              refine z_ldcSW hC hI 176 (by decide) rfl rfl dX12_sayOdd_121 ?_
              refine lv_goto (tgt := 152) hx hb dX12_sayOdd_124 (by decide) ?_
              exact bX12_sayOdd_152 hC  hI (lv_sub hl [] rfl) hf
            replace hf := zif_t q hf
            refine z_ldcSW hC hI 175 (by decide) rfl rfl dX12_sayOdd_110 ?_
            refine lv_goto (tgt := 152) hx hb dX12_sayOdd_113 (by decide) ?_
            exact bX12_sayOdd_152 hC  hI (lv_sub hl [] rfl) hf
          replace hf := zif_t q hf
          refine z_ldcSW hC hI 174 (by decide) rfl rfl dX12_sayOdd_99 ?_
          refine lv_goto (tgt := 152) hx hb dX12_sayOdd_102 (by decide) ?_
          exact bX12_sayOdd_152 hC  hI (lv_sub hl [] rfl) hf
        replace hf := zif_t q hf
        refine z_ldcSW hC hI 173 (by decide) rfl rfl dX12_sayOdd_88 ?_
        refine lv_goto (tgt := 152) hx hb dX12_sayOdd_91 (by decide) ?_
        exact bX12_sayOdd_152 hC  hI (lv_sub hl [] rfl) hf
      replace hf := zif_t q hf
      refine lv_aload_n hx hb dX12_sayOdd_47 rfl (lv_at hl 0 rfl) ?_
      refine lv_iload_n hx hb dX12_sayOdd_48 rfl (lv_at hl 1 rfl) ?_
      refine lv_iconst (v := 4) hx hb dX12_sayOdd_49 (by decide) ?_
      obtain ⟨q, hf⟩ := zck_use hf
      refine z_irem hx hb dX12_sayOdd_50 (of_decide_eq_true q) ?_
      refine lv_iconst (v := 2) hx hb dX12_sayOdd_51 (by decide) ?_
      refine lv_icmp_ge (tgt := 61) hx hb dX12_sayOdd_52 (by decide) (fun q => ?_) (fun q => ?_)
      · replace hf := zif_t q hf
        refine lv_iload_n hx hb dX12_sayOdd_61 rfl (lv_at hl 1 rfl) ?_
        refine lv_iconst (v := 4) hx hb dX12_sayOdd_62 (by decide) ?_
        obtain ⟨q, hf⟩ := zck_use hf
        refine z_irem hx hb dX12_sayOdd_63 (of_decide_eq_true q) ?_
        refine lv_iconst (v := 2) hx hb dX12_sayOdd_64 (by decide) ?_
        refine lv_icmp_ne (tgt := 74) hx hb dX12_sayOdd_65 (by decide) (fun q => ?_) (fun q => ?_)
        · replace hf := zif_f q hf
          refine z_ldcSW hC hI 172 (by decide) rfl rfl dX12_sayOdd_74 ?_
          exact bX12_sayOdd_77 hC  hI (lv_sub hl [] rfl) hf
        replace hf := zif_t q hf
        refine z_ldcSW hC hI 171 (by decide) rfl rfl dX12_sayOdd_68 ?_
        refine lv_goto (tgt := 77) hx hb dX12_sayOdd_71 (by decide) ?_
        exact bX12_sayOdd_77 hC  hI (lv_sub hl [] rfl) hf
      replace hf := zif_f q hf
      refine z_ldcSW hC hI 170 (by decide) rfl rfl dX12_sayOdd_55 ?_
      refine lv_goto (tgt := 77) hx hb dX12_sayOdd_58 (by decide) ?_
      exact bX12_sayOdd_77 hC  hI (lv_sub hl [] rfl) hf
    replace hf := zif_t q hf
    refine lv_aload_n hx hb dX12_sayOdd_20 rfl (lv_at hl 0 rfl) ?_
    refine lv_iload_n hx hb dX12_sayOdd_21 rfl (lv_at hl 1 rfl) ?_
    refine lv_iconst (v := 1) hx hb dX12_sayOdd_22 (by decide) ?_
    refine lv_icmp_ne (tgt := 32) hx hb dX12_sayOdd_23 (by decide) (fun q => ?_) (fun q => ?_)
    · replace hf := zif_f q hf
      refine z_ldcSW hC hI 169 (by decide) rfl rfl dX12_sayOdd_32 ?_
      exact bX12_sayOdd_35 hC  hI (lv_sub hl [] rfl) hf
    replace hf := zif_t q hf
    refine z_ldcSW hC hI 168 (by decide) rfl rfl dX12_sayOdd_26 ?_
    refine lv_goto (tgt := 35) hx hb dX12_sayOdd_29 (by decide) ?_
    exact bX12_sayOdd_35 hC  hI (lv_sub hl [] rfl) hf
  replace hf := zif_t q hf
  refine lv_aload_n hx hb dX12_sayOdd_5 rfl (lv_at hl 0 rfl) ?_
  refine z_ldcSW hC hI 167 (by decide) rfl rfl dX12_sayOdd_6 ?_
  obtain ⟨σ4, g4, hf⟩ := zbu_use hf
  refine z_callVu (As := [.ref (st (100 + 167))]) (rest := []) hC hI (cX12_say_met st l D ad cy σ 167 _ g4) (zgV zw74_23 zw75_0 zw75_1 zw1_5 zw75_2) rfl ⟨rfl, rfl⟩ 1 hdX12_say ⟨Nat.le_of_ble_eq_true rfl, Nat.le_of_ble_eq_true rfl⟩ rfl rfl (wM_e0 ad cy σ) rfl hl rfl (Nat.le_of_ble_eq_true rfl) dX12_sayOdd_9 ⟨Nat.zero_le _, Nat.zero_le _⟩ (fun H locs hI => ?_)
  refine lv_goto (tgt := 155) hx hb dX12_sayOdd_12 (by decide) ?_
  exact bX12_sayOdd_155 hC  hI (lv_sub hl [] rfl) hf
set_option maxRecDepth 20000 in
theorem cX12_sayOdd_met (st : Nat → Nat) (l : Launch) (D : va_G) (ad : Nat → Nat) (cy : Nat → ClassId) (σ : zSt) (x1 : Int32) (x2 : Int32) (res : zSt) (hf : fX12_sayOdd σ x1 x2 = some res) (sz : Nat) : zMu st l yX12_sayOdd wzX12_sayOdd rmX12_sayOdd [.ref (ad 0), .int x1, .int x2] D (tM cy) (wM ad cy) sz σ res :=
  zMu.of (cc := cX12_sayOdd) (maxL := 3) (ret := none) (by decide) rfl (Nat.le_of_ble_eq_true rfl) (fun p e s m args below meth c hC A hI ls hl => bX12_sayOdd hC hI hl hf)
theorem hdX12_sayOdd : yX12_sayOdd.cls = RX12 ∧ yX12_sayOdd.cls ≠ "java/lang/invoke/MethodHandle" ∧ yX12_sayOdd.cls ≠ "java/lang/invoke/VarHandle" ∧ (parseMethodDescriptor yX12_sayOdd.desc).map (fun d => d.parameters.length) = some 2 := by decide +kernel
