def kn_cX12_tell : Nat := 0xac641c2102b42a8c02b61d2a0800a78902b62402b62a2a0e00a0ed00111d1a00a78602b62402b62a2a0e00a0cb00111d2c00a78302b6050400a7040700a0dd00111d2a1600a0fd00111d0a009fdd00111d3e2402b62a3d2102b42a3302b5032a2702b5032a2102b57e8f121b2aca01b5032a6900b5032a
theorem zk_cX12_tell : zkd cX12_tell.data.toList kn_cX12_tell = true := by decide +kernel
theorem zn_cX12_tell : cX12_tell.data.toList.length = 119 := by decide +kernel
theorem dX12_tell_0 : decode cX12_tell 0 = .ok (.aload_n 0, 1) := zo_42 (zkb zk_cX12_tell zn_cX12_tell (by decide +kernel))
theorem dX12_tell_1 : decode cX12_tell 1 = .ok (.iconst 0, 1) := zo_3 (zkb zk_cX12_tell zn_cX12_tell (by decide +kernel))
theorem dX12_tell_2 : decode cX12_tell 2 = .ok (.putfield 105, 3) := zo_181 (b1 := 0) (b2 := 105) (zkb3 zk_cX12_tell zn_cX12_tell (by decide +kernel)) rfl
theorem dX12_tell_5 : decode cX12_tell 5 = .ok (.aload_n 0, 1) := zo_42 (zkb zk_cX12_tell zn_cX12_tell (by decide +kernel))
theorem dX12_tell_6 : decode cX12_tell 6 = .ok (.iconst 0, 1) := zo_3 (zkb zk_cX12_tell zn_cX12_tell (by decide +kernel))
theorem dX12_tell_7 : decode cX12_tell 7 = .ok (.putfield 458, 3) := zo_181 (b1 := 1) (b2 := 202) (zkb3 zk_cX12_tell zn_cX12_tell (by decide +kernel)) rfl
theorem dX12_tell_10 : decode cX12_tell 10 = .ok (.aload_n 0, 1) := zo_42 (zkb zk_cX12_tell zn_cX12_tell (by decide +kernel))
theorem dX12_tell_11 : decode cX12_tell 11 = .ok (.iload_n 1, 1) := zo_27 (zkb zk_cX12_tell zn_cX12_tell (by decide +kernel))
theorem dX12_tell_12 : decode cX12_tell 12 = .ok (.ldc 143, 2) := zo_18 (b1 := 143) (zkb2 zk_cX12_tell zn_cX12_tell (by decide +kernel))
theorem dX12_tell_14 : decode cX12_tell 14 = .ok (.iand, 1) := zo_126 (zkb zk_cX12_tell zn_cX12_tell (by decide +kernel))
theorem dX12_tell_15 : decode cX12_tell 15 = .ok (.putfield 545, 3) := zo_181 (b1 := 2) (b2 := 33) (zkb3 zk_cX12_tell zn_cX12_tell (by decide +kernel)) rfl
theorem dX12_tell_18 : decode cX12_tell 18 = .ok (.aload_n 0, 1) := zo_42 (zkb zk_cX12_tell zn_cX12_tell (by decide +kernel))
theorem dX12_tell_19 : decode cX12_tell 19 = .ok (.iconst 0, 1) := zo_3 (zkb zk_cX12_tell zn_cX12_tell (by decide +kernel))
theorem dX12_tell_20 : decode cX12_tell 20 = .ok (.putfield 551, 3) := zo_181 (b1 := 2) (b2 := 39) (zkb3 zk_cX12_tell zn_cX12_tell (by decide +kernel)) rfl
theorem dX12_tell_23 : decode cX12_tell 23 = .ok (.aload_n 0, 1) := zo_42 (zkb zk_cX12_tell zn_cX12_tell (by decide +kernel))
theorem dX12_tell_24 : decode cX12_tell 24 = .ok (.iconst 0, 1) := zo_3 (zkb zk_cX12_tell zn_cX12_tell (by decide +kernel))
theorem dX12_tell_25 : decode cX12_tell 25 = .ok (.putfield 563, 3) := zo_181 (b1 := 2) (b2 := 51) (zkb3 zk_cX12_tell zn_cX12_tell (by decide +kernel)) rfl
theorem dX12_tell_28 : decode cX12_tell 28 = .ok (.aload_n 0, 1) := zo_42 (zkb zk_cX12_tell zn_cX12_tell (by decide +kernel))
theorem dX12_tell_29 : decode cX12_tell 29 = .ok (.getfield 545, 3) := zo_180 (b1 := 2) (b2 := 33) (zkb3 zk_cX12_tell zn_cX12_tell (by decide +kernel)) rfl
theorem dX12_tell_32 : decode cX12_tell 32 = .ok (.istore_n 2, 1) := zo_61 (zkb zk_cX12_tell zn_cX12_tell (by decide +kernel))
theorem dX12_tell_33 : decode cX12_tell 33 = .ok (.aload_n 0, 1) := zo_42 (zkb zk_cX12_tell zn_cX12_tell (by decide +kernel))
theorem dX12_tell_34 : decode cX12_tell 34 = .ok (.invokevirtual 548, 3) := zo_182 (b1 := 2) (b2 := 36) (zkb3 zk_cX12_tell zn_cX12_tell (by decide +kernel)) rfl
theorem dX12_tell_37 : decode cX12_tell 37 = .ok (.istore_n 3, 1) := zo_62 (zkb zk_cX12_tell zn_cX12_tell (by decide +kernel))
theorem dX12_tell_38 : decode cX12_tell 38 = .ok (.iload_n 3, 1) := zo_29 (zkb zk_cX12_tell zn_cX12_tell (by decide +kernel))
theorem dX12_tell_39 : decode cX12_tell 39 = .ok (.sipush 221, 3) := zo_17 (b1 := 0) (b2 := 221) (zkb3 zk_cX12_tell zn_cX12_tell (by decide +kernel)) rfl
theorem dX12_tell_42 : decode cX12_tell 42 = .ok (.if_icmp .eq 10, 3) := zo_159 (b1 := 0) (b2 := 10) (zkb3 zk_cX12_tell zn_cX12_tell (by decide +kernel)) rfl
theorem dX12_tell_45 : decode cX12_tell 45 = .ok (.iload_n 3, 1) := zo_29 (zkb zk_cX12_tell zn_cX12_tell (by decide +kernel))
theorem dX12_tell_46 : decode cX12_tell 46 = .ok (.sipush 253, 3) := zo_17 (b1 := 0) (b2 := 253) (zkb3 zk_cX12_tell zn_cX12_tell (by decide +kernel)) rfl
theorem dX12_tell_49 : decode cX12_tell 49 = .ok (.if_icmp .ne 22, 3) := zo_160 (b1 := 0) (b2 := 22) (zkb3 zk_cX12_tell zn_cX12_tell (by decide +kernel)) rfl
theorem dX12_tell_52 : decode cX12_tell 52 = .ok (.aload_n 0, 1) := zo_42 (zkb zk_cX12_tell zn_cX12_tell (by decide +kernel))
theorem dX12_tell_53 : decode cX12_tell 53 = .ok (.iload_n 3, 1) := zo_29 (zkb zk_cX12_tell zn_cX12_tell (by decide +kernel))
theorem dX12_tell_54 : decode cX12_tell 54 = .ok (.sipush 221, 3) := zo_17 (b1 := 0) (b2 := 221) (zkb3 zk_cX12_tell zn_cX12_tell (by decide +kernel)) rfl
theorem dX12_tell_57 : decode cX12_tell 57 = .ok (.if_icmp .ne 7, 3) := zo_160 (b1 := 0) (b2 := 7) (zkb3 zk_cX12_tell zn_cX12_tell (by decide +kernel)) rfl
theorem dX12_tell_60 : decode cX12_tell 60 = .ok (.iconst 1, 1) := zo_4 (zkb zk_cX12_tell zn_cX12_tell (by decide +kernel))
theorem dX12_tell_61 : decode cX12_tell 61 = .ok (.goto 4, 3) := zo_167 (b1 := 0) (b2 := 4) (zkb3 zk_cX12_tell zn_cX12_tell (by decide +kernel)) rfl
theorem dX12_tell_64 : decode cX12_tell 64 = .ok (.iconst 2, 1) := zo_5 (zkb zk_cX12_tell zn_cX12_tell (by decide +kernel))
theorem dX12_tell_65 : decode cX12_tell 65 = .ok (.invokevirtual 643, 3) := zo_182 (b1 := 2) (b2 := 131) (zkb3 zk_cX12_tell zn_cX12_tell (by decide +kernel)) rfl
theorem dX12_tell_68 : decode cX12_tell 68 = .ok (.goto 44, 3) := zo_167 (b1 := 0) (b2 := 44) (zkb3 zk_cX12_tell zn_cX12_tell (by decide +kernel)) rfl
theorem dX12_tell_71 : decode cX12_tell 71 = .ok (.iload_n 3, 1) := zo_29 (zkb zk_cX12_tell zn_cX12_tell (by decide +kernel))
theorem dX12_tell_72 : decode cX12_tell 72 = .ok (.sipush 203, 3) := zo_17 (b1 := 0) (b2 := 203) (zkb3 zk_cX12_tell zn_cX12_tell (by decide +kernel)) rfl
theorem dX12_tell_75 : decode cX12_tell 75 = .ok (.if_icmp .ne 14, 3) := zo_160 (b1 := 0) (b2 := 14) (zkb3 zk_cX12_tell zn_cX12_tell (by decide +kernel)) rfl
theorem dX12_tell_78 : decode cX12_tell 78 = .ok (.aload_n 0, 1) := zo_42 (zkb zk_cX12_tell zn_cX12_tell (by decide +kernel))
theorem dX12_tell_79 : decode cX12_tell 79 = .ok (.aload_n 0, 1) := zo_42 (zkb zk_cX12_tell zn_cX12_tell (by decide +kernel))
theorem dX12_tell_80 : decode cX12_tell 80 = .ok (.invokevirtual 548, 3) := zo_182 (b1 := 2) (b2 := 36) (zkb3 zk_cX12_tell zn_cX12_tell (by decide +kernel)) rfl
theorem dX12_tell_83 : decode cX12_tell 83 = .ok (.invokevirtual 646, 3) := zo_182 (b1 := 2) (b2 := 134) (zkb3 zk_cX12_tell zn_cX12_tell (by decide +kernel)) rfl
theorem dX12_tell_86 : decode cX12_tell 86 = .ok (.goto 26, 3) := zo_167 (b1 := 0) (b2 := 26) (zkb3 zk_cX12_tell zn_cX12_tell (by decide +kernel)) rfl
theorem dX12_tell_89 : decode cX12_tell 89 = .ok (.iload_n 3, 1) := zo_29 (zkb zk_cX12_tell zn_cX12_tell (by decide +kernel))
theorem dX12_tell_90 : decode cX12_tell 90 = .ok (.sipush 237, 3) := zo_17 (b1 := 0) (b2 := 237) (zkb3 zk_cX12_tell zn_cX12_tell (by decide +kernel)) rfl
theorem dX12_tell_93 : decode cX12_tell 93 = .ok (.if_icmp .ne 14, 3) := zo_160 (b1 := 0) (b2 := 14) (zkb3 zk_cX12_tell zn_cX12_tell (by decide +kernel)) rfl
theorem dX12_tell_96 : decode cX12_tell 96 = .ok (.aload_n 0, 1) := zo_42 (zkb zk_cX12_tell zn_cX12_tell (by decide +kernel))
theorem dX12_tell_97 : decode cX12_tell 97 = .ok (.aload_n 0, 1) := zo_42 (zkb zk_cX12_tell zn_cX12_tell (by decide +kernel))
theorem dX12_tell_98 : decode cX12_tell 98 = .ok (.invokevirtual 548, 3) := zo_182 (b1 := 2) (b2 := 36) (zkb3 zk_cX12_tell zn_cX12_tell (by decide +kernel)) rfl
theorem dX12_tell_101 : decode cX12_tell 101 = .ok (.invokevirtual 649, 3) := zo_182 (b1 := 2) (b2 := 137) (zkb3 zk_cX12_tell zn_cX12_tell (by decide +kernel)) rfl
theorem dX12_tell_104 : decode cX12_tell 104 = .ok (.goto 8, 3) := zo_167 (b1 := 0) (b2 := 8) (zkb3 zk_cX12_tell zn_cX12_tell (by decide +kernel)) rfl
theorem dX12_tell_107 : decode cX12_tell 107 = .ok (.aload_n 0, 1) := zo_42 (zkb zk_cX12_tell zn_cX12_tell (by decide +kernel))
theorem dX12_tell_108 : decode cX12_tell 108 = .ok (.iload_n 3, 1) := zo_29 (zkb zk_cX12_tell zn_cX12_tell (by decide +kernel))
theorem dX12_tell_109 : decode cX12_tell 109 = .ok (.invokevirtual 652, 3) := zo_182 (b1 := 2) (b2 := 140) (zkb3 zk_cX12_tell zn_cX12_tell (by decide +kernel)) rfl
theorem dX12_tell_112 : decode cX12_tell 112 = .ok (.aload_n 0, 1) := zo_42 (zkb zk_cX12_tell zn_cX12_tell (by decide +kernel))
theorem dX12_tell_113 : decode cX12_tell 113 = .ok (.getfield 545, 3) := zo_180 (b1 := 2) (b2 := 33) (zkb3 zk_cX12_tell zn_cX12_tell (by decide +kernel)) rfl
theorem dX12_tell_116 : decode cX12_tell 116 = .ok (.iload_n 2, 1) := zo_28 (zkb zk_cX12_tell zn_cX12_tell (by decide +kernel))
theorem dX12_tell_117 : decode cX12_tell 117 = .ok (.isub, 1) := zo_100 (zkb zk_cX12_tell zn_cX12_tell (by decide +kernel))
theorem dX12_tell_118 : decode cX12_tell 118 = .ok (.ireturn, 1) := zo_172 (zkb zk_cX12_tell zn_cX12_tell (by decide +kernel))
def kn_cX12_sayMore : Nat := 0xb12703b61d1c2a0900a7d902b605152a0900a7cb02b6037a041c2a0e009a70051c2f02b69102132acb02b6037a041c2a0b00a7d902b605152a0c009a70051c0536ce02b62a2f02b6b402132a4800a0061d5300a7cb02b6037a041c2a2f02b62503130600a723031309009a70051c2a2100a0051d7600a79302b61c2a7e00a72f02b62103132a0d00a006101c2f02b61f03132a2200a0041d9a00a72f02b61d03132a2f02b69102132a9302b61c2a0f009f06101c2f02b61b03132a26009a1dc100a72f02b68f02132a0d009f040415d100a72f02b61a03132adb00a4081c2f02b65202130600a718031309009a70051c2a2f02b61603130600a71403130900a206101c1200a71203130900a0051d1d00a71003130900a0041d2800a70e031309009a1d2a5800a2071d5d00a4061c6200a005041504367a06101b3e7e07101b3d7e07107a061b
theorem zk_cX12_sayMore : zkd cX12_sayMore.data.toList kn_cX12_sayMore = true := by decide +kernel
theorem zn_cX12_sayMore : cX12_sayMore.data.toList.length = 326 := by decide +kernel
theorem dX12_sayMore_0 : decode cX12_sayMore 0 = .ok (.iload_n 1, 1) := zo_27 (zkb zk_cX12_sayMore zn_cX12_sayMore (by decide +kernel))
theorem dX12_sayMore_1 : decode cX12_sayMore 1 = .ok (.iconst 3, 1) := zo_6 (zkb zk_cX12_sayMore zn_cX12_sayMore (by decide +kernel))
theorem dX12_sayMore_2 : decode cX12_sayMore 2 = .ok (.ishr, 1) := zo_122 (zkb zk_cX12_sayMore zn_cX12_sayMore (by decide +kernel))
theorem dX12_sayMore_3 : decode cX12_sayMore 3 = .ok (.bipush 7, 2) := zo_16 (b1 := 7) (zkb2 zk_cX12_sayMore zn_cX12_sayMore (by decide +kernel)) rfl
theorem dX12_sayMore_5 : decode cX12_sayMore 5 = .ok (.iand, 1) := zo_126 (zkb zk_cX12_sayMore zn_cX12_sayMore (by decide +kernel))
theorem dX12_sayMore_6 : decode cX12_sayMore 6 = .ok (.istore_n 2, 1) := zo_61 (zkb zk_cX12_sayMore zn_cX12_sayMore (by decide +kernel))
theorem dX12_sayMore_7 : decode cX12_sayMore 7 = .ok (.iload_n 1, 1) := zo_27 (zkb zk_cX12_sayMore zn_cX12_sayMore (by decide +kernel))
theorem dX12_sayMore_8 : decode cX12_sayMore 8 = .ok (.bipush 7, 2) := zo_16 (b1 := 7) (zkb2 zk_cX12_sayMore zn_cX12_sayMore (by decide +kernel)) rfl
theorem dX12_sayMore_10 : decode cX12_sayMore 10 = .ok (.iand, 1) := zo_126 (zkb zk_cX12_sayMore zn_cX12_sayMore (by decide +kernel))
theorem dX12_sayMore_11 : decode cX12_sayMore 11 = .ok (.istore_n 3, 1) := zo_62 (zkb zk_cX12_sayMore zn_cX12_sayMore (by decide +kernel))
theorem dX12_sayMore_12 : decode cX12_sayMore 12 = .ok (.iload_n 1, 1) := zo_27 (zkb zk_cX12_sayMore zn_cX12_sayMore (by decide +kernel))
theorem dX12_sayMore_13 : decode cX12_sayMore 13 = .ok (.bipush 6, 2) := zo_16 (b1 := 6) (zkb2 zk_cX12_sayMore zn_cX12_sayMore (by decide +kernel)) rfl
theorem dX12_sayMore_15 : decode cX12_sayMore 15 = .ok (.ishr, 1) := zo_122 (zkb zk_cX12_sayMore zn_cX12_sayMore (by decide +kernel))
theorem dX12_sayMore_16 : decode cX12_sayMore 16 = .ok (.istore 4, 2) := zo_54 (b1 := 4) (zkb2 zk_cX12_sayMore zn_cX12_sayMore (by decide +kernel))
theorem dX12_sayMore_18 : decode cX12_sayMore 18 = .ok (.iload 4, 2) := zo_21 (b1 := 4) (zkb2 zk_cX12_sayMore zn_cX12_sayMore (by decide +kernel))
theorem dX12_sayMore_20 : decode cX12_sayMore 20 = .ok (.iconst 2, 1) := zo_5 (zkb zk_cX12_sayMore zn_cX12_sayMore (by decide +kernel))
theorem dX12_sayMore_21 : decode cX12_sayMore 21 = .ok (.if_icmp .ne 98, 3) := zo_160 (b1 := 0) (b2 := 98) (zkb3 zk_cX12_sayMore zn_cX12_sayMore (by decide +kernel)) rfl
theorem dX12_sayMore_24 : decode cX12_sayMore 24 = .ok (.iload_n 2, 1) := zo_28 (zkb zk_cX12_sayMore zn_cX12_sayMore (by decide +kernel))
theorem dX12_sayMore_25 : decode cX12_sayMore 25 = .ok (.iconst 3, 1) := zo_6 (zkb zk_cX12_sayMore zn_cX12_sayMore (by decide +kernel))
theorem dX12_sayMore_26 : decode cX12_sayMore 26 = .ok (.if_icmp .le 93, 3) := zo_164 (b1 := 0) (b2 := 93) (zkb3 zk_cX12_sayMore zn_cX12_sayMore (by decide +kernel)) rfl
theorem dX12_sayMore_29 : decode cX12_sayMore 29 = .ok (.iload_n 3, 1) := zo_29 (zkb zk_cX12_sayMore zn_cX12_sayMore (by decide +kernel))
theorem dX12_sayMore_30 : decode cX12_sayMore 30 = .ok (.iconst 4, 1) := zo_7 (zkb zk_cX12_sayMore zn_cX12_sayMore (by decide +kernel))
theorem dX12_sayMore_31 : decode cX12_sayMore 31 = .ok (.if_icmp .ge 88, 3) := zo_162 (b1 := 0) (b2 := 88) (zkb3 zk_cX12_sayMore zn_cX12_sayMore (by decide +kernel)) rfl
theorem dX12_sayMore_34 : decode cX12_sayMore 34 = .ok (.aload_n 0, 1) := zo_42 (zkb zk_cX12_sayMore zn_cX12_sayMore (by decide +kernel))
theorem dX12_sayMore_35 : decode cX12_sayMore 35 = .ok (.iload_n 3, 1) := zo_29 (zkb zk_cX12_sayMore zn_cX12_sayMore (by decide +kernel))
theorem dX12_sayMore_36 : decode cX12_sayMore 36 = .ok (.ifCond .ne 9, 3) := zo_154 (b1 := 0) (b2 := 9) (zkb3 zk_cX12_sayMore zn_cX12_sayMore (by decide +kernel)) rfl
theorem dX12_sayMore_39 : decode cX12_sayMore 39 = .ok (.ldc_w 782, 3) := zo_19 (b1 := 3) (b2 := 14) (zkb3 zk_cX12_sayMore zn_cX12_sayMore (by decide +kernel)) rfl
theorem dX12_sayMore_42 : decode cX12_sayMore 42 = .ok (.goto 40, 3) := zo_167 (b1 := 0) (b2 := 40) (zkb3 zk_cX12_sayMore zn_cX12_sayMore (by decide +kernel)) rfl
theorem dX12_sayMore_45 : decode cX12_sayMore 45 = .ok (.iload_n 3, 1) := zo_29 (zkb zk_cX12_sayMore zn_cX12_sayMore (by decide +kernel))
theorem dX12_sayMore_46 : decode cX12_sayMore 46 = .ok (.iconst 1, 1) := zo_4 (zkb zk_cX12_sayMore zn_cX12_sayMore (by decide +kernel))
theorem dX12_sayMore_47 : decode cX12_sayMore 47 = .ok (.if_icmp .ne 9, 3) := zo_160 (b1 := 0) (b2 := 9) (zkb3 zk_cX12_sayMore zn_cX12_sayMore (by decide +kernel)) rfl
theorem dX12_sayMore_50 : decode cX12_sayMore 50 = .ok (.ldc_w 784, 3) := zo_19 (b1 := 3) (b2 := 16) (zkb3 zk_cX12_sayMore zn_cX12_sayMore (by decide +kernel)) rfl
theorem dX12_sayMore_53 : decode cX12_sayMore 53 = .ok (.goto 29, 3) := zo_167 (b1 := 0) (b2 := 29) (zkb3 zk_cX12_sayMore zn_cX12_sayMore (by decide +kernel)) rfl
theorem dX12_sayMore_56 : decode cX12_sayMore 56 = .ok (.iload_n 3, 1) := zo_29 (zkb zk_cX12_sayMore zn_cX12_sayMore (by decide +kernel))
theorem dX12_sayMore_57 : decode cX12_sayMore 57 = .ok (.iconst 2, 1) := zo_5 (zkb zk_cX12_sayMore zn_cX12_sayMore (by decide +kernel))
theorem dX12_sayMore_58 : decode cX12_sayMore 58 = .ok (.if_icmp .ne 9, 3) := zo_160 (b1 := 0) (b2 := 9) (zkb3 zk_cX12_sayMore zn_cX12_sayMore (by decide +kernel)) rfl
theorem dX12_sayMore_61 : decode cX12_sayMore 61 = .ok (.ldc_w 786, 3) := zo_19 (b1 := 3) (b2 := 18) (zkb3 zk_cX12_sayMore zn_cX12_sayMore (by decide +kernel)) rfl
theorem dX12_sayMore_64 : decode cX12_sayMore 64 = .ok (.goto 18, 3) := zo_167 (b1 := 0) (b2 := 18) (zkb3 zk_cX12_sayMore zn_cX12_sayMore (by decide +kernel)) rfl
theorem dX12_sayMore_67 : decode cX12_sayMore 67 = .ok (.iload_n 2, 1) := zo_28 (zkb zk_cX12_sayMore zn_cX12_sayMore (by decide +kernel))
theorem dX12_sayMore_68 : decode cX12_sayMore 68 = .ok (.bipush 6, 2) := zo_16 (b1 := 6) (zkb2 zk_cX12_sayMore zn_cX12_sayMore (by decide +kernel)) rfl
theorem dX12_sayMore_70 : decode cX12_sayMore 70 = .ok (.if_icmp .ge 9, 3) := zo_162 (b1 := 0) (b2 := 9) (zkb3 zk_cX12_sayMore zn_cX12_sayMore (by decide +kernel)) rfl
theorem dX12_sayMore_73 : decode cX12_sayMore 73 = .ok (.ldc_w 788, 3) := zo_19 (b1 := 3) (b2 := 20) (zkb3 zk_cX12_sayMore zn_cX12_sayMore (by decide +kernel)) rfl
theorem dX12_sayMore_76 : decode cX12_sayMore 76 = .ok (.goto 6, 3) := zo_167 (b1 := 0) (b2 := 6) (zkb3 zk_cX12_sayMore zn_cX12_sayMore (by decide +kernel)) rfl
theorem dX12_sayMore_79 : decode cX12_sayMore 79 = .ok (.ldc_w 790, 3) := zo_19 (b1 := 3) (b2 := 22) (zkb3 zk_cX12_sayMore zn_cX12_sayMore (by decide +kernel)) rfl
theorem dX12_sayMore_82 : decode cX12_sayMore 82 = .ok (.invokevirtual 559, 3) := zo_182 (b1 := 2) (b2 := 47) (zkb3 zk_cX12_sayMore zn_cX12_sayMore (by decide +kernel)) rfl
theorem dX12_sayMore_85 : decode cX12_sayMore 85 = .ok (.aload_n 0, 1) := zo_42 (zkb zk_cX12_sayMore zn_cX12_sayMore (by decide +kernel))
theorem dX12_sayMore_86 : decode cX12_sayMore 86 = .ok (.iload_n 2, 1) := zo_28 (zkb zk_cX12_sayMore zn_cX12_sayMore (by decide +kernel))
theorem dX12_sayMore_87 : decode cX12_sayMore 87 = .ok (.iconst 2, 1) := zo_5 (zkb zk_cX12_sayMore zn_cX12_sayMore (by decide +kernel))
theorem dX12_sayMore_88 : decode cX12_sayMore 88 = .ok (.irem, 1) := zo_112 (zkb zk_cX12_sayMore zn_cX12_sayMore (by decide +kernel))
theorem dX12_sayMore_89 : decode cX12_sayMore 89 = .ok (.ifCond .ne 9, 3) := zo_154 (b1 := 0) (b2 := 9) (zkb3 zk_cX12_sayMore zn_cX12_sayMore (by decide +kernel)) rfl
theorem dX12_sayMore_92 : decode cX12_sayMore 92 = .ok (.ldc_w 792, 3) := zo_19 (b1 := 3) (b2 := 24) (zkb3 zk_cX12_sayMore zn_cX12_sayMore (by decide +kernel)) rfl
theorem dX12_sayMore_95 : decode cX12_sayMore 95 = .ok (.goto 6, 3) := zo_167 (b1 := 0) (b2 := 6) (zkb3 zk_cX12_sayMore zn_cX12_sayMore (by decide +kernel)) rfl
theorem dX12_sayMore_98 : decode cX12_sayMore 98 = .ok (.ldc_w 594, 3) := zo_19 (b1 := 2) (b2 := 82) (zkb3 zk_cX12_sayMore zn_cX12_sayMore (by decide +kernel)) rfl
theorem dX12_sayMore_101 : decode cX12_sayMore 101 = .ok (.invokevirtual 559, 3) := zo_182 (b1 := 2) (b2 := 47) (zkb3 zk_cX12_sayMore zn_cX12_sayMore (by decide +kernel)) rfl
theorem dX12_sayMore_104 : decode cX12_sayMore 104 = .ok (.iload_n 2, 1) := zo_28 (zkb zk_cX12_sayMore zn_cX12_sayMore (by decide +kernel))
theorem dX12_sayMore_105 : decode cX12_sayMore 105 = .ok (.iconst 5, 1) := zo_8 (zkb zk_cX12_sayMore zn_cX12_sayMore (by decide +kernel))
theorem dX12_sayMore_106 : decode cX12_sayMore 106 = .ok (.if_icmp .le 219, 3) := zo_164 (b1 := 0) (b2 := 219) (zkb3 zk_cX12_sayMore zn_cX12_sayMore (by decide +kernel)) rfl
theorem dX12_sayMore_109 : decode cX12_sayMore 109 = .ok (.aload_n 0, 1) := zo_42 (zkb zk_cX12_sayMore zn_cX12_sayMore (by decide +kernel))
theorem dX12_sayMore_110 : decode cX12_sayMore 110 = .ok (.ldc_w 794, 3) := zo_19 (b1 := 3) (b2 := 26) (zkb3 zk_cX12_sayMore zn_cX12_sayMore (by decide +kernel)) rfl
theorem dX12_sayMore_113 : decode cX12_sayMore 113 = .ok (.invokevirtual 559, 3) := zo_182 (b1 := 2) (b2 := 47) (zkb3 zk_cX12_sayMore zn_cX12_sayMore (by decide +kernel)) rfl
theorem dX12_sayMore_116 : decode cX12_sayMore 116 = .ok (.goto 209, 3) := zo_167 (b1 := 0) (b2 := 209) (zkb3 zk_cX12_sayMore zn_cX12_sayMore (by decide +kernel)) rfl
theorem dX12_sayMore_119 : decode cX12_sayMore 119 = .ok (.iload 4, 2) := zo_21 (b1 := 4) (zkb2 zk_cX12_sayMore zn_cX12_sayMore (by decide +kernel))
theorem dX12_sayMore_121 : decode cX12_sayMore 121 = .ok (.iconst 1, 1) := zo_4 (zkb zk_cX12_sayMore zn_cX12_sayMore (by decide +kernel))
theorem dX12_sayMore_122 : decode cX12_sayMore 122 = .ok (.if_icmp .eq 13, 3) := zo_159 (b1 := 0) (b2 := 13) (zkb3 zk_cX12_sayMore zn_cX12_sayMore (by decide +kernel)) rfl
theorem dX12_sayMore_125 : decode cX12_sayMore 125 = .ok (.aload_n 0, 1) := zo_42 (zkb zk_cX12_sayMore zn_cX12_sayMore (by decide +kernel))
theorem dX12_sayMore_126 : decode cX12_sayMore 126 = .ok (.ldc_w 655, 3) := zo_19 (b1 := 2) (b2 := 143) (zkb3 zk_cX12_sayMore zn_cX12_sayMore (by decide +kernel)) rfl
theorem dX12_sayMore_129 : decode cX12_sayMore 129 = .ok (.invokevirtual 559, 3) := zo_182 (b1 := 2) (b2 := 47) (zkb3 zk_cX12_sayMore zn_cX12_sayMore (by decide +kernel)) rfl
theorem dX12_sayMore_132 : decode cX12_sayMore 132 = .ok (.goto 193, 3) := zo_167 (b1 := 0) (b2 := 193) (zkb3 zk_cX12_sayMore zn_cX12_sayMore (by decide +kernel)) rfl
theorem dX12_sayMore_135 : decode cX12_sayMore 135 = .ok (.iload_n 3, 1) := zo_29 (zkb zk_cX12_sayMore zn_cX12_sayMore (by decide +kernel))
theorem dX12_sayMore_136 : decode cX12_sayMore 136 = .ok (.ifCond .ne 38, 3) := zo_154 (b1 := 0) (b2 := 38) (zkb3 zk_cX12_sayMore zn_cX12_sayMore (by decide +kernel)) rfl
theorem dX12_sayMore_139 : decode cX12_sayMore 139 = .ok (.aload_n 0, 1) := zo_42 (zkb zk_cX12_sayMore zn_cX12_sayMore (by decide +kernel))
theorem dX12_sayMore_140 : decode cX12_sayMore 140 = .ok (.ldc_w 795, 3) := zo_19 (b1 := 3) (b2 := 27) (zkb3 zk_cX12_sayMore zn_cX12_sayMore (by decide +kernel)) rfl
theorem dX12_sayMore_143 : decode cX12_sayMore 143 = .ok (.invokevirtual 559, 3) := zo_182 (b1 := 2) (b2 := 47) (zkb3 zk_cX12_sayMore zn_cX12_sayMore (by decide +kernel)) rfl
theorem dX12_sayMore_146 : decode cX12_sayMore 146 = .ok (.iload_n 2, 1) := zo_28 (zkb zk_cX12_sayMore zn_cX12_sayMore (by decide +kernel))
theorem dX12_sayMore_147 : decode cX12_sayMore 147 = .ok (.bipush 6, 2) := zo_16 (b1 := 6) (zkb2 zk_cX12_sayMore zn_cX12_sayMore (by decide +kernel)) rfl
theorem dX12_sayMore_149 : decode cX12_sayMore 149 = .ok (.if_icmp .eq 15, 3) := zo_159 (b1 := 0) (b2 := 15) (zkb3 zk_cX12_sayMore zn_cX12_sayMore (by decide +kernel)) rfl
theorem dX12_sayMore_152 : decode cX12_sayMore 152 = .ok (.aload_n 0, 1) := zo_42 (zkb zk_cX12_sayMore zn_cX12_sayMore (by decide +kernel))
theorem dX12_sayMore_153 : decode cX12_sayMore 153 = .ok (.iload_n 2, 1) := zo_28 (zkb zk_cX12_sayMore zn_cX12_sayMore (by decide +kernel))
theorem dX12_sayMore_154 : decode cX12_sayMore 154 = .ok (.invokevirtual 659, 3) := zo_182 (b1 := 2) (b2 := 147) (zkb3 zk_cX12_sayMore zn_cX12_sayMore (by decide +kernel)) rfl
theorem dX12_sayMore_157 : decode cX12_sayMore 157 = .ok (.aload_n 0, 1) := zo_42 (zkb zk_cX12_sayMore zn_cX12_sayMore (by decide +kernel))
theorem dX12_sayMore_158 : decode cX12_sayMore 158 = .ok (.ldc_w 657, 3) := zo_19 (b1 := 2) (b2 := 145) (zkb3 zk_cX12_sayMore zn_cX12_sayMore (by decide +kernel)) rfl
theorem dX12_sayMore_161 : decode cX12_sayMore 161 = .ok (.invokevirtual 559, 3) := zo_182 (b1 := 2) (b2 := 47) (zkb3 zk_cX12_sayMore zn_cX12_sayMore (by decide +kernel)) rfl
theorem dX12_sayMore_164 : decode cX12_sayMore 164 = .ok (.aload_n 0, 1) := zo_42 (zkb zk_cX12_sayMore zn_cX12_sayMore (by decide +kernel))
theorem dX12_sayMore_165 : decode cX12_sayMore 165 = .ok (.ldc_w 797, 3) := zo_19 (b1 := 3) (b2 := 29) (zkb3 zk_cX12_sayMore zn_cX12_sayMore (by decide +kernel)) rfl
theorem dX12_sayMore_168 : decode cX12_sayMore 168 = .ok (.invokevirtual 559, 3) := zo_182 (b1 := 2) (b2 := 47) (zkb3 zk_cX12_sayMore zn_cX12_sayMore (by decide +kernel)) rfl
theorem dX12_sayMore_171 : decode cX12_sayMore 171 = .ok (.goto 154, 3) := zo_167 (b1 := 0) (b2 := 154) (zkb3 zk_cX12_sayMore zn_cX12_sayMore (by decide +kernel)) rfl
theorem dX12_sayMore_174 : decode cX12_sayMore 174 = .ok (.iload_n 3, 1) := zo_29 (zkb zk_cX12_sayMore zn_cX12_sayMore (by decide +kernel))
theorem dX12_sayMore_175 : decode cX12_sayMore 175 = .ok (.iconst 1, 1) := zo_4 (zkb zk_cX12_sayMore zn_cX12_sayMore (by decide +kernel))
theorem dX12_sayMore_176 : decode cX12_sayMore 176 = .ok (.if_icmp .ne 34, 3) := zo_160 (b1 := 0) (b2 := 34) (zkb3 zk_cX12_sayMore zn_cX12_sayMore (by decide +kernel)) rfl
theorem dX12_sayMore_179 : decode cX12_sayMore 179 = .ok (.aload_n 0, 1) := zo_42 (zkb zk_cX12_sayMore zn_cX12_sayMore (by decide +kernel))
theorem dX12_sayMore_180 : decode cX12_sayMore 180 = .ok (.ldc_w 799, 3) := zo_19 (b1 := 3) (b2 := 31) (zkb3 zk_cX12_sayMore zn_cX12_sayMore (by decide +kernel)) rfl
theorem dX12_sayMore_183 : decode cX12_sayMore 183 = .ok (.invokevirtual 559, 3) := zo_182 (b1 := 2) (b2 := 47) (zkb3 zk_cX12_sayMore zn_cX12_sayMore (by decide +kernel)) rfl
theorem dX12_sayMore_186 : decode cX12_sayMore 186 = .ok (.iload_n 2, 1) := zo_28 (zkb zk_cX12_sayMore zn_cX12_sayMore (by decide +kernel))
theorem dX12_sayMore_187 : decode cX12_sayMore 187 = .ok (.bipush 6, 2) := zo_16 (b1 := 6) (zkb2 zk_cX12_sayMore zn_cX12_sayMore (by decide +kernel)) rfl
theorem dX12_sayMore_189 : decode cX12_sayMore 189 = .ok (.if_icmp .ne 13, 3) := zo_160 (b1 := 0) (b2 := 13) (zkb3 zk_cX12_sayMore zn_cX12_sayMore (by decide +kernel)) rfl
theorem dX12_sayMore_192 : decode cX12_sayMore 192 = .ok (.aload_n 0, 1) := zo_42 (zkb zk_cX12_sayMore zn_cX12_sayMore (by decide +kernel))
theorem dX12_sayMore_193 : decode cX12_sayMore 193 = .ok (.ldc_w 801, 3) := zo_19 (b1 := 3) (b2 := 33) (zkb3 zk_cX12_sayMore zn_cX12_sayMore (by decide +kernel)) rfl
theorem dX12_sayMore_196 : decode cX12_sayMore 196 = .ok (.invokevirtual 559, 3) := zo_182 (b1 := 2) (b2 := 47) (zkb3 zk_cX12_sayMore zn_cX12_sayMore (by decide +kernel)) rfl
theorem dX12_sayMore_199 : decode cX12_sayMore 199 = .ok (.goto 126, 3) := zo_167 (b1 := 0) (b2 := 126) (zkb3 zk_cX12_sayMore zn_cX12_sayMore (by decide +kernel)) rfl
theorem dX12_sayMore_202 : decode cX12_sayMore 202 = .ok (.aload_n 0, 1) := zo_42 (zkb zk_cX12_sayMore zn_cX12_sayMore (by decide +kernel))
theorem dX12_sayMore_203 : decode cX12_sayMore 203 = .ok (.iload_n 2, 1) := zo_28 (zkb zk_cX12_sayMore zn_cX12_sayMore (by decide +kernel))
theorem dX12_sayMore_204 : decode cX12_sayMore 204 = .ok (.invokevirtual 659, 3) := zo_182 (b1 := 2) (b2 := 147) (zkb3 zk_cX12_sayMore zn_cX12_sayMore (by decide +kernel)) rfl
theorem dX12_sayMore_207 : decode cX12_sayMore 207 = .ok (.goto 118, 3) := zo_167 (b1 := 0) (b2 := 118) (zkb3 zk_cX12_sayMore zn_cX12_sayMore (by decide +kernel)) rfl
theorem dX12_sayMore_210 : decode cX12_sayMore 210 = .ok (.iload_n 3, 1) := zo_29 (zkb zk_cX12_sayMore zn_cX12_sayMore (by decide +kernel))
theorem dX12_sayMore_211 : decode cX12_sayMore 211 = .ok (.iconst 2, 1) := zo_5 (zkb zk_cX12_sayMore zn_cX12_sayMore (by decide +kernel))
theorem dX12_sayMore_212 : decode cX12_sayMore 212 = .ok (.if_icmp .ne 33, 3) := zo_160 (b1 := 0) (b2 := 33) (zkb3 zk_cX12_sayMore zn_cX12_sayMore (by decide +kernel)) rfl
theorem dX12_sayMore_215 : decode cX12_sayMore 215 = .ok (.aload_n 0, 1) := zo_42 (zkb zk_cX12_sayMore zn_cX12_sayMore (by decide +kernel))
theorem dX12_sayMore_216 : decode cX12_sayMore 216 = .ok (.iload_n 2, 1) := zo_28 (zkb zk_cX12_sayMore zn_cX12_sayMore (by decide +kernel))
theorem dX12_sayMore_217 : decode cX12_sayMore 217 = .ok (.iconst 2, 1) := zo_5 (zkb zk_cX12_sayMore zn_cX12_sayMore (by decide +kernel))
theorem dX12_sayMore_218 : decode cX12_sayMore 218 = .ok (.irem, 1) := zo_112 (zkb zk_cX12_sayMore zn_cX12_sayMore (by decide +kernel))
theorem dX12_sayMore_219 : decode cX12_sayMore 219 = .ok (.ifCond .ne 9, 3) := zo_154 (b1 := 0) (b2 := 9) (zkb3 zk_cX12_sayMore zn_cX12_sayMore (by decide +kernel)) rfl
theorem dX12_sayMore_222 : decode cX12_sayMore 222 = .ok (.ldc_w 803, 3) := zo_19 (b1 := 3) (b2 := 35) (zkb3 zk_cX12_sayMore zn_cX12_sayMore (by decide +kernel)) rfl
theorem dX12_sayMore_225 : decode cX12_sayMore 225 = .ok (.goto 6, 3) := zo_167 (b1 := 0) (b2 := 6) (zkb3 zk_cX12_sayMore zn_cX12_sayMore (by decide +kernel)) rfl
theorem dX12_sayMore_228 : decode cX12_sayMore 228 = .ok (.ldc_w 805, 3) := zo_19 (b1 := 3) (b2 := 37) (zkb3 zk_cX12_sayMore zn_cX12_sayMore (by decide +kernel)) rfl
theorem dX12_sayMore_231 : decode cX12_sayMore 231 = .ok (.invokevirtual 559, 3) := zo_182 (b1 := 2) (b2 := 47) (zkb3 zk_cX12_sayMore zn_cX12_sayMore (by decide +kernel)) rfl
theorem dX12_sayMore_234 : decode cX12_sayMore 234 = .ok (.aload_n 0, 1) := zo_42 (zkb zk_cX12_sayMore zn_cX12_sayMore (by decide +kernel))
theorem dX12_sayMore_235 : decode cX12_sayMore 235 = .ok (.iload_n 2, 1) := zo_28 (zkb zk_cX12_sayMore zn_cX12_sayMore (by decide +kernel))
theorem dX12_sayMore_236 : decode cX12_sayMore 236 = .ok (.iconst 1, 1) := zo_4 (zkb zk_cX12_sayMore zn_cX12_sayMore (by decide +kernel))
theorem dX12_sayMore_237 : decode cX12_sayMore 237 = .ok (.ishr, 1) := zo_122 (zkb zk_cX12_sayMore zn_cX12_sayMore (by decide +kernel))
theorem dX12_sayMore_238 : decode cX12_sayMore 238 = .ok (.iconst 0, 1) := zo_3 (zkb zk_cX12_sayMore zn_cX12_sayMore (by decide +kernel))
theorem dX12_sayMore_239 : decode cX12_sayMore 239 = .ok (.invokevirtual 715, 3) := zo_182 (b1 := 2) (b2 := 203) (zkb3 zk_cX12_sayMore zn_cX12_sayMore (by decide +kernel)) rfl
theorem dX12_sayMore_242 : decode cX12_sayMore 242 = .ok (.goto 83, 3) := zo_167 (b1 := 0) (b2 := 83) (zkb3 zk_cX12_sayMore zn_cX12_sayMore (by decide +kernel)) rfl
theorem dX12_sayMore_245 : decode cX12_sayMore 245 = .ok (.iload_n 3, 1) := zo_29 (zkb zk_cX12_sayMore zn_cX12_sayMore (by decide +kernel))
theorem dX12_sayMore_246 : decode cX12_sayMore 246 = .ok (.iconst 3, 1) := zo_6 (zkb zk_cX12_sayMore zn_cX12_sayMore (by decide +kernel))
theorem dX12_sayMore_247 : decode cX12_sayMore 247 = .ok (.if_icmp .ne 72, 3) := zo_160 (b1 := 0) (b2 := 72) (zkb3 zk_cX12_sayMore zn_cX12_sayMore (by decide +kernel)) rfl
theorem dX12_sayMore_250 : decode cX12_sayMore 250 = .ok (.aload_n 0, 1) := zo_42 (zkb zk_cX12_sayMore zn_cX12_sayMore (by decide +kernel))
theorem dX12_sayMore_251 : decode cX12_sayMore 251 = .ok (.ldc_w 692, 3) := zo_19 (b1 := 2) (b2 := 180) (zkb3 zk_cX12_sayMore zn_cX12_sayMore (by decide +kernel)) rfl
theorem dX12_sayMore_254 : decode cX12_sayMore 254 = .ok (.invokevirtual 559, 3) := zo_182 (b1 := 2) (b2 := 47) (zkb3 zk_cX12_sayMore zn_cX12_sayMore (by decide +kernel)) rfl
theorem dX12_sayMore_257 : decode cX12_sayMore 257 = .ok (.aload_n 0, 1) := zo_42 (zkb zk_cX12_sayMore zn_cX12_sayMore (by decide +kernel))
theorem dX12_sayMore_258 : decode cX12_sayMore 258 = .ok (.invokevirtual 718, 3) := zo_182 (b1 := 2) (b2 := 206) (zkb3 zk_cX12_sayMore zn_cX12_sayMore (by decide +kernel)) rfl
theorem dX12_sayMore_261 : decode cX12_sayMore 261 = .ok (.istore 5, 2) := zo_54 (b1 := 5) (zkb2 zk_cX12_sayMore zn_cX12_sayMore (by decide +kernel))
theorem dX12_sayMore_263 : decode cX12_sayMore 263 = .ok (.iload_n 2, 1) := zo_28 (zkb zk_cX12_sayMore zn_cX12_sayMore (by decide +kernel))
theorem dX12_sayMore_264 : decode cX12_sayMore 264 = .ok (.iconst 2, 1) := zo_5 (zkb zk_cX12_sayMore zn_cX12_sayMore (by decide +kernel))
theorem dX12_sayMore_265 : decode cX12_sayMore 265 = .ok (.irem, 1) := zo_112 (zkb zk_cX12_sayMore zn_cX12_sayMore (by decide +kernel))
theorem dX12_sayMore_266 : decode cX12_sayMore 266 = .ok (.ifCond .ne 12, 3) := zo_154 (b1 := 0) (b2 := 12) (zkb3 zk_cX12_sayMore zn_cX12_sayMore (by decide +kernel)) rfl
theorem dX12_sayMore_269 : decode cX12_sayMore 269 = .ok (.aload_n 0, 1) := zo_42 (zkb zk_cX12_sayMore zn_cX12_sayMore (by decide +kernel))
theorem dX12_sayMore_270 : decode cX12_sayMore 270 = .ok (.iload 5, 2) := zo_21 (b1 := 5) (zkb2 zk_cX12_sayMore zn_cX12_sayMore (by decide +kernel))
theorem dX12_sayMore_272 : decode cX12_sayMore 272 = .ok (.invokevirtual 729, 3) := zo_182 (b1 := 2) (b2 := 217) (zkb3 zk_cX12_sayMore zn_cX12_sayMore (by decide +kernel)) rfl
theorem dX12_sayMore_275 : decode cX12_sayMore 275 = .ok (.goto 11, 3) := zo_167 (b1 := 0) (b2 := 11) (zkb3 zk_cX12_sayMore zn_cX12_sayMore (by decide +kernel)) rfl
theorem dX12_sayMore_278 : decode cX12_sayMore 278 = .ok (.aload_n 0, 1) := zo_42 (zkb zk_cX12_sayMore zn_cX12_sayMore (by decide +kernel))
theorem dX12_sayMore_279 : decode cX12_sayMore 279 = .ok (.iload_n 2, 1) := zo_28 (zkb zk_cX12_sayMore zn_cX12_sayMore (by decide +kernel))
theorem dX12_sayMore_280 : decode cX12_sayMore 280 = .ok (.iconst 1, 1) := zo_4 (zkb zk_cX12_sayMore zn_cX12_sayMore (by decide +kernel))
theorem dX12_sayMore_281 : decode cX12_sayMore 281 = .ok (.ishr, 1) := zo_122 (zkb zk_cX12_sayMore zn_cX12_sayMore (by decide +kernel))
theorem dX12_sayMore_282 : decode cX12_sayMore 282 = .ok (.iconst 0, 1) := zo_3 (zkb zk_cX12_sayMore zn_cX12_sayMore (by decide +kernel))
theorem dX12_sayMore_283 : decode cX12_sayMore 283 = .ok (.invokevirtual 715, 3) := zo_182 (b1 := 2) (b2 := 203) (zkb3 zk_cX12_sayMore zn_cX12_sayMore (by decide +kernel)) rfl
theorem dX12_sayMore_286 : decode cX12_sayMore 286 = .ok (.aload_n 0, 1) := zo_42 (zkb zk_cX12_sayMore zn_cX12_sayMore (by decide +kernel))
theorem dX12_sayMore_287 : decode cX12_sayMore 287 = .ok (.ldc_w 657, 3) := zo_19 (b1 := 2) (b2 := 145) (zkb3 zk_cX12_sayMore zn_cX12_sayMore (by decide +kernel)) rfl
theorem dX12_sayMore_290 : decode cX12_sayMore 290 = .ok (.invokevirtual 559, 3) := zo_182 (b1 := 2) (b2 := 47) (zkb3 zk_cX12_sayMore zn_cX12_sayMore (by decide +kernel)) rfl
theorem dX12_sayMore_293 : decode cX12_sayMore 293 = .ok (.iload_n 2, 1) := zo_28 (zkb zk_cX12_sayMore zn_cX12_sayMore (by decide +kernel))
theorem dX12_sayMore_294 : decode cX12_sayMore 294 = .ok (.iconst 2, 1) := zo_5 (zkb zk_cX12_sayMore zn_cX12_sayMore (by decide +kernel))
theorem dX12_sayMore_295 : decode cX12_sayMore 295 = .ok (.irem, 1) := zo_112 (zkb zk_cX12_sayMore zn_cX12_sayMore (by decide +kernel))
theorem dX12_sayMore_296 : decode cX12_sayMore 296 = .ok (.ifCond .ne 14, 3) := zo_154 (b1 := 0) (b2 := 14) (zkb3 zk_cX12_sayMore zn_cX12_sayMore (by decide +kernel)) rfl
theorem dX12_sayMore_299 : decode cX12_sayMore 299 = .ok (.aload_n 0, 1) := zo_42 (zkb zk_cX12_sayMore zn_cX12_sayMore (by decide +kernel))
theorem dX12_sayMore_300 : decode cX12_sayMore 300 = .ok (.iload_n 2, 1) := zo_28 (zkb zk_cX12_sayMore zn_cX12_sayMore (by decide +kernel))
theorem dX12_sayMore_301 : decode cX12_sayMore 301 = .ok (.iconst 1, 1) := zo_4 (zkb zk_cX12_sayMore zn_cX12_sayMore (by decide +kernel))
theorem dX12_sayMore_302 : decode cX12_sayMore 302 = .ok (.ishr, 1) := zo_122 (zkb zk_cX12_sayMore zn_cX12_sayMore (by decide +kernel))
theorem dX12_sayMore_303 : decode cX12_sayMore 303 = .ok (.iconst 0, 1) := zo_3 (zkb zk_cX12_sayMore zn_cX12_sayMore (by decide +kernel))
theorem dX12_sayMore_304 : decode cX12_sayMore 304 = .ok (.invokevirtual 715, 3) := zo_182 (b1 := 2) (b2 := 203) (zkb3 zk_cX12_sayMore zn_cX12_sayMore (by decide +kernel)) rfl
theorem dX12_sayMore_307 : decode cX12_sayMore 307 = .ok (.goto 9, 3) := zo_167 (b1 := 0) (b2 := 9) (zkb3 zk_cX12_sayMore zn_cX12_sayMore (by decide +kernel)) rfl
theorem dX12_sayMore_310 : decode cX12_sayMore 310 = .ok (.aload_n 0, 1) := zo_42 (zkb zk_cX12_sayMore zn_cX12_sayMore (by decide +kernel))
theorem dX12_sayMore_311 : decode cX12_sayMore 311 = .ok (.iload 5, 2) := zo_21 (b1 := 5) (zkb2 zk_cX12_sayMore zn_cX12_sayMore (by decide +kernel))
theorem dX12_sayMore_313 : decode cX12_sayMore 313 = .ok (.invokevirtual 729, 3) := zo_182 (b1 := 2) (b2 := 217) (zkb3 zk_cX12_sayMore zn_cX12_sayMore (by decide +kernel)) rfl
theorem dX12_sayMore_316 : decode cX12_sayMore 316 = .ok (.goto 9, 3) := zo_167 (b1 := 0) (b2 := 9) (zkb3 zk_cX12_sayMore zn_cX12_sayMore (by decide +kernel)) rfl
theorem dX12_sayMore_319 : decode cX12_sayMore 319 = .ok (.aload_n 0, 1) := zo_42 (zkb zk_cX12_sayMore zn_cX12_sayMore (by decide +kernel))
theorem dX12_sayMore_320 : decode cX12_sayMore 320 = .ok (.iload_n 2, 1) := zo_28 (zkb zk_cX12_sayMore zn_cX12_sayMore (by decide +kernel))
theorem dX12_sayMore_321 : decode cX12_sayMore 321 = .ok (.iload_n 3, 1) := zo_29 (zkb zk_cX12_sayMore zn_cX12_sayMore (by decide +kernel))
theorem dX12_sayMore_322 : decode cX12_sayMore 322 = .ok (.invokevirtual 807, 3) := zo_182 (b1 := 3) (b2 := 39) (zkb3 zk_cX12_sayMore zn_cX12_sayMore (by decide +kernel)) rfl
theorem dX12_sayMore_325 : decode cX12_sayMore 325 = .ok (.return_, 1) := zo_177 (zkb zk_cX12_sayMore zn_cX12_sayMore (by decide +kernel))
def kn_cX12_text : Nat := 0xad20d9ffa7ff0484418185030400a72e6004151b6000b42a0f00a2ca01b42a6004151b7908102028009b0415043607104109ad090500997200b604030400a70407009a6e00b8856404ca01b42a09851b2a
theorem zk_cX12_text : zkd cX12_text.data.toList kn_cX12_text = true := by decide +kernel
theorem zn_cX12_text : cX12_text.data.toList.length = 81 := by decide +kernel
theorem dX12_text_0 : decode cX12_text 0 = .ok (.aload_n 0, 1) := zo_42 (zkb zk_cX12_text zn_cX12_text (by decide +kernel))
theorem dX12_text_1 : decode cX12_text 1 = .ok (.iload_n 1, 1) := zo_27 (zkb zk_cX12_text zn_cX12_text (by decide +kernel))
theorem dX12_text_2 : decode cX12_text 2 = .ok (.i2l, 1) := zo_133 (zkb zk_cX12_text zn_cX12_text (by decide +kernel))
theorem dX12_text_3 : decode cX12_text 3 = .ok (.lconst 0, 1) := zo_9 (zkb zk_cX12_text zn_cX12_text (by decide +kernel))
theorem dX12_text_4 : decode cX12_text 4 = .ok (.aload_n 0, 1) := zo_42 (zkb zk_cX12_text zn_cX12_text (by decide +kernel))
theorem dX12_text_5 : decode cX12_text 5 = .ok (.getfield 458, 3) := zo_180 (b1 := 1) (b2 := 202) (zkb3 zk_cX12_text zn_cX12_text (by decide +kernel)) rfl
theorem dX12_text_8 : decode cX12_text 8 = .ok (.iconst 1, 1) := zo_4 (zkb zk_cX12_text zn_cX12_text (by decide +kernel))
theorem dX12_text_9 : decode cX12_text 9 = .ok (.isub, 1) := zo_100 (zkb zk_cX12_text zn_cX12_text (by decide +kernel))
theorem dX12_text_10 : decode cX12_text 10 = .ok (.i2l, 1) := zo_133 (zkb zk_cX12_text zn_cX12_text (by decide +kernel))
theorem dX12_text_11 : decode cX12_text 11 = .ok (.invokestatic 110, 3) := zo_184 (b1 := 0) (b2 := 110) (zkb3 zk_cX12_text zn_cX12_text (by decide +kernel)) rfl
theorem dX12_text_14 : decode cX12_text 14 = .ok (.ifCond .ne 7, 3) := zo_154 (b1 := 0) (b2 := 7) (zkb3 zk_cX12_text zn_cX12_text (by decide +kernel)) rfl
theorem dX12_text_17 : decode cX12_text 17 = .ok (.iconst 1, 1) := zo_4 (zkb zk_cX12_text zn_cX12_text (by decide +kernel))
theorem dX12_text_18 : decode cX12_text 18 = .ok (.goto 4, 3) := zo_167 (b1 := 0) (b2 := 4) (zkb3 zk_cX12_text zn_cX12_text (by decide +kernel)) rfl
theorem dX12_text_21 : decode cX12_text 21 = .ok (.iconst 0, 1) := zo_3 (zkb zk_cX12_text zn_cX12_text (by decide +kernel))
theorem dX12_text_22 : decode cX12_text 22 = .ok (.iconst 1, 1) := zo_4 (zkb zk_cX12_text zn_cX12_text (by decide +kernel))
theorem dX12_text_23 : decode cX12_text 23 = .ok (.invokevirtual 114, 3) := zo_182 (b1 := 0) (b2 := 114) (zkb3 zk_cX12_text zn_cX12_text (by decide +kernel)) rfl
theorem dX12_text_26 : decode cX12_text 26 = .ok (.ifCond .eq 5, 3) := zo_153 (b1 := 0) (b2 := 5) (zkb3 zk_cX12_text zn_cX12_text (by decide +kernel)) rfl
theorem dX12_text_29 : decode cX12_text 29 = .ok (.lconst 0, 1) := zo_9 (zkb zk_cX12_text zn_cX12_text (by decide +kernel))
theorem dX12_text_30 : decode cX12_text 30 = .ok (.lreturn, 1) := zo_173 (zkb zk_cX12_text zn_cX12_text (by decide +kernel))
theorem dX12_text_31 : decode cX12_text 31 = .ok (.lconst 0, 1) := zo_9 (zkb zk_cX12_text zn_cX12_text (by decide +kernel))
theorem dX12_text_32 : decode cX12_text 32 = .ok (.lstore_n 2, 1) := zo_65 (zkb zk_cX12_text zn_cX12_text (by decide +kernel))
theorem dX12_text_33 : decode cX12_text 33 = .ok (.bipush 7, 2) := zo_16 (b1 := 7) (zkb2 zk_cX12_text zn_cX12_text (by decide +kernel)) rfl
theorem dX12_text_35 : decode cX12_text 35 = .ok (.istore 4, 2) := zo_54 (b1 := 4) (zkb2 zk_cX12_text zn_cX12_text (by decide +kernel))
theorem dX12_text_37 : decode cX12_text 37 = .ok (.iload 4, 2) := zo_21 (b1 := 4) (zkb2 zk_cX12_text zn_cX12_text (by decide +kernel))
theorem dX12_text_39 : decode cX12_text 39 = .ok (.ifCond .lt 40, 3) := zo_155 (b1 := 0) (b2 := 40) (zkb3 zk_cX12_text zn_cX12_text (by decide +kernel)) rfl
theorem dX12_text_42 : decode cX12_text 42 = .ok (.lload_n 2, 1) := zo_32 (zkb zk_cX12_text zn_cX12_text (by decide +kernel))
theorem dX12_text_43 : decode cX12_text 43 = .ok (.bipush 8, 2) := zo_16 (b1 := 8) (zkb2 zk_cX12_text zn_cX12_text (by decide +kernel)) rfl
theorem dX12_text_45 : decode cX12_text 45 = .ok (.lshl, 1) := zo_121 (zkb zk_cX12_text zn_cX12_text (by decide +kernel))
theorem dX12_text_46 : decode cX12_text 46 = .ok (.iload_n 1, 1) := zo_27 (zkb zk_cX12_text zn_cX12_text (by decide +kernel))
theorem dX12_text_47 : decode cX12_text 47 = .ok (.iload 4, 2) := zo_21 (b1 := 4) (zkb2 zk_cX12_text zn_cX12_text (by decide +kernel))
theorem dX12_text_49 : decode cX12_text 49 = .ok (.iadd, 1) := zo_96 (zkb zk_cX12_text zn_cX12_text (by decide +kernel))
theorem dX12_text_50 : decode cX12_text 50 = .ok (.aload_n 0, 1) := zo_42 (zkb zk_cX12_text zn_cX12_text (by decide +kernel))
theorem dX12_text_51 : decode cX12_text 51 = .ok (.getfield 458, 3) := zo_180 (b1 := 1) (b2 := 202) (zkb3 zk_cX12_text zn_cX12_text (by decide +kernel)) rfl
theorem dX12_text_54 : decode cX12_text 54 = .ok (.if_icmp .ge 15, 3) := zo_162 (b1 := 0) (b2 := 15) (zkb3 zk_cX12_text zn_cX12_text (by decide +kernel)) rfl
theorem dX12_text_57 : decode cX12_text 57 = .ok (.aload_n 0, 1) := zo_42 (zkb zk_cX12_text zn_cX12_text (by decide +kernel))
theorem dX12_text_58 : decode cX12_text 58 = .ok (.getfield 96, 3) := zo_180 (b1 := 0) (b2 := 96) (zkb3 zk_cX12_text zn_cX12_text (by decide +kernel)) rfl
theorem dX12_text_61 : decode cX12_text 61 = .ok (.iload_n 1, 1) := zo_27 (zkb zk_cX12_text zn_cX12_text (by decide +kernel))
theorem dX12_text_62 : decode cX12_text 62 = .ok (.iload 4, 2) := zo_21 (b1 := 4) (zkb2 zk_cX12_text zn_cX12_text (by decide +kernel))
theorem dX12_text_64 : decode cX12_text 64 = .ok (.iadd, 1) := zo_96 (zkb zk_cX12_text zn_cX12_text (by decide +kernel))
theorem dX12_text_65 : decode cX12_text 65 = .ok (.iaload, 1) := zo_46 (zkb zk_cX12_text zn_cX12_text (by decide +kernel))
theorem dX12_text_66 : decode cX12_text 66 = .ok (.goto 4, 3) := zo_167 (b1 := 0) (b2 := 4) (zkb3 zk_cX12_text zn_cX12_text (by decide +kernel)) rfl
theorem dX12_text_69 : decode cX12_text 69 = .ok (.iconst 0, 1) := zo_3 (zkb zk_cX12_text zn_cX12_text (by decide +kernel))
theorem dX12_text_70 : decode cX12_text 70 = .ok (.i2l, 1) := zo_133 (zkb zk_cX12_text zn_cX12_text (by decide +kernel))
theorem dX12_text_71 : decode cX12_text 71 = .ok (.lor, 1) := zo_129 (zkb zk_cX12_text zn_cX12_text (by decide +kernel))
theorem dX12_text_72 : decode cX12_text 72 = .ok (.lstore_n 2, 1) := zo_65 (zkb zk_cX12_text zn_cX12_text (by decide +kernel))
theorem dX12_text_73 : decode cX12_text 73 = .ok (.iinc 4 (-1), 3) := zo_132 (b1 := 4) (b2 := 255) (zkb3 zk_cX12_text zn_cX12_text (by decide +kernel)) rfl
theorem dX12_text_76 : decode cX12_text 76 = .ok (.goto (-39), 3) := zo_167 (b1 := 255) (b2 := 217) (zkb3 zk_cX12_text zn_cX12_text (by decide +kernel)) rfl
theorem dX12_text_79 : decode cX12_text 79 = .ok (.lload_n 2, 1) := zo_32 (zkb zk_cX12_text zn_cX12_text (by decide +kernel))
theorem dX12_text_80 : decode cX12_text 80 = .ok (.lreturn, 1) := zo_173 (zkb zk_cX12_text zn_cX12_text (by decide +kernel))
def rmX12_sayMore : Room := { frames := 7, cells := 0, slots := 0, locals := 181 }
def wzX12_sayMore : List Cond := .code yX12_sayMore cX12_sayMore 6 none :: wsL_law
def fX12_sayMore_325  (σ : zSt)  : Option (zSt) :=
  some σ
def fX12_sayMore_164  (σ : zSt)  : Option (zSt) :=
  zbu (fX12_say σ 162) (fun σ1 =>
  fX12_sayMore_325 σ1)
def fX12_sayMore_231  (σ : zSt) (x2 : Int32) (s0 : Nat) : Option (zSt) :=
  zbu (fX12_say σ s0) (fun σ2 =>
  zbu (fX12_sayRp σ2 (x2 >>> ((1 : Int32) &&& 31)) 0) (fun σ3 =>
  fX12_sayMore_325 σ3))
def fX12_sayMore_316  (σ : zSt)  : Option (zSt) :=
  fX12_sayMore_325 σ
def fX12_sayMore_286  (σ : zSt) (x2 : Int32) (x5 : Int32) : Option (zSt) :=
  zbu (fX12_say σ 83) (fun σ4 =>
  zck (decide (¬ 2 = 0)) (
  if (zrem x2 2) = 0 then zbu (fX12_sayRp σ4 (x2 >>> ((1 : Int32) &&& 31)) 0) (fun σ6 =>
  fX12_sayMore_316 σ6) else
  zbu (fX12_sayPlaced σ4 x5) (fun σ5 =>
  fX12_sayMore_316 σ5)))
def fX12_sayMore_119  (σ : zSt) (x2 : Int32) (x3 : Int32) (x4 : Int32) : Option (zSt) :=
  if x4 = 1 then if x3 = 0 then zbu (fX12_say σ 161) (fun σ16 =>
  if x2 = 6 then fX12_sayMore_164 σ16 else
  zbu (fX12_sayR σ16 x2) (fun σ17 =>
  zbu (fX12_say σ17 83) (fun σ18 =>
  fX12_sayMore_164 σ18))) else
  if x3 = 1 then zbu (fX12_say σ 163) (fun σ13 =>
  if x2 = 6 then zbu (fX12_say σ13 164) (fun σ15 =>
  fX12_sayMore_325 σ15) else
  zbu (fX12_sayR σ13 x2) (fun σ14 =>
  fX12_sayMore_325 σ14)) else
  if x3 = 2 then zck (decide (¬ 2 = 0)) (
  if (zrem x2 2) = 0 then fX12_sayMore_231 σ x2 165 else
  fX12_sayMore_231 σ x2 166) else
  if x3 = 3 then zbu (fX12_say σ 111) (fun σ8 =>
  zbi (fX12_takenWord σ8 ) (fun σ9 v10 =>
  zck (decide (¬ 2 = 0)) (
  if (zrem x2 2) = 0 then zbu (fX12_sayPlaced σ9 v10) (fun σ12 =>
  fX12_sayMore_286 σ12 x2 v10) else
  zbu (fX12_sayRp σ9 (x2 >>> ((1 : Int32) &&& 31)) 0) (fun σ11 =>
  fX12_sayMore_286 σ11 x2 v10)))) else
  zbu (fX12_sayOdd σ x2 x3) (fun σ7 =>
  fX12_sayMore_325 σ7) else
  zbu (fX12_say σ 71) (fun σ19 =>
  fX12_sayMore_325 σ19)
def fX12_sayMore_101  (σ : zSt) (x2 : Int32) (s0 : Nat) : Option (zSt) :=
  zbu (fX12_say σ s0) (fun σ20 =>
  if x2 ≤ 5 then fX12_sayMore_325 σ20 else
  zbu (fX12_say σ20 160) (fun σ21 =>
  fX12_sayMore_325 σ21))
def fX12_sayMore_82  (σ : zSt) (x2 : Int32) (s0 : Nat) : Option (zSt) :=
  zbu (fX12_say σ s0) (fun σ22 =>
  zck (decide (¬ 2 = 0)) (
  if (zrem x2 2) = 0 then fX12_sayMore_101 σ22 x2 159 else
  fX12_sayMore_101 σ22 x2 95))
def fX12_sayMore  (σ : zSt) (x1 : Int32) : Option (zSt) :=
  zbv ((x1 >>> ((3 : Int32) &&& 31)) &&& 7) (fun v23 =>
  zbv (x1 &&& 7) (fun v24 =>
  zbv (x1 >>> ((6 : Int32) &&& 31)) (fun v25 =>
  if v25 = 2 then if v23 ≤ 3 then fX12_sayMore_119 σ v23 v24 v25 else
  if 4 ≤ v24 then fX12_sayMore_119 σ v23 v24 v25 else
  if v24 = 0 then fX12_sayMore_82 σ v23 154 else
  if v24 = 1 then fX12_sayMore_82 σ v23 155 else
  if v24 = 2 then fX12_sayMore_82 σ v23 156 else
  if 6 ≤ v23 then fX12_sayMore_82 σ v23 158 else
  fX12_sayMore_82 σ v23 157 else
  fX12_sayMore_119 σ v23 v24 v25)))
set_option maxRecDepth 20000 in
set_option maxHeartbeats 4000000 in
theorem bX12_sayMore_325 {st : Nat → Nat} {p : Program} {l : Launch} {e : Env} {s : State} {m : MethodId} {args : Array Value} {below : List Frame} {meth : Method} {c : Code} {D : va_G} {A : Nat → Prop} {ad : Nat → Nat} {cy : Nat → ClassId} (hC : zC p m c cX12_sayMore 6 s args wzX12_sayMore RX12 meth none)  {res : zSt} {H : Heap} {locs : List Loc} {σ : zSt} {ls : Array Slot}  (hI : zI st D (tM cy) (wM ad cy σ) A s H locs) (hl : lv_has ls 6 []) (hf : fX12_sayMore_325  σ  = some res) : W p l e rmX12_sayMore s m args below meth c H locs 0 0 (zQu below args s D (tM cy) (wM ad cy) A res) (F0 m 325 ls []) := by
  have hx := hC.1
  have hb := hC.2.1
  unfold fX12_sayMore_325 at hf
  exact z_return hC hI hf dX12_sayMore_325
set_option maxRecDepth 20000 in
set_option maxHeartbeats 4000000 in
theorem bX12_sayMore_164 {st : Nat → Nat} {p : Program} {l : Launch} {e : Env} {s : State} {m : MethodId} {args : Array Value} {below : List Frame} {meth : Method} {c : Code} {D : va_G} {A : Nat → Prop} {ad : Nat → Nat} {cy : Nat → ClassId} (hC : zC p m c cX12_sayMore 6 s args wzX12_sayMore RX12 meth none)  {res : zSt} {H : Heap} {locs : List Loc} {σ : zSt} {ls : Array Slot}  (hI : zI st D (tM cy) (wM ad cy σ) A s H locs) (hl : lv_has ls 6 [(0, .ref (ad 0))]) (hf : fX12_sayMore_164  σ  = some res) : W p l e rmX12_sayMore s m args below meth c H locs 0 0 (zQu below args s D (tM cy) (wM ad cy) A res) (F0 m 164 ls []) := by
  have hx := hC.1
  have hb := hC.2.1
  unfold fX12_sayMore_164 at hf
  refine lv_aload_n hx hb dX12_sayMore_164 rfl (lv_at hl 0 rfl) ?_
  refine z_ldcSW hC hI 162 (by decide) rfl rfl dX12_sayMore_165 ?_
  obtain ⟨σ1, g1, hf⟩ := zbu_use hf
  refine z_callVu (As := [.ref (st (100 + 162))]) (rest := []) hC hI (cX12_say_met st l D ad cy σ 162 _ g1) (zgV zw74_23 zw75_0 zw75_1 zw1_5 zw75_2) rfl ⟨rfl, rfl⟩ 1 hdX12_say ⟨Nat.le_of_ble_eq_true rfl, Nat.le_of_ble_eq_true rfl⟩ rfl rfl (wM_e0 ad cy σ) rfl hl rfl (Nat.le_of_ble_eq_true rfl) dX12_sayMore_168 ⟨Nat.zero_le _, Nat.zero_le _⟩ (fun H locs hI => ?_)
  refine lv_goto (tgt := 325) hx hb dX12_sayMore_171 (by decide) ?_
  exact bX12_sayMore_325 hC  hI (lv_sub hl [] rfl) hf
set_option maxRecDepth 20000 in
set_option maxHeartbeats 4000000 in
theorem bX12_sayMore_231 {st : Nat → Nat} {p : Program} {l : Launch} {e : Env} {s : State} {m : MethodId} {args : Array Value} {below : List Frame} {meth : Method} {c : Code} {D : va_G} {A : Nat → Prop} {ad : Nat → Nat} {cy : Nat → ClassId} (hC : zC p m c cX12_sayMore 6 s args wzX12_sayMore RX12 meth none)  {res : zSt} {H : Heap} {locs : List Loc} {σ : zSt} {ls : Array Slot} {x2 : Int32} {s0 : Nat} (hI : zI st D (tM cy) (wM ad cy σ) A s H locs) (hl : lv_has ls 6 [(0, .ref (ad 0)), (2, .int x2)]) (hf : fX12_sayMore_231  σ x2 s0 = some res) : W p l e rmX12_sayMore s m args below meth c H locs 0 0 (zQu below args s D (tM cy) (wM ad cy) A res) (F0 m 231 ls [.ref (st (100 + s0)), .ref (ad 0)]) := by
  have hx := hC.1
  have hb := hC.2.1
  unfold fX12_sayMore_231 at hf
  obtain ⟨σ2, g2, hf⟩ := zbu_use hf
  refine z_callVu (As := [.ref (st (100 + s0))]) (rest := []) hC hI (cX12_say_met st l D ad cy σ s0 _ g2) (zgV zw74_23 zw75_0 zw75_1 zw1_5 zw75_2) rfl ⟨rfl, rfl⟩ 1 hdX12_say ⟨Nat.le_of_ble_eq_true rfl, Nat.le_of_ble_eq_true rfl⟩ rfl rfl (wM_e0 ad cy σ) rfl hl rfl (Nat.le_of_ble_eq_true rfl) dX12_sayMore_231 ⟨Nat.zero_le _, Nat.zero_le _⟩ (fun H locs hI => ?_)
  refine lv_aload_n hx hb dX12_sayMore_234 rfl (lv_at hl 0 rfl) ?_
  refine lv_iload_n hx hb dX12_sayMore_235 rfl (lv_at hl 1 rfl) ?_
  refine lv_iconst (v := 1) hx hb dX12_sayMore_236 (by decide) ?_
  refine lv_ishr hx hb dX12_sayMore_237 ?_
  refine lv_iconst (v := 0) hx hb dX12_sayMore_238 (by decide) ?_
  obtain ⟨σ3, g3, hf⟩ := zbu_use hf
  refine z_callVu (As := [.int (x2 >>> ((1 : Int32) &&& 31)), .int 0]) (rest := []) hC hI (cX12_sayRp_met st l D ad cy σ2 (x2 >>> ((1 : Int32) &&& 31)) 0 _ g3) (zgV zw76_16 zw76_17 zw76_18 zw1_5 zw76_19) rfl ⟨rfl, rfl⟩ 2 hdX12_sayRp ⟨Nat.le_of_ble_eq_true rfl, Nat.le_of_ble_eq_true rfl⟩ rfl rfl (wM_e0 ad cy σ2) rfl hl rfl (Nat.le_of_ble_eq_true rfl) dX12_sayMore_239 ⟨Nat.zero_le _, Nat.zero_le _⟩ (fun H locs hI => ?_)
  refine lv_goto (tgt := 325) hx hb dX12_sayMore_242 (by decide) ?_
  exact bX12_sayMore_325 hC  hI (lv_sub hl [] rfl) hf
set_option maxRecDepth 20000 in
set_option maxHeartbeats 4000000 in
theorem bX12_sayMore_316 {st : Nat → Nat} {p : Program} {l : Launch} {e : Env} {s : State} {m : MethodId} {args : Array Value} {below : List Frame} {meth : Method} {c : Code} {D : va_G} {A : Nat → Prop} {ad : Nat → Nat} {cy : Nat → ClassId} (hC : zC p m c cX12_sayMore 6 s args wzX12_sayMore RX12 meth none)  {res : zSt} {H : Heap} {locs : List Loc} {σ : zSt} {ls : Array Slot}  (hI : zI st D (tM cy) (wM ad cy σ) A s H locs) (hl : lv_has ls 6 []) (hf : fX12_sayMore_316  σ  = some res) : W p l e rmX12_sayMore s m args below meth c H locs 0 0 (zQu below args s D (tM cy) (wM ad cy) A res) (F0 m 316 ls []) := by
  have hx := hC.1
  have hb := hC.2.1
  unfold fX12_sayMore_316 at hf
  refine lv_goto (tgt := 325) hx hb dX12_sayMore_316 (by decide) ?_
  exact bX12_sayMore_325 hC  hI hl hf
set_option maxRecDepth 20000 in
set_option maxHeartbeats 4000000 in
theorem bX12_sayMore_286 {st : Nat → Nat} {p : Program} {l : Launch} {e : Env} {s : State} {m : MethodId} {args : Array Value} {below : List Frame} {meth : Method} {c : Code} {D : va_G} {A : Nat → Prop} {ad : Nat → Nat} {cy : Nat → ClassId} (hC : zC p m c cX12_sayMore 6 s args wzX12_sayMore RX12 meth none)  {res : zSt} {H : Heap} {locs : List Loc} {σ : zSt} {ls : Array Slot} {x2 : Int32} {x5 : Int32} (hI : zI st D (tM cy) (wM ad cy σ) A s H locs) (hl : lv_has ls 6 [(0, .ref (ad 0)), (2, .int x2), (5, .int x5)]) (hf : fX12_sayMore_286  σ x2 x5 = some res) : W p l e rmX12_sayMore s m args below meth c H locs 0 0 (zQu below args s D (tM cy) (wM ad cy) A res) (F0 m 286 ls []) := by
  have hx := hC.1
  have hb := hC.2.1
  unfold fX12_sayMore_286 at hf
  refine lv_aload_n hx hb dX12_sayMore_286 rfl (lv_at hl 0 rfl) ?_
  refine z_ldcSW hC hI 83 (by decide) rfl rfl dX12_sayMore_287 ?_
  obtain ⟨σ4, g4, hf⟩ := zbu_use hf
  refine z_callVu (As := [.ref (st (100 + 83))]) (rest := []) hC hI (cX12_say_met st l D ad cy σ 83 _ g4) (zgV zw74_23 zw75_0 zw75_1 zw1_5 zw75_2) rfl ⟨rfl, rfl⟩ 1 hdX12_say ⟨Nat.le_of_ble_eq_true rfl, Nat.le_of_ble_eq_true rfl⟩ rfl rfl (wM_e0 ad cy σ) rfl hl rfl (Nat.le_of_ble_eq_true rfl) dX12_sayMore_290 ⟨Nat.zero_le _, Nat.zero_le _⟩ (fun H locs hI => ?_)
  refine lv_iload_n hx hb dX12_sayMore_293 rfl (lv_at hl 1 rfl) ?_
  refine lv_iconst (v := 2) hx hb dX12_sayMore_294 (by decide) ?_
  obtain ⟨q, hf⟩ := zck_use hf
  refine z_irem hx hb dX12_sayMore_295 (of_decide_eq_true q) ?_
  refine lv_if_ne (tgt := 310) hx hb dX12_sayMore_296 (by decide) (fun q => ?_) (fun q => ?_)
  · replace hf := zif_f q hf
    refine lv_aload_n hx hb dX12_sayMore_310 rfl (lv_at hl 0 rfl) ?_
    refine lv_iload hx hb dX12_sayMore_311 (lv_at hl 2 rfl) ?_
    obtain ⟨σ5, g5, hf⟩ := zbu_use hf
    refine z_callVu (As := [.int x5]) (rest := []) hC hI (cX12_sayPlaced_met st l D ad cy σ4 x5 _ g5) (zgV zw77_0 zw77_1 zw77_2 zw1_5 zw77_3) rfl ⟨rfl, rfl⟩ 1 hdX12_sayPlaced ⟨Nat.le_of_ble_eq_true rfl, Nat.le_of_ble_eq_true rfl⟩ rfl rfl (wM_e0 ad cy σ4) rfl hl rfl (Nat.le_of_ble_eq_true rfl) dX12_sayMore_313 ⟨Nat.zero_le _, Nat.zero_le _⟩ (fun H locs hI => ?_)
    exact bX12_sayMore_316 hC  hI (lv_sub hl [] rfl) hf
  replace hf := zif_t q hf
  refine lv_aload_n hx hb dX12_sayMore_299 rfl (lv_at hl 0 rfl) ?_
  refine lv_iload_n hx hb dX12_sayMore_300 rfl (lv_at hl 1 rfl) ?_
  refine lv_iconst (v := 1) hx hb dX12_sayMore_301 (by decide) ?_
  refine lv_ishr hx hb dX12_sayMore_302 ?_
  refine lv_iconst (v := 0) hx hb dX12_sayMore_303 (by decide) ?_
  obtain ⟨σ6, g6, hf⟩ := zbu_use hf
  refine z_callVu (As := [.int (x2 >>> ((1 : Int32) &&& 31)), .int 0]) (rest := []) hC hI (cX12_sayRp_met st l D ad cy σ4 (x2 >>> ((1 : Int32) &&& 31)) 0 _ g6) (zgV zw76_16 zw76_17 zw76_18 zw1_5 zw76_19) rfl ⟨rfl, rfl⟩ 2 hdX12_sayRp ⟨Nat.le_of_ble_eq_true rfl, Nat.le_of_ble_eq_true rfl⟩ rfl rfl (wM_e0 ad cy σ4) rfl hl rfl (Nat.le_of_ble_eq_true rfl) dX12_sayMore_304 ⟨Nat.zero_le _, Nat.zero_le _⟩ (fun H locs hI => ?_)
  refine lv_goto (tgt := 316) hx hb dX12_sayMore_307 (by decide) ?_
  exact bX12_sayMore_316 hC  hI (lv_sub hl [] rfl) hf
set_option maxRecDepth 20000 in
set_option maxHeartbeats 4000000 in
theorem bX12_sayMore_119 {st : Nat → Nat} {p : Program} {l : Launch} {e : Env} {s : State} {m : MethodId} {args : Array Value} {below : List Frame} {meth : Method} {c : Code} {D : va_G} {A : Nat → Prop} {ad : Nat → Nat} {cy : Nat → ClassId} (hC : zC p m c cX12_sayMore 6 s args wzX12_sayMore RX12 meth none)  {res : zSt} {H : Heap} {locs : List Loc} {σ : zSt} {ls : Array Slot} {x2 : Int32} {x3 : Int32} {x4 : Int32} (hI : zI st D (tM cy) (wM ad cy σ) A s H locs) (hl : lv_has ls 6 [(0, .ref (ad 0)), (2, .int x2), (3, .int x3), (4, .int x4)]) (hf : fX12_sayMore_119  σ x2 x3 x4 = some res) : W p l e rmX12_sayMore s m args below meth c H locs 0 0 (zQu below args s D (tM cy) (wM ad cy) A res) (F0 m 119 ls []) := by
  have hx := hC.1
  have hb := hC.2.1
  unfold fX12_sayMore_119 at hf
  refine lv_iload hx hb dX12_sayMore_119 (lv_at hl 3 rfl) ?_
  refine lv_iconst (v := 1) hx hb dX12_sayMore_121 (by decide) ?_
  refine lv_icmp_eq (tgt := 135) hx hb dX12_sayMore_122 (by decide) (fun q => ?_) (fun q => ?_)
  · replace hf := zif_t q hf
    refine lv_iload_n hx hb dX12_sayMore_135 rfl (lv_at hl 2 rfl) ?_
    refine lv_if_ne (tgt := 174) hx hb dX12_sayMore_136 (by decide) (fun q => ?_) (fun q => ?_)
    · replace hf := zif_f q hf
      refine lv_iload_n hx hb dX12_sayMore_174 rfl (lv_at hl 2 rfl) ?_
      refine lv_iconst (v := 1) hx hb dX12_sayMore_175 (by decide) ?_
      refine lv_icmp_ne (tgt := 210) hx hb dX12_sayMore_176 (by decide) (fun q => ?_) (fun q => ?_)
      · replace hf := zif_f q hf
        refine lv_iload_n hx hb dX12_sayMore_210 rfl (lv_at hl 2 rfl) ?_
        refine lv_iconst (v := 2) hx hb dX12_sayMore_211 (by decide) ?_
        refine lv_icmp_ne (tgt := 245) hx hb dX12_sayMore_212 (by decide) (fun q => ?_) (fun q => ?_)
        · replace hf := zif_f q hf
          refine lv_iload_n hx hb dX12_sayMore_245 rfl (lv_at hl 2 rfl) ?_
          refine lv_iconst (v := 3) hx hb dX12_sayMore_246 (by decide) ?_
          refine lv_icmp_ne (tgt := 319) hx hb dX12_sayMore_247 (by decide) (fun q => ?_) (fun q => ?_)
          · replace hf := zif_f q hf
            refine lv_aload_n hx hb dX12_sayMore_319 rfl (lv_at hl 0 rfl) ?_
            refine lv_iload_n hx hb dX12_sayMore_320 rfl (lv_at hl 1 rfl) ?_
            refine lv_iload_n hx hb dX12_sayMore_321 rfl (lv_at hl 2 rfl) ?_
            obtain ⟨σ7, g7, hf⟩ := zbu_use hf
            refine z_callVu (As := [.int x2, .int x3]) (rest := []) hC hI (cX12_sayOdd_met st l D ad cy σ x2 x3 _ g7) (zgV zw78_0 zw78_1 zw78_2 zw1_5 zw78_3) rfl ⟨rfl, rfl⟩ 2 hdX12_sayOdd ⟨Nat.le_of_ble_eq_true rfl, Nat.le_of_ble_eq_true rfl⟩ rfl rfl (wM_e0 ad cy σ) rfl hl rfl (Nat.le_of_ble_eq_true rfl) dX12_sayMore_322 ⟨Nat.zero_le _, Nat.zero_le _⟩ (fun H locs hI => ?_)
            exact bX12_sayMore_325 hC  hI (lv_sub hl [] rfl) hf
          replace hf := zif_t q hf
          refine lv_aload_n hx hb dX12_sayMore_250 rfl (lv_at hl 0 rfl) ?_
          refine z_ldcSW hC hI 111 (by decide) rfl rfl dX12_sayMore_251 ?_
          obtain ⟨σ8, g8, hf⟩ := zbu_use hf
          refine z_callVu (As := [.ref (st (100 + 111))]) (rest := []) hC hI (cX12_say_met st l D ad cy σ 111 _ g8) (zgV zw74_23 zw75_0 zw75_1 zw1_5 zw75_2) rfl ⟨rfl, rfl⟩ 1 hdX12_say ⟨Nat.le_of_ble_eq_true rfl, Nat.le_of_ble_eq_true rfl⟩ rfl rfl (wM_e0 ad cy σ) rfl hl rfl (Nat.le_of_ble_eq_true rfl) dX12_sayMore_254 ⟨Nat.zero_le _, Nat.zero_le _⟩ (fun H locs hI => ?_)
          refine lv_aload_n hx hb dX12_sayMore_257 rfl (lv_at hl 0 rfl) ?_
          obtain ⟨σ9, v10, g9, hf⟩ := zbi_use hf
          refine z_callVi (As := []) (rest := []) hC hI (cX12_takenWord_met st l D ad cy σ8  _ g9) (zgV zw76_20 zw76_21 zw76_22 zw1_5 zw76_23) rfl ⟨rfl, rfl⟩ 0 hdX12_takenWord ⟨Nat.le_of_ble_eq_true rfl, Nat.le_of_ble_eq_true rfl⟩ rfl rfl (wM_e0 ad cy σ8) rfl hl rfl (Nat.le_of_ble_eq_true rfl) dX12_sayMore_258 ⟨Nat.zero_le _, Nat.zero_le _⟩ (fun H locs hI => ?_)
          refine lv_istore (lv' := [(5, .int v10), (0, .ref (ad 0)), (2, .int x2), (3, .int x3), (4, .int x4)]) hx hb dX12_sayMore_261 hl (by decide) rfl (fun ls hl => ?_)
          refine lv_iload_n hx hb dX12_sayMore_263 rfl (lv_at hl 2 rfl) ?_
          refine lv_iconst (v := 2) hx hb dX12_sayMore_264 (by decide) ?_
          obtain ⟨q, hf⟩ := zck_use hf
          refine z_irem hx hb dX12_sayMore_265 (of_decide_eq_true q) ?_
          refine lv_if_ne (tgt := 278) hx hb dX12_sayMore_266 (by decide) (fun q => ?_) (fun q => ?_)
          · replace hf := zif_f q hf
            refine lv_aload_n hx hb dX12_sayMore_278 rfl (lv_at hl 1 rfl) ?_
            refine lv_iload_n hx hb dX12_sayMore_279 rfl (lv_at hl 2 rfl) ?_
            refine lv_iconst (v := 1) hx hb dX12_sayMore_280 (by decide) ?_
            refine lv_ishr hx hb dX12_sayMore_281 ?_
            refine lv_iconst (v := 0) hx hb dX12_sayMore_282 (by decide) ?_
            obtain ⟨σ11, g11, hf⟩ := zbu_use hf
            refine z_callVu (As := [.int (x2 >>> ((1 : Int32) &&& 31)), .int 0]) (rest := []) hC hI (cX12_sayRp_met st l D ad cy σ9 (x2 >>> ((1 : Int32) &&& 31)) 0 _ g11) (zgV zw76_16 zw76_17 zw76_18 zw1_5 zw76_19) rfl ⟨rfl, rfl⟩ 2 hdX12_sayRp ⟨Nat.le_of_ble_eq_true rfl, Nat.le_of_ble_eq_true rfl⟩ rfl rfl (wM_e0 ad cy σ9) rfl hl rfl (Nat.le_of_ble_eq_true rfl) dX12_sayMore_283 ⟨Nat.zero_le _, Nat.zero_le _⟩ (fun H locs hI => ?_)
            exact bX12_sayMore_286 hC  hI (lv_sub hl [1, 2, 0] rfl) hf
          replace hf := zif_t q hf
          refine lv_aload_n hx hb dX12_sayMore_269 rfl (lv_at hl 1 rfl) ?_
          refine lv_iload hx hb dX12_sayMore_270 (lv_at hl 0 rfl) ?_
          obtain ⟨σ12, g12, hf⟩ := zbu_use hf
          refine z_callVu (As := [.int v10]) (rest := []) hC hI (cX12_sayPlaced_met st l D ad cy σ9 v10 _ g12) (zgV zw77_0 zw77_1 zw77_2 zw1_5 zw77_3) rfl ⟨rfl, rfl⟩ 1 hdX12_sayPlaced ⟨Nat.le_of_ble_eq_true rfl, Nat.le_of_ble_eq_true rfl⟩ rfl rfl (wM_e0 ad cy σ9) rfl hl rfl (Nat.le_of_ble_eq_true rfl) dX12_sayMore_272 ⟨Nat.zero_le _, Nat.zero_le _⟩ (fun H locs hI => ?_)
          refine lv_goto (tgt := 286) hx hb dX12_sayMore_275 (by decide) ?_
          exact bX12_sayMore_286 hC  hI (lv_sub hl [1, 2, 0] rfl) hf
        replace hf := zif_t q hf
        refine lv_aload_n hx hb dX12_sayMore_215 rfl (lv_at hl 0 rfl) ?_
        refine lv_iload_n hx hb dX12_sayMore_216 rfl (lv_at hl 1 rfl) ?_
        refine lv_iconst (v := 2) hx hb dX12_sayMore_217 (by decide) ?_
        obtain ⟨q, hf⟩ := zck_use hf
        refine z_irem hx hb dX12_sayMore_218 (of_decide_eq_true q) ?_
        refine lv_if_ne (tgt := 228) hx hb dX12_sayMore_219 (by decide) (fun q => ?_) (fun q => ?_)
        · replace hf := zif_f q hf
          refine z_ldcSW hC hI 166 (by decide) rfl rfl dX12_sayMore_228 ?_
          exact bX12_sayMore_231 hC  hI (lv_sub hl [0, 1] rfl) hf
        replace hf := zif_t q hf
        refine z_ldcSW hC hI 165 (by decide) rfl rfl dX12_sayMore_222 ?_
        refine lv_goto (tgt := 231) hx hb dX12_sayMore_225 (by decide) ?_
        exact bX12_sayMore_231 hC  hI (lv_sub hl [0, 1] rfl) hf
      replace hf := zif_t q hf
      refine lv_aload_n hx hb dX12_sayMore_179 rfl (lv_at hl 0 rfl) ?_
      refine z_ldcSW hC hI 163 (by decide) rfl rfl dX12_sayMore_180 ?_
      obtain ⟨σ13, g13, hf⟩ := zbu_use hf
      refine z_callVu (As := [.ref (st (100 + 163))]) (rest := []) hC hI (cX12_say_met st l D ad cy σ 163 _ g13) (zgV zw74_23 zw75_0 zw75_1 zw1_5 zw75_2) rfl ⟨rfl, rfl⟩ 1 hdX12_say ⟨Nat.le_of_ble_eq_true rfl, Nat.le_of_ble_eq_true rfl⟩ rfl rfl (wM_e0 ad cy σ) rfl hl rfl (Nat.le_of_ble_eq_true rfl) dX12_sayMore_183 ⟨Nat.zero_le _, Nat.zero_le _⟩ (fun H locs hI => ?_)
      refine lv_iload_n hx hb dX12_sayMore_186 rfl (lv_at hl 1 rfl) ?_
      refine lv_bipush (v := 6) hx hb dX12_sayMore_187 (by decide) ?_
      refine lv_icmp_ne (tgt := 202) hx hb dX12_sayMore_189 (by decide) (fun q => ?_) (fun q => ?_)
      · replace hf := zif_f q hf
        refine lv_aload_n hx hb dX12_sayMore_202 rfl (lv_at hl 0 rfl) ?_
        refine lv_iload_n hx hb dX12_sayMore_203 rfl (lv_at hl 1 rfl) ?_
        obtain ⟨σ14, g14, hf⟩ := zbu_use hf
        refine z_callVu (As := [.int x2]) (rest := []) hC hI (cX12_sayR_met st l D ad cy σ13 x2 _ g14) (zgV zw75_12 zw75_13 zw75_14 zw1_5 zw75_15) rfl ⟨rfl, rfl⟩ 1 hdX12_sayR ⟨Nat.le_of_ble_eq_true rfl, Nat.le_of_ble_eq_true rfl⟩ rfl rfl (wM_e0 ad cy σ13) rfl hl rfl (Nat.le_of_ble_eq_true rfl) dX12_sayMore_204 ⟨Nat.zero_le _, Nat.zero_le _⟩ (fun H locs hI => ?_)
        refine lv_goto (tgt := 325) hx hb dX12_sayMore_207 (by decide) ?_
        exact bX12_sayMore_325 hC  hI (lv_sub hl [] rfl) hf
      replace hf := zif_t q hf
      refine lv_aload_n hx hb dX12_sayMore_192 rfl (lv_at hl 0 rfl) ?_
      refine z_ldcSW hC hI 164 (by decide) rfl rfl dX12_sayMore_193 ?_
      obtain ⟨σ15, g15, hf⟩ := zbu_use hf
      refine z_callVu (As := [.ref (st (100 + 164))]) (rest := []) hC hI (cX12_say_met st l D ad cy σ13 164 _ g15) (zgV zw74_23 zw75_0 zw75_1 zw1_5 zw75_2) rfl ⟨rfl, rfl⟩ 1 hdX12_say ⟨Nat.le_of_ble_eq_true rfl, Nat.le_of_ble_eq_true rfl⟩ rfl rfl (wM_e0 ad cy σ13) rfl hl rfl (Nat.le_of_ble_eq_true rfl) dX12_sayMore_196 ⟨Nat.zero_le _, Nat.zero_le _⟩ (fun H locs hI => ?_)
      refine lv_goto (tgt := 325) hx hb dX12_sayMore_199 (by decide) ?_
      exact bX12_sayMore_325 hC  hI (lv_sub hl [] rfl) hf
    replace hf := zif_t q hf
    refine lv_aload_n hx hb dX12_sayMore_139 rfl (lv_at hl 0 rfl) ?_
    refine z_ldcSW hC hI 161 (by decide) rfl rfl dX12_sayMore_140 ?_
    obtain ⟨σ16, g16, hf⟩ := zbu_use hf
    refine z_callVu (As := [.ref (st (100 + 161))]) (rest := []) hC hI (cX12_say_met st l D ad cy σ 161 _ g16) (zgV zw74_23 zw75_0 zw75_1 zw1_5 zw75_2) rfl ⟨rfl, rfl⟩ 1 hdX12_say ⟨Nat.le_of_ble_eq_true rfl, Nat.le_of_ble_eq_true rfl⟩ rfl rfl (wM_e0 ad cy σ) rfl hl rfl (Nat.le_of_ble_eq_true rfl) dX12_sayMore_143 ⟨Nat.zero_le _, Nat.zero_le _⟩ (fun H locs hI => ?_)
    refine lv_iload_n hx hb dX12_sayMore_146 rfl (lv_at hl 1 rfl) ?_
    refine lv_bipush (v := 6) hx hb dX12_sayMore_147 (by decide) ?_
    refine lv_icmp_eq (tgt := 164) hx hb dX12_sayMore_149 (by decide) (fun q => ?_) (fun q => ?_)
    · replace hf := zif_t q hf
      exact bX12_sayMore_164 hC  hI (lv_sub hl [0] rfl) hf
    replace hf := zif_f q hf
    refine lv_aload_n hx hb dX12_sayMore_152 rfl (lv_at hl 0 rfl) ?_
    refine lv_iload_n hx hb dX12_sayMore_153 rfl (lv_at hl 1 rfl) ?_
    obtain ⟨σ17, g17, hf⟩ := zbu_use hf
    refine z_callVu (As := [.int x2]) (rest := []) hC hI (cX12_sayR_met st l D ad cy σ16 x2 _ g17) (zgV zw75_12 zw75_13 zw75_14 zw1_5 zw75_15) rfl ⟨rfl, rfl⟩ 1 hdX12_sayR ⟨Nat.le_of_ble_eq_true rfl, Nat.le_of_ble_eq_true rfl⟩ rfl rfl (wM_e0 ad cy σ16) rfl hl rfl (Nat.le_of_ble_eq_true rfl) dX12_sayMore_154 ⟨Nat.zero_le _, Nat.zero_le _⟩ (fun H locs hI => ?_)
    refine lv_aload_n hx hb dX12_sayMore_157 rfl (lv_at hl 0 rfl) ?_
    refine z_ldcSW hC hI 83 (by decide) rfl rfl dX12_sayMore_158 ?_
    obtain ⟨σ18, g18, hf⟩ := zbu_use hf
    refine z_callVu (As := [.ref (st (100 + 83))]) (rest := []) hC hI (cX12_say_met st l D ad cy σ17 83 _ g18) (zgV zw74_23 zw75_0 zw75_1 zw1_5 zw75_2) rfl ⟨rfl, rfl⟩ 1 hdX12_say ⟨Nat.le_of_ble_eq_true rfl, Nat.le_of_ble_eq_true rfl⟩ rfl rfl (wM_e0 ad cy σ17) rfl hl rfl (Nat.le_of_ble_eq_true rfl) dX12_sayMore_161 ⟨Nat.zero_le _, Nat.zero_le _⟩ (fun H locs hI => ?_)
    exact bX12_sayMore_164 hC  hI (lv_sub hl [0] rfl) hf
  replace hf := zif_f q hf
  refine lv_aload_n hx hb dX12_sayMore_125 rfl (lv_at hl 0 rfl) ?_
  refine z_ldcSW hC hI 71 (by decide) rfl rfl dX12_sayMore_126 ?_
  obtain ⟨σ19, g19, hf⟩ := zbu_use hf
  refine z_callVu (As := [.ref (st (100 + 71))]) (rest := []) hC hI (cX12_say_met st l D ad cy σ 71 _ g19) (zgV zw74_23 zw75_0 zw75_1 zw1_5 zw75_2) rfl ⟨rfl, rfl⟩ 1 hdX12_say ⟨Nat.le_of_ble_eq_true rfl, Nat.le_of_ble_eq_true rfl⟩ rfl rfl (wM_e0 ad cy σ) rfl hl rfl (Nat.le_of_ble_eq_true rfl) dX12_sayMore_129 ⟨Nat.zero_le _, Nat.zero_le _⟩ (fun H locs hI => ?_)
  refine lv_goto (tgt := 325) hx hb dX12_sayMore_132 (by decide) ?_
  exact bX12_sayMore_325 hC  hI (lv_sub hl [] rfl) hf
set_option maxRecDepth 20000 in
set_option maxHeartbeats 4000000 in
theorem bX12_sayMore_101 {st : Nat → Nat} {p : Program} {l : Launch} {e : Env} {s : State} {m : MethodId} {args : Array Value} {below : List Frame} {meth : Method} {c : Code} {D : va_G} {A : Nat → Prop} {ad : Nat → Nat} {cy : Nat → ClassId} (hC : zC p m c cX12_sayMore 6 s args wzX12_sayMore RX12 meth none)  {res : zSt} {H : Heap} {locs : List Loc} {σ : zSt} {ls : Array Slot} {x2 : Int32} {s0 : Nat} (hI : zI st D (tM cy) (wM ad cy σ) A s H locs) (hl : lv_has ls 6 [(0, .ref (ad 0)), (2, .int x2)]) (hf : fX12_sayMore_101  σ x2 s0 = some res) : W p l e rmX12_sayMore s m args below meth c H locs 0 0 (zQu below args s D (tM cy) (wM ad cy) A res) (F0 m 101 ls [.ref (st (100 + s0)), .ref (ad 0)]) := by
  have hx := hC.1
  have hb := hC.2.1
  unfold fX12_sayMore_101 at hf
  obtain ⟨σ20, g20, hf⟩ := zbu_use hf
  refine z_callVu (As := [.ref (st (100 + s0))]) (rest := []) hC hI (cX12_say_met st l D ad cy σ s0 _ g20) (zgV zw74_23 zw75_0 zw75_1 zw1_5 zw75_2) rfl ⟨rfl, rfl⟩ 1 hdX12_say ⟨Nat.le_of_ble_eq_true rfl, Nat.le_of_ble_eq_true rfl⟩ rfl rfl (wM_e0 ad cy σ) rfl hl rfl (Nat.le_of_ble_eq_true rfl) dX12_sayMore_101 ⟨Nat.zero_le _, Nat.zero_le _⟩ (fun H locs hI => ?_)
  refine lv_iload_n hx hb dX12_sayMore_104 rfl (lv_at hl 1 rfl) ?_
  refine lv_iconst (v := 5) hx hb dX12_sayMore_105 (by decide) ?_
  refine lv_icmp_le (tgt := 325) hx hb dX12_sayMore_106 (by decide) (fun q => ?_) (fun q => ?_)
  · replace hf := zif_t q hf
    exact bX12_sayMore_325 hC  hI (lv_sub hl [] rfl) hf
  replace hf := zif_f q hf
  refine lv_aload_n hx hb dX12_sayMore_109 rfl (lv_at hl 0 rfl) ?_
  refine z_ldcSW hC hI 160 (by decide) rfl rfl dX12_sayMore_110 ?_
  obtain ⟨σ21, g21, hf⟩ := zbu_use hf
  refine z_callVu (As := [.ref (st (100 + 160))]) (rest := []) hC hI (cX12_say_met st l D ad cy σ20 160 _ g21) (zgV zw74_23 zw75_0 zw75_1 zw1_5 zw75_2) rfl ⟨rfl, rfl⟩ 1 hdX12_say ⟨Nat.le_of_ble_eq_true rfl, Nat.le_of_ble_eq_true rfl⟩ rfl rfl (wM_e0 ad cy σ20) rfl hl rfl (Nat.le_of_ble_eq_true rfl) dX12_sayMore_113 ⟨Nat.zero_le _, Nat.zero_le _⟩ (fun H locs hI => ?_)
  refine lv_goto (tgt := 325) hx hb dX12_sayMore_116 (by decide) ?_
  exact bX12_sayMore_325 hC  hI (lv_sub hl [] rfl) hf
set_option maxRecDepth 20000 in
set_option maxHeartbeats 4000000 in
theorem bX12_sayMore_82 {st : Nat → Nat} {p : Program} {l : Launch} {e : Env} {s : State} {m : MethodId} {args : Array Value} {below : List Frame} {meth : Method} {c : Code} {D : va_G} {A : Nat → Prop} {ad : Nat → Nat} {cy : Nat → ClassId} (hC : zC p m c cX12_sayMore 6 s args wzX12_sayMore RX12 meth none)  {res : zSt} {H : Heap} {locs : List Loc} {σ : zSt} {ls : Array Slot} {x2 : Int32} {s0 : Nat} (hI : zI st D (tM cy) (wM ad cy σ) A s H locs) (hl : lv_has ls 6 [(0, .ref (ad 0)), (2, .int x2)]) (hf : fX12_sayMore_82  σ x2 s0 = some res) : W p l e rmX12_sayMore s m args below meth c H locs 0 0 (zQu below args s D (tM cy) (wM ad cy) A res) (F0 m 82 ls [.ref (st (100 + s0)), .ref (ad 0)]) := by
  have hx := hC.1
  have hb := hC.2.1
  unfold fX12_sayMore_82 at hf
  obtain ⟨σ22, g22, hf⟩ := zbu_use hf
  refine z_callVu (As := [.ref (st (100 + s0))]) (rest := []) hC hI (cX12_say_met st l D ad cy σ s0 _ g22) (zgV zw74_23 zw75_0 zw75_1 zw1_5 zw75_2) rfl ⟨rfl, rfl⟩ 1 hdX12_say ⟨Nat.le_of_ble_eq_true rfl, Nat.le_of_ble_eq_true rfl⟩ rfl rfl (wM_e0 ad cy σ) rfl hl rfl (Nat.le_of_ble_eq_true rfl) dX12_sayMore_82 ⟨Nat.zero_le _, Nat.zero_le _⟩ (fun H locs hI => ?_)
  refine lv_aload_n hx hb dX12_sayMore_85 rfl (lv_at hl 0 rfl) ?_
  refine lv_iload_n hx hb dX12_sayMore_86 rfl (lv_at hl 1 rfl) ?_
  refine lv_iconst (v := 2) hx hb dX12_sayMore_87 (by decide) ?_
  obtain ⟨q, hf⟩ := zck_use hf
  refine z_irem hx hb dX12_sayMore_88 (of_decide_eq_true q) ?_
  refine lv_if_ne (tgt := 98) hx hb dX12_sayMore_89 (by decide) (fun q => ?_) (fun q => ?_)
  · replace hf := zif_f q hf
    refine z_ldcSW hC hI 95 (by decide) rfl rfl dX12_sayMore_98 ?_
    exact bX12_sayMore_101 hC  hI hl hf
  replace hf := zif_t q hf
  refine z_ldcSW hC hI 159 (by decide) rfl rfl dX12_sayMore_92 ?_
  refine lv_goto (tgt := 101) hx hb dX12_sayMore_95 (by decide) ?_
  exact bX12_sayMore_101 hC  hI hl hf
set_option maxRecDepth 20000 in
set_option maxHeartbeats 4000000 in
theorem bX12_sayMore {st : Nat → Nat} {p : Program} {l : Launch} {e : Env} {s : State} {m : MethodId} {args : Array Value} {below : List Frame} {meth : Method} {c : Code} {D : va_G} {A : Nat → Prop} {ad : Nat → Nat} {cy : Nat → ClassId} (hC : zC p m c cX12_sayMore 6 s args wzX12_sayMore RX12 meth none)  {res : zSt} {H : Heap} {locs : List Loc} {σ : zSt} {ls : Array Slot} {x1 : Int32} (hI : zI st D (tM cy) (wM ad cy σ) A s H locs) (hl : lv_has ls 6 [(0, .ref (ad 0)), (1, .int x1)]) (hf : fX12_sayMore  σ x1 = some res) : W p l e rmX12_sayMore s m args below meth c H locs 0 0 (zQu below args s D (tM cy) (wM ad cy) A res) (F0 m 0 ls []) := by
  have hx := hC.1
  have hb := hC.2.1
  unfold fX12_sayMore at hf
  refine lv_iload_n hx hb dX12_sayMore_0 rfl (lv_at hl 1 rfl) ?_
  refine lv_iconst (v := 3) hx hb dX12_sayMore_1 (by decide) ?_
  refine lv_ishr hx hb dX12_sayMore_2 ?_
  refine lv_bipush (v := 7) hx hb dX12_sayMore_3 (by decide) ?_
  refine lv_iand hx hb dX12_sayMore_5 ?_
  refine lv_topi (fun v23 ev23 => ?_)
  replace hf := zbv_use ev23 hf
  refine lv_istore_n (lv' := [(2, .int v23), (0, .ref (ad 0)), (1, .int x1)]) hx hb dX12_sayMore_6 rfl hl (by decide) rfl (fun ls hl => ?_)
  refine lv_iload_n hx hb dX12_sayMore_7 rfl (lv_at hl 2 rfl) ?_
  refine lv_bipush (v := 7) hx hb dX12_sayMore_8 (by decide) ?_
  refine lv_iand hx hb dX12_sayMore_10 ?_
  refine lv_topi (fun v24 ev24 => ?_)
  replace hf := zbv_use ev24 hf
  refine lv_istore_n (lv' := [(3, .int v24), (2, .int v23), (0, .ref (ad 0)), (1, .int x1)]) hx hb dX12_sayMore_11 rfl hl (by decide) rfl (fun ls hl => ?_)
  refine lv_iload_n hx hb dX12_sayMore_12 rfl (lv_at hl 3 rfl) ?_
  refine lv_bipush (v := 6) hx hb dX12_sayMore_13 (by decide) ?_
  refine lv_ishr hx hb dX12_sayMore_15 ?_
  refine lv_topi (fun v25 ev25 => ?_)
  replace hf := zbv_use ev25 hf
  refine lv_istore (lv' := [(4, .int v25), (3, .int v24), (2, .int v23), (0, .ref (ad 0)), (1, .int x1)]) hx hb dX12_sayMore_16 hl (by decide) rfl (fun ls hl => ?_)
  refine lv_iload hx hb dX12_sayMore_18 (lv_at hl 0 rfl) ?_
  refine lv_iconst (v := 2) hx hb dX12_sayMore_20 (by decide) ?_
  refine lv_icmp_ne (tgt := 119) hx hb dX12_sayMore_21 (by decide) (fun q => ?_) (fun q => ?_)
  · replace hf := zif_f q hf
    exact bX12_sayMore_119 hC  hI (lv_sub hl [3, 2, 1, 0] rfl) hf
  replace hf := zif_t q hf
  refine lv_iload_n hx hb dX12_sayMore_24 rfl (lv_at hl 2 rfl) ?_
  refine lv_iconst (v := 3) hx hb dX12_sayMore_25 (by decide) ?_
  refine lv_icmp_le (tgt := 119) hx hb dX12_sayMore_26 (by decide) (fun q => ?_) (fun q => ?_)
  · replace hf := zif_t q hf
    exact bX12_sayMore_119 hC  hI (lv_sub hl [3, 2, 1, 0] rfl) hf
  replace hf := zif_f q hf
  refine lv_iload_n hx hb dX12_sayMore_29 rfl (lv_at hl 1 rfl) ?_
  refine lv_iconst (v := 4) hx hb dX12_sayMore_30 (by decide) ?_
  refine lv_icmp_ge (tgt := 119) hx hb dX12_sayMore_31 (by decide) (fun q => ?_) (fun q => ?_)
  · replace hf := zif_t q hf
    exact bX12_sayMore_119 hC  hI (lv_sub hl [3, 2, 1, 0] rfl) hf
  replace hf := zif_f q hf
  refine lv_aload_n hx hb dX12_sayMore_34 rfl (lv_at hl 3 rfl) ?_
  refine lv_iload_n hx hb dX12_sayMore_35 rfl (lv_at hl 1 rfl) ?_
  refine lv_if_ne (tgt := 45) hx hb dX12_sayMore_36 (by decide) (fun q => ?_) (fun q => ?_)
  · replace hf := zif_f q hf
    refine lv_iload_n hx hb dX12_sayMore_45 rfl (lv_at hl 1 rfl) ?_
    refine lv_iconst (v := 1) hx hb dX12_sayMore_46 (by decide) ?_
    refine lv_icmp_ne (tgt := 56) hx hb dX12_sayMore_47 (by decide) (fun q => ?_) (fun q => ?_)
    · replace hf := zif_f q hf
      refine lv_iload_n hx hb dX12_sayMore_56 rfl (lv_at hl 1 rfl) ?_
      refine lv_iconst (v := 2) hx hb dX12_sayMore_57 (by decide) ?_
      refine lv_icmp_ne (tgt := 67) hx hb dX12_sayMore_58 (by decide) (fun q => ?_) (fun q => ?_)
      · replace hf := zif_f q hf
        refine lv_iload_n hx hb dX12_sayMore_67 rfl (lv_at hl 2 rfl) ?_
        refine lv_bipush (v := 6) hx hb dX12_sayMore_68 (by decide) ?_
        refine lv_icmp_ge (tgt := 79) hx hb dX12_sayMore_70 (by decide) (fun q => ?_) (fun q => ?_)
        · replace hf := zif_t q hf
          refine z_ldcSW hC hI 158 (by decide) rfl rfl dX12_sayMore_79 ?_
          exact bX12_sayMore_82 hC  hI (lv_sub hl [3, 2] rfl) hf
        replace hf := zif_f q hf
        refine z_ldcSW hC hI 157 (by decide) rfl rfl dX12_sayMore_73 ?_
        refine lv_goto (tgt := 82) hx hb dX12_sayMore_76 (by decide) ?_
        exact bX12_sayMore_82 hC  hI (lv_sub hl [3, 2] rfl) hf
      replace hf := zif_t q hf
      refine z_ldcSW hC hI 156 (by decide) rfl rfl dX12_sayMore_61 ?_
      refine lv_goto (tgt := 82) hx hb dX12_sayMore_64 (by decide) ?_
      exact bX12_sayMore_82 hC  hI (lv_sub hl [3, 2] rfl) hf
    replace hf := zif_t q hf
    refine z_ldcSW hC hI 155 (by decide) rfl rfl dX12_sayMore_50 ?_
    refine lv_goto (tgt := 82) hx hb dX12_sayMore_53 (by decide) ?_
    exact bX12_sayMore_82 hC  hI (lv_sub hl [3, 2] rfl) hf
  replace hf := zif_t q hf
  refine z_ldcSW hC hI 154 (by decide) rfl rfl dX12_sayMore_39 ?_
  refine lv_goto (tgt := 82) hx hb dX12_sayMore_42 (by decide) ?_
  exact bX12_sayMore_82 hC  hI (lv_sub hl [3, 2] rfl) hf
set_option maxRecDepth 20000 in
theorem cX12_sayMore_met (st : Nat → Nat) (l : Launch) (D : va_G) (ad : Nat → Nat) (cy : Nat → ClassId) (σ : zSt) (x1 : Int32) (res : zSt) (hf : fX12_sayMore σ x1 = some res) (sz : Nat) : zMu st l yX12_sayMore wzX12_sayMore rmX12_sayMore [.ref (ad 0), .int x1] D (tM cy) (wM ad cy) sz σ res :=
  zMu.of (cc := cX12_sayMore) (maxL := 6) (ret := none) (by decide) rfl (Nat.le_of_ble_eq_true rfl) (fun p e s m args below meth c hC A hI ls hl => bX12_sayMore hC hI hl hf)
theorem hdX12_sayMore : yX12_sayMore.cls = RX12 ∧ yX12_sayMore.cls ≠ "java/lang/invoke/MethodHandle" ∧ yX12_sayMore.cls ≠ "java/lang/invoke/VarHandle" ∧ (parseMethodDescriptor yX12_sayMore.desc).map (fun d => d.parameters.length) = some 1 := by decide +kernel
def rmX12_tell : Room := { frames := 10, cells := 0, slots := 0, locals := 254 }
def wzX12_tell : List Cond := .code yX12_tell cX12_tell 4 (some .int) :: wsL_law
theorem hinX12_tell_X120 : ∀ w ∈ wsX120, w ∈ wzX12_tell := fun w h => List.mem_cons_of_mem _ (inlX12 w h)
def fX12_tell_112  (σ : zSt) (x2 : Int32) : Option (zSt × Int32) :=
  some (σ, (zgi σ 0 40) - x2)
def fX12_tell_65  (σ : zSt) (x2 : Int32) (s0 : Int32) : Option (zSt × Int32) :=
  zbu (fX12_sayPrefixed σ s0) (fun σ1 =>
  fX12_tell_112 σ1 x2)
def fX12_tell_52  (σ : zSt) (x2 : Int32) (x3 : Int32) : Option (zSt × Int32) :=
  if x3 = 221 then fX12_tell_65 σ x2 1 else
  fX12_tell_65 σ x2 2
def fX12_tell  (σ : zSt) (x1 : Int32) : Option (zSt × Int32) :=
  zbv (zsi σ 0 0 0) (fun σ2 =>
  zbv (zsi σ2 0 39 0) (fun σ3 =>
  zbv (zsi σ3 0 40 (x1 &&& 65535)) (fun σ4 =>
  zbv (zsi σ4 0 41 0) (fun σ5 =>
  zck (zbo 0) (zbv (zsi σ5 0 42 0) (fun σ6 =>
  zbv (zgi σ6 0 40) (fun v7 =>
  zbi (fX12_taken σ6 ) (fun σ8 v9 =>
  if v9 = 221 then fX12_tell_52 σ8 v7 v9 else
  if v9 = 253 then fX12_tell_52 σ8 v7 v9 else
  if v9 = 203 then zbi (fX12_taken σ8 ) (fun σ14 v15 =>
  zbu (fX12_sayTurn σ14 v15) (fun σ16 =>
  fX12_tell_112 σ16 v7)) else
  if v9 = 237 then zbi (fX12_taken σ8 ) (fun σ11 v12 =>
  zbu (fX12_sayMore σ11 v12) (fun σ13 =>
  fX12_tell_112 σ13 v7)) else
  zbu (fX12_sayPlain σ8 v9) (fun σ10 =>
  fX12_tell_112 σ10 v7)))))))))
set_option maxRecDepth 20000 in
set_option maxHeartbeats 4000000 in
theorem bX12_tell_112 {st : Nat → Nat} {p : Program} {l : Launch} {e : Env} {s : State} {m : MethodId} {args : Array Value} {below : List Frame} {meth : Method} {c : Code} {D : va_G} {A : Nat → Prop} {ad : Nat → Nat} {cy : Nat → ClassId} (hC : zC p m c cX12_tell 4 s args wzX12_tell RX12 meth (some .int))  {res : zSt × Int32} {H : Heap} {locs : List Loc} {σ : zSt} {ls : Array Slot} {x2 : Int32} (hI : zI st D (tM cy) (wM ad cy σ) A s H locs) (hl : lv_has ls 4 [(0, .ref (ad 0)), (2, .int x2)]) (hf : fX12_tell_112  σ x2 = some res) : W p l e rmX12_tell s m args below meth c H locs 0 0 (zQi below args s D (tM cy) (wM ad cy) A res) (F0 m 112 ls []) := by
  have hx := hC.1
  have hb := hC.2.1
  unfold fX12_tell_112 at hf
  refine lv_aload_n hx hb dX12_tell_112 rfl (lv_at hl 0 rfl) ?_
  refine z_get hC hI hinX12_tell_X120 0 (wM_e0 ad cy σ) rfl 40 (by decide) (List.mem_cons_of_mem _ zw74_11) rfl dX12_tell_113 ?_
  refine lv_iload_n hx hb dX12_tell_116 rfl (lv_at hl 1 rfl) ?_
  refine lv_isub hx hb dX12_tell_117 ?_
  exact z_ireturn hC hI hf dX12_tell_118
set_option maxRecDepth 20000 in
set_option maxHeartbeats 4000000 in
theorem bX12_tell_65 {st : Nat → Nat} {p : Program} {l : Launch} {e : Env} {s : State} {m : MethodId} {args : Array Value} {below : List Frame} {meth : Method} {c : Code} {D : va_G} {A : Nat → Prop} {ad : Nat → Nat} {cy : Nat → ClassId} (hC : zC p m c cX12_tell 4 s args wzX12_tell RX12 meth (some .int))  {res : zSt × Int32} {H : Heap} {locs : List Loc} {σ : zSt} {ls : Array Slot} {x2 : Int32} {s0 : Int32} (hI : zI st D (tM cy) (wM ad cy σ) A s H locs) (hl : lv_has ls 4 [(0, .ref (ad 0)), (2, .int x2)]) (hf : fX12_tell_65  σ x2 s0 = some res) : W p l e rmX12_tell s m args below meth c H locs 0 0 (zQi below args s D (tM cy) (wM ad cy) A res) (F0 m 65 ls [.int s0, .ref (ad 0)]) := by
  have hx := hC.1
  have hb := hC.2.1
  unfold fX12_tell_65 at hf
  obtain ⟨σ1, g1, hf⟩ := zbu_use hf
  refine z_callVu (As := [.int s0]) (rest := []) hC hI (cX12_sayPrefixed_met st l D ad cy σ s0 _ g1) (zgV zw74_18 zw74_19 zw74_20 zw1_5 zw74_21) rfl ⟨rfl, rfl⟩ 1 hdX12_sayPrefixed ⟨Nat.le_of_ble_eq_true rfl, Nat.le_of_ble_eq_true rfl⟩ rfl rfl (wM_e0 ad cy σ) rfl hl rfl (Nat.le_of_ble_eq_true rfl) dX12_tell_65 ⟨Nat.zero_le _, Nat.zero_le _⟩ (fun H locs hI => ?_)
  refine lv_goto (tgt := 112) hx hb dX12_tell_68 (by decide) ?_
  exact bX12_tell_112 hC  hI hl hf
set_option maxRecDepth 20000 in
set_option maxHeartbeats 4000000 in
theorem bX12_tell_52 {st : Nat → Nat} {p : Program} {l : Launch} {e : Env} {s : State} {m : MethodId} {args : Array Value} {below : List Frame} {meth : Method} {c : Code} {D : va_G} {A : Nat → Prop} {ad : Nat → Nat} {cy : Nat → ClassId} (hC : zC p m c cX12_tell 4 s args wzX12_tell RX12 meth (some .int))  {res : zSt × Int32} {H : Heap} {locs : List Loc} {σ : zSt} {ls : Array Slot} {x2 : Int32} {x3 : Int32} (hI : zI st D (tM cy) (wM ad cy σ) A s H locs) (hl : lv_has ls 4 [(0, .ref (ad 0)), (2, .int x2), (3, .int x3)]) (hf : fX12_tell_52  σ x2 x3 = some res) : W p l e rmX12_tell s m args below meth c H locs 0 0 (zQi below args s D (tM cy) (wM ad cy) A res) (F0 m 52 ls []) := by
  have hx := hC.1
  have hb := hC.2.1
  unfold fX12_tell_52 at hf
  refine lv_aload_n hx hb dX12_tell_52 rfl (lv_at hl 0 rfl) ?_
  refine lv_iload_n hx hb dX12_tell_53 rfl (lv_at hl 2 rfl) ?_
  refine lv_sipush (v := 221) hx hb dX12_tell_54 (by decide) ?_
  refine lv_icmp_ne (tgt := 64) hx hb dX12_tell_57 (by decide) (fun q => ?_) (fun q => ?_)
  · replace hf := zif_f q hf
    refine lv_iconst (v := 2) hx hb dX12_tell_64 (by decide) ?_
    exact bX12_tell_65 hC  hI (lv_sub hl [0, 1] rfl) hf
  replace hf := zif_t q hf
  refine lv_iconst (v := 1) hx hb dX12_tell_60 (by decide) ?_
  refine lv_goto (tgt := 65) hx hb dX12_tell_61 (by decide) ?_
  exact bX12_tell_65 hC  hI (lv_sub hl [0, 1] rfl) hf
set_option maxRecDepth 20000 in
set_option maxHeartbeats 4000000 in
theorem bX12_tell {st : Nat → Nat} {p : Program} {l : Launch} {e : Env} {s : State} {m : MethodId} {args : Array Value} {below : List Frame} {meth : Method} {c : Code} {D : va_G} {A : Nat → Prop} {ad : Nat → Nat} {cy : Nat → ClassId} (hC : zC p m c cX12_tell 4 s args wzX12_tell RX12 meth (some .int))  {res : zSt × Int32} {H : Heap} {locs : List Loc} {σ : zSt} {ls : Array Slot} {x1 : Int32} (hI : zI st D (tM cy) (wM ad cy σ) A s H locs) (hl : lv_has ls 4 [(0, .ref (ad 0)), (1, .int x1)]) (hf : fX12_tell  σ x1 = some res) : W p l e rmX12_tell s m args below meth c H locs 0 0 (zQi below args s D (tM cy) (wM ad cy) A res) (F0 m 0 ls []) := by
  have hx := hC.1
  have hb := hC.2.1
  unfold fX12_tell at hf
  refine lv_aload_n hx hb dX12_tell_0 rfl (lv_at hl 0 rfl) ?_
  refine lv_iconst (v := 0) hx hb dX12_tell_1 (by decide) ?_
  obtain ⟨σ2, eσ2⟩ : ∃ z, z = zsi σ 0 0 0 := ⟨_, rfl⟩
  replace hf := zbv_use eσ2 hf
  refine z_put hC hI hinX12_tell_X120 tyX12_ok nmX12 0 (wM_e0 ad cy σ) rfl 0 (by decide) (List.mem_cons_of_mem _ zw12_1) rfl rfl rfl (Nat.le_of_ble_eq_true rfl) ((wM_s0_0 ad cy σ 0).trans (congrArg (wM ad cy) eσ2.symm)) dX12_tell_2 (fun H locs hI => ?_)
  refine lv_aload_n hx hb dX12_tell_5 rfl (lv_at hl 0 rfl) ?_
  refine lv_iconst (v := 0) hx hb dX12_tell_6 (by decide) ?_
  obtain ⟨σ3, eσ3⟩ : ∃ z, z = zsi σ2 0 39 0 := ⟨_, rfl⟩
  replace hf := zbv_use eσ3 hf
  refine z_put hC hI hinX12_tell_X120 tyX12_ok nmX12 0 (wM_e0 ad cy σ2) rfl 39 (by decide) (List.mem_cons_of_mem _ zw74_10) rfl rfl rfl (Nat.le_of_ble_eq_true rfl) ((wM_s0_39 ad cy σ2 0).trans (congrArg (wM ad cy) eσ3.symm)) dX12_tell_7 (fun H locs hI => ?_)
  refine lv_aload_n hx hb dX12_tell_10 rfl (lv_at hl 0 rfl) ?_
  refine lv_iload_n hx hb dX12_tell_11 rfl (lv_at hl 1 rfl) ?_
  refine lv_ldc (v := 65535) hx hb hC.2.2.2.1 (hC.2.2.2.2.1 _ (List.mem_cons_of_mem _ zw16_11)) dX12_tell_12 ?_
  refine lv_iand hx hb dX12_tell_14 ?_
  obtain ⟨σ4, eσ4⟩ : ∃ z, z = zsi σ3 0 40 (x1 &&& 65535) := ⟨_, rfl⟩
  replace hf := zbv_use eσ4 hf
  refine z_put hC hI hinX12_tell_X120 tyX12_ok nmX12 0 (wM_e0 ad cy σ3) rfl 40 (by decide) (List.mem_cons_of_mem _ zw74_11) rfl rfl rfl (Nat.le_of_ble_eq_true rfl) ((wM_s0_40 ad cy σ3 (x1 &&& 65535)).trans (congrArg (wM ad cy) eσ4.symm)) dX12_tell_15 (fun H locs hI => ?_)
  refine lv_aload_n hx hb dX12_tell_18 rfl (lv_at hl 0 rfl) ?_
  refine lv_iconst (v := 0) hx hb dX12_tell_19 (by decide) ?_
  obtain ⟨σ5, eσ5⟩ : ∃ z, z = zsi σ4 0 41 0 := ⟨_, rfl⟩
  replace hf := zbv_use eσ5 hf
  refine z_put hC hI hinX12_tell_X120 tyX12_ok nmX12 0 (wM_e0 ad cy σ4) rfl 41 (by decide) (List.mem_cons_of_mem _ zw74_12) rfl rfl rfl (Nat.le_of_ble_eq_true rfl) ((wM_s0_41 ad cy σ4 0).trans (congrArg (wM ad cy) eσ5.symm)) dX12_tell_20 (fun H locs hI => ?_)
  refine lv_aload_n hx hb dX12_tell_23 rfl (lv_at hl 0 rfl) ?_
  refine lv_iconst (v := 0) hx hb dX12_tell_24 (by decide) ?_
  obtain ⟨q, hf⟩ := zck_use hf
  obtain ⟨σ6, eσ6⟩ : ∃ z, z = zsi σ5 0 42 0 := ⟨_, rfl⟩
  replace hf := zbv_use eσ6 hf
  refine z_put hC hI hinX12_tell_X120 tyX12_ok nmX12 0 (wM_e0 ad cy σ5) rfl 42 (by decide) (List.mem_cons_of_mem _ zw74_13) rfl (zbo_n q) (zbo_f q) (Nat.le_of_ble_eq_true rfl) ((wM_s0_42 ad cy σ5 0).trans (congrArg (wM ad cy) eσ6.symm)) dX12_tell_25 (fun H locs hI => ?_)
  refine lv_aload_n hx hb dX12_tell_28 rfl (lv_at hl 0 rfl) ?_
  refine z_get hC hI hinX12_tell_X120 0 (wM_e0 ad cy σ6) rfl 40 (by decide) (List.mem_cons_of_mem _ zw74_11) rfl dX12_tell_29 ?_
  refine lv_topi (fun v7 ev7 => ?_)
  replace hf := zbv_use ev7 hf
  refine lv_istore_n (lv' := [(2, .int v7), (0, .ref (ad 0)), (1, .int x1)]) hx hb dX12_tell_32 rfl hl (by decide) rfl (fun ls hl => ?_)
  refine lv_aload_n hx hb dX12_tell_33 rfl (lv_at hl 1 rfl) ?_
  obtain ⟨σ8, v9, g8, hf⟩ := zbi_use hf
  refine z_callVi (As := []) (rest := []) hC hI (cX12_taken_met st l D ad cy σ6  _ g8) (zgV zw74_14 zw74_15 zw74_16 zw1_5 zw74_17) rfl ⟨rfl, rfl⟩ 0 hdX12_taken ⟨Nat.le_of_ble_eq_true rfl, Nat.le_of_ble_eq_true rfl⟩ rfl rfl (wM_e0 ad cy σ6) rfl hl rfl (Nat.le_of_ble_eq_true rfl) dX12_tell_34 ⟨Nat.zero_le _, Nat.zero_le _⟩ (fun H locs hI => ?_)
  refine lv_istore_n (lv' := [(3, .int v9), (2, .int v7), (0, .ref (ad 0)), (1, .int x1)]) hx hb dX12_tell_37 rfl hl (by decide) rfl (fun ls hl => ?_)
  refine lv_iload_n hx hb dX12_tell_38 rfl (lv_at hl 0 rfl) ?_
  refine lv_sipush (v := 221) hx hb dX12_tell_39 (by decide) ?_
  refine lv_icmp_eq (tgt := 52) hx hb dX12_tell_42 (by decide) (fun q => ?_) (fun q => ?_)
  · replace hf := zif_t q hf
    exact bX12_tell_52 hC  hI (lv_sub hl [2, 1, 0] rfl) hf
  replace hf := zif_f q hf
  refine lv_iload_n hx hb dX12_tell_45 rfl (lv_at hl 0 rfl) ?_
  refine lv_sipush (v := 253) hx hb dX12_tell_46 (by decide) ?_
  refine lv_icmp_ne (tgt := 71) hx hb dX12_tell_49 (by decide) (fun q => ?_) (fun q => ?_)
  · replace hf := zif_f q hf
    refine lv_iload_n hx hb dX12_tell_71 rfl (lv_at hl 0 rfl) ?_
    refine lv_sipush (v := 203) hx hb dX12_tell_72 (by decide) ?_
    refine lv_icmp_ne (tgt := 89) hx hb dX12_tell_75 (by decide) (fun q => ?_) (fun q => ?_)
    · replace hf := zif_f q hf
      refine lv_iload_n hx hb dX12_tell_89 rfl (lv_at hl 0 rfl) ?_
      refine lv_sipush (v := 237) hx hb dX12_tell_90 (by decide) ?_
      refine lv_icmp_ne (tgt := 107) hx hb dX12_tell_93 (by decide) (fun q => ?_) (fun q => ?_)
      · replace hf := zif_f q hf
        refine lv_aload_n hx hb dX12_tell_107 rfl (lv_at hl 2 rfl) ?_
        refine lv_iload_n hx hb dX12_tell_108 rfl (lv_at hl 0 rfl) ?_
        obtain ⟨σ10, g10, hf⟩ := zbu_use hf
        refine z_callVu (As := [.int v9]) (rest := []) hC hI (cX12_sayPlain_met st l D ad cy σ8 v9 _ g10) (zgV zw76_0 zw76_1 zw76_2 zw1_5 zw76_3) rfl ⟨rfl, rfl⟩ 1 hdX12_sayPlain ⟨Nat.le_of_ble_eq_true rfl, Nat.le_of_ble_eq_true rfl⟩ rfl rfl (wM_e0 ad cy σ8) rfl hl rfl (Nat.le_of_ble_eq_true rfl) dX12_tell_109 ⟨Nat.zero_le _, Nat.zero_le _⟩ (fun H locs hI => ?_)
        exact bX12_tell_112 hC  hI (lv_sub hl [2, 1] rfl) hf
      replace hf := zif_t q hf
      refine lv_aload_n hx hb dX12_tell_96 rfl (lv_at hl 2 rfl) ?_
      refine lv_aload_n hx hb dX12_tell_97 rfl (lv_at hl 2 rfl) ?_
      obtain ⟨σ11, v12, g11, hf⟩ := zbi_use hf
      refine z_callVi (As := []) (rest := [.ref (ad 0)]) hC hI (cX12_taken_met st l D ad cy σ8  _ g11) (zgV zw74_14 zw74_15 zw74_16 zw1_5 zw74_17) rfl ⟨rfl, rfl⟩ 0 hdX12_taken ⟨Nat.le_of_ble_eq_true rfl, Nat.le_of_ble_eq_true rfl⟩ rfl rfl (wM_e0 ad cy σ8) rfl hl rfl (Nat.le_of_ble_eq_true rfl) dX12_tell_98 ⟨Nat.zero_le _, Nat.zero_le _⟩ (fun H locs hI => ?_)
      obtain ⟨σ13, g13, hf⟩ := zbu_use hf
      refine z_callVu (As := [.int v12]) (rest := []) hC hI (cX12_sayMore_met st l D ad cy σ11 v12 _ g13) (zgV zw77_20 zw77_21 zw77_22 zw1_5 zw77_23) rfl ⟨rfl, rfl⟩ 1 hdX12_sayMore ⟨Nat.le_of_ble_eq_true rfl, Nat.le_of_ble_eq_true rfl⟩ rfl rfl (wM_e0 ad cy σ11) rfl hl rfl (Nat.le_of_ble_eq_true rfl) dX12_tell_101 ⟨Nat.zero_le _, Nat.zero_le _⟩ (fun H locs hI => ?_)
      refine lv_goto (tgt := 112) hx hb dX12_tell_104 (by decide) ?_
      exact bX12_tell_112 hC  hI (lv_sub hl [2, 1] rfl) hf
    replace hf := zif_t q hf
    refine lv_aload_n hx hb dX12_tell_78 rfl (lv_at hl 2 rfl) ?_
    refine lv_aload_n hx hb dX12_tell_79 rfl (lv_at hl 2 rfl) ?_
    obtain ⟨σ14, v15, g14, hf⟩ := zbi_use hf
    refine z_callVi (As := []) (rest := [.ref (ad 0)]) hC hI (cX12_taken_met st l D ad cy σ8  _ g14) (zgV zw74_14 zw74_15 zw74_16 zw1_5 zw74_17) rfl ⟨rfl, rfl⟩ 0 hdX12_taken ⟨Nat.le_of_ble_eq_true rfl, Nat.le_of_ble_eq_true rfl⟩ rfl rfl (wM_e0 ad cy σ8) rfl hl rfl (Nat.le_of_ble_eq_true rfl) dX12_tell_80 ⟨Nat.zero_le _, Nat.zero_le _⟩ (fun H locs hI => ?_)
    obtain ⟨σ16, g16, hf⟩ := zbu_use hf
    refine z_callVu (As := [.int v15]) (rest := []) hC hI (cX12_sayTurn_met st l D ad cy σ14 v15 _ g16) (zgV zw75_4 zw75_5 zw75_6 zw1_5 zw75_7) rfl ⟨rfl, rfl⟩ 1 hdX12_sayTurn ⟨Nat.le_of_ble_eq_true rfl, Nat.le_of_ble_eq_true rfl⟩ rfl rfl (wM_e0 ad cy σ14) rfl hl rfl (Nat.le_of_ble_eq_true rfl) dX12_tell_83 ⟨Nat.zero_le _, Nat.zero_le _⟩ (fun H locs hI => ?_)
    refine lv_goto (tgt := 112) hx hb dX12_tell_86 (by decide) ?_
    exact bX12_tell_112 hC  hI (lv_sub hl [2, 1] rfl) hf
  replace hf := zif_t q hf
  exact bX12_tell_52 hC  hI (lv_sub hl [2, 1, 0] rfl) hf
set_option maxRecDepth 20000 in
theorem cX12_tell_met (st : Nat → Nat) (l : Launch) (D : va_G) (ad : Nat → Nat) (cy : Nat → ClassId) (σ : zSt) (x1 : Int32) (res : zSt × Int32) (hf : fX12_tell σ x1 = some res) (sz : Nat) : zMi st l yX12_tell wzX12_tell rmX12_tell [.ref (ad 0), .int x1] D (tM cy) (wM ad cy) sz σ res :=
  zMi.of (cc := cX12_tell) (maxL := 4) (ret := (some .int)) (by decide) rfl (Nat.le_of_ble_eq_true rfl) (fun p e s m args below meth c hC A hI ls hl => bX12_tell hC hI hl hf)
theorem hdX12_tell : yX12_tell.cls = RX12 ∧ yX12_tell.cls ≠ "java/lang/invoke/MethodHandle" ∧ yX12_tell.cls ≠ "java/lang/invoke/VarHandle" ∧ (parseMethodDescriptor yX12_tell.desc).map (fun d => d.parameters.length) = some 1 := by decide +kernel
def rmX12_text : Room := { frames := 1, cells := 0, slots := 0, locals := 25 }
def wzX12_text : List Cond := .code yX12_text cX12_text 5 (some .long) :: wsL_law
theorem hinX12_text_X120 : ∀ w ∈ wsX120, w ∈ wzX12_text := fun w h => List.mem_cons_of_mem _ (inlX12 w h)
def fX12_text_70 (k37 : zSt → Int32 → Int64 → Int32 → Option (zSt × Int64)) (σ : zSt) (x1 : Int32) (x4 : Int32) (s0 : Int32) (s1 : Int64) : Option (zSt × Int64) :=
  zbv (s1 ||| (s0.toInt64)) (fun v1 =>
  zbv (x4 + (-1)) (fun v2 =>
  k37 σ x1 v1 v2))
def fX12_text_37_body (k37 : zSt → Int32 → Int64 → Int32 → Option (zSt × Int64)) (σ : zSt) (x1 : Int32) (x2 : Int64) (x4 : Int32) : Option (zSt × Int64) :=
  if x4 < 0 then some (σ, x2) else
  if (zgi σ 0 39) ≤ (x1 + x4) then fX12_text_70 k37 σ x1 x4 0 (zlshl x2 8) else
  zck (zin (x1 + x4) 40) (
  fX12_text_70 k37 σ x1 x4 (zgi σ 26 (x1 + x4).toNatClampNeg) (zlshl x2 8))
def fX12_text_37  : Nat → zSt → Int32 → Int64 → Int32 → Option (zSt × Int64)
  | 0, _, _, _, _ => none
  | n + 1, σ, x1, x2, x4 => fX12_text_37_body (fX12_text_37  n) σ x1 x2 x4
def fX12_text_22  (σ : zSt) (x1 : Int32) (s0 : Int32) : Option (zSt × Int64) :=
  zbi (fX12_fails σ s0 1) (fun σ3 v4 =>
  if v4 = 0 then fX12_text_37 zfuel σ3 x1 0 7 else
  some (σ3, 0))
def fX12_text  (σ : zSt) (x1 : Int32) : Option (zSt × Int64) :=
  zbi (fX12_within σ (x1.toInt64) 0 (((zgi σ 0 39) - 1).toInt64)) (fun σ5 v6 =>
  if v6 = 0 then fX12_text_22 σ5 x1 1 else
  fX12_text_22 σ5 x1 0)
set_option maxRecDepth 20000 in
set_option maxHeartbeats 4000000 in
theorem bX12_text_70 {st : Nat → Nat} {p : Program} {l : Launch} {e : Env} {s : State} {m : MethodId} {args : Array Value} {below : List Frame} {meth : Method} {c : Code} {D : va_G} {A : Nat → Prop} {ad : Nat → Nat} {cy : Nat → ClassId} (hC : zC p m c cX12_text 5 s args wzX12_text RX12 meth (some .long)) {k37 : zSt → Int32 → Int64 → Int32 → Option (zSt × Int64)} {res : zSt × Int64} (hk37 : ∀ (H : Heap) (locs : List Loc) (σ : zSt) (ls : Array Slot) (x1 : Int32) (x2 : Int64) (x4 : Int32), zI st D (tM cy) (wM ad cy σ) A s H locs → lv_has ls 5 [(0, .ref (ad 0)), (1, .int x1), (2, .long x2), (4, .int x4)] → k37 σ x1 x2 x4 = some res → W p l e rmX12_text s m args below meth c H locs 0 0 (zQl below args s D (tM cy) (wM ad cy) A res) (F0 m 37 ls [])) {H : Heap} {locs : List Loc} {σ : zSt} {ls : Array Slot} {x1 : Int32} {x4 : Int32} {s0 : Int32} {s1 : Int64} (hI : zI st D (tM cy) (wM ad cy σ) A s H locs) (hl : lv_has ls 5 [(0, .ref (ad 0)), (1, .int x1), (4, .int x4)]) (hf : fX12_text_70 k37 σ x1 x4 s0 s1 = some res) : W p l e rmX12_text s m args below meth c H locs 0 0 (zQl below args s D (tM cy) (wM ad cy) A res) (F0 m 70 ls [.int s0, .long s1]) := by
  have hx := hC.1
  have hb := hC.2.1
  unfold fX12_text_70 at hf
  refine lv_i2l (v := s0.toInt64) hx hb dX12_text_70 rfl ?_
  refine lv_lor hx hb dX12_text_71 ?_
  refine lv_topl (fun v1 ev1 => ?_)
  replace hf := zbv_use ev1 hf
  refine lv_lstore_n (lv' := [(2, .long v1), (0, .ref (ad 0)), (1, .int x1), (4, .int x4)]) hx hb dX12_text_72 rfl hl (by decide) rfl (fun ls hl => ?_)
  obtain ⟨v2, ev2⟩ : ∃ z : Int32, z = x4 + (-1) := ⟨_, rfl⟩
  replace hf := zbv_use ev2 hf
  refine lv_iinc (v := v2) (lv' := [(4, .int v2), (2, .long v1), (0, .ref (ad 0)), (1, .int x1)]) hx hb dX12_text_73 hl (k := 3) rfl (by rw [ev2]; rfl) (by decide) rfl (fun ls hl => ?_)
  refine lv_goto (tgt := 37) hx hb dX12_text_76 (by decide) ?_
  exact hk37 _ _ _ _ _ _ _ hI (lv_sub hl [2, 3, 1, 0] rfl) hf
set_option maxRecDepth 20000 in
set_option maxHeartbeats 4000000 in
theorem bX12_text_37_body {st : Nat → Nat} {p : Program} {l : Launch} {e : Env} {s : State} {m : MethodId} {args : Array Value} {below : List Frame} {meth : Method} {c : Code} {D : va_G} {A : Nat → Prop} {ad : Nat → Nat} {cy : Nat → ClassId} (hC : zC p m c cX12_text 5 s args wzX12_text RX12 meth (some .long)) {k37 : zSt → Int32 → Int64 → Int32 → Option (zSt × Int64)} {res : zSt × Int64} (hk37 : ∀ (H : Heap) (locs : List Loc) (σ : zSt) (ls : Array Slot) (x1 : Int32) (x2 : Int64) (x4 : Int32), zI st D (tM cy) (wM ad cy σ) A s H locs → lv_has ls 5 [(0, .ref (ad 0)), (1, .int x1), (2, .long x2), (4, .int x4)] → k37 σ x1 x2 x4 = some res → W p l e rmX12_text s m args below meth c H locs 0 0 (zQl below args s D (tM cy) (wM ad cy) A res) (F0 m 37 ls [])) {H : Heap} {locs : List Loc} {σ : zSt} {ls : Array Slot} {x1 : Int32} {x2 : Int64} {x4 : Int32} (hI : zI st D (tM cy) (wM ad cy σ) A s H locs) (hl : lv_has ls 5 [(0, .ref (ad 0)), (1, .int x1), (2, .long x2), (4, .int x4)]) (hf : fX12_text_37_body k37 σ x1 x2 x4 = some res) : W p l e rmX12_text s m args below meth c H locs 0 0 (zQl below args s D (tM cy) (wM ad cy) A res) (F0 m 37 ls []) := by
  have hx := hC.1
  have hb := hC.2.1
  unfold fX12_text_37_body at hf
  refine lv_iload hx hb dX12_text_37 (lv_at hl 3 rfl) ?_
  refine lv_if_lt (tgt := 79) hx hb dX12_text_39 (by decide) (fun q => ?_) (fun q => ?_)
  · replace hf := zif_t q hf
    refine lv_lload_n hx hb dX12_text_79 rfl (lv_at hl 2 rfl) ?_
    exact z_lreturn hC hI hf dX12_text_80
  replace hf := zif_f q hf
  refine lv_lload_n hx hb dX12_text_42 rfl (lv_at hl 2 rfl) ?_
  refine lv_bipush (v := 8) hx hb dX12_text_43 (by decide) ?_
  refine lv_lshl (v := zlshl x2 8) hx hb dX12_text_45 rfl ?_
  refine lv_iload_n hx hb dX12_text_46 rfl (lv_at hl 1 rfl) ?_
  refine lv_iload hx hb dX12_text_47 (lv_at hl 3 rfl) ?_
  refine lv_iadd hx hb dX12_text_49 ?_
  refine lv_aload_n hx hb dX12_text_50 rfl (lv_at hl 0 rfl) ?_
  refine z_get hC hI hinX12_text_X120 0 (wM_e0 ad cy σ) rfl 39 (by decide) (List.mem_cons_of_mem _ zw74_10) rfl dX12_text_51 ?_
  refine lv_icmp_ge (tgt := 69) hx hb dX12_text_54 (by decide) (fun q => ?_) (fun q => ?_)
  · replace hf := zif_t q hf
    refine lv_iconst (v := 0) hx hb dX12_text_69 (by decide) ?_
    exact bX12_text_70 hC hk37 hI (lv_sub hl [0, 1, 3] rfl) hf
  replace hf := zif_f q hf
  refine lv_aload_n hx hb dX12_text_57 rfl (lv_at hl 0 rfl) ?_
  refine z_get hC hI hinX12_text_X120 0 (wM_e0 ad cy σ) rfl 38 (by decide) (List.mem_cons_of_mem _ zw10_9) rfl dX12_text_58 ?_
  refine lv_iload_n hx hb dX12_text_61 rfl (lv_at hl 1 rfl) ?_
  refine lv_iload hx hb dX12_text_62 (lv_at hl 3 rfl) ?_
  refine lv_iadd hx hb dX12_text_64 ?_
  obtain ⟨q, hf⟩ := zck_use hf
  refine z_iald hC hI 26 25 (wM_e26 ad cy σ) (tM_t26 cy) q dX12_text_65 ?_
  refine lv_goto (tgt := 70) hx hb dX12_text_66 (by decide) ?_
  exact bX12_text_70 hC hk37 hI (lv_sub hl [0, 1, 3] rfl) hf
theorem blX12_text_37 {st : Nat → Nat} {p : Program} {l : Launch} {e : Env} {s : State} {m : MethodId} {args : Array Value} {below : List Frame} {meth : Method} {c : Code} {D : va_G} {A : Nat → Prop} {ad : Nat → Nat} {cy : Nat → ClassId} (hC : zC p m c cX12_text 5 s args wzX12_text RX12 meth (some .long))  {res : zSt × Int64} : ∀ (n : Nat) (H : Heap) (locs : List Loc) (σ : zSt) (ls : Array Slot) (x1 : Int32) (x2 : Int64) (x4 : Int32), zI st D (tM cy) (wM ad cy σ) A s H locs → lv_has ls 5 [(0, .ref (ad 0)), (1, .int x1), (2, .long x2), (4, .int x4)] → fX12_text_37  n σ x1 x2 x4 = some res → W p l e rmX12_text s m args below meth c H locs 0 0 (zQl below args s D (tM cy) (wM ad cy) A res) (F0 m 37 ls []) := by
  intro n
  induction n with
  | zero => intro H locs σ ls x1 x2 x4 hI hl hf; cases hf
  | succ n ih => intro H locs σ ls x1 x2 x4 hI hl hf; exact bX12_text_37_body hC ih hI hl hf
set_option maxRecDepth 20000 in
set_option maxHeartbeats 4000000 in
theorem bX12_text_22 {st : Nat → Nat} {p : Program} {l : Launch} {e : Env} {s : State} {m : MethodId} {args : Array Value} {below : List Frame} {meth : Method} {c : Code} {D : va_G} {A : Nat → Prop} {ad : Nat → Nat} {cy : Nat → ClassId} (hC : zC p m c cX12_text 5 s args wzX12_text RX12 meth (some .long))  {res : zSt × Int64} {H : Heap} {locs : List Loc} {σ : zSt} {ls : Array Slot} {x1 : Int32} {s0 : Int32} (hI : zI st D (tM cy) (wM ad cy σ) A s H locs) (hl : lv_has ls 5 [(0, .ref (ad 0)), (1, .int x1)]) (hf : fX12_text_22  σ x1 s0 = some res) : W p l e rmX12_text s m args below meth c H locs 0 0 (zQl below args s D (tM cy) (wM ad cy) A res) (F0 m 22 ls [.int s0, .ref (ad 0)]) := by
  have hx := hC.1
  have hb := hC.2.1
  unfold fX12_text_22 at hf
  refine lv_iconst (v := 1) hx hb dX12_text_22 (by decide) ?_
  obtain ⟨σ3, v4, g3, hf⟩ := zbi_use hf
  refine z_callVi (As := [.int s0, .int 1]) (rest := []) hC hI (cX12_fails_met st l D ad cy σ s0 1 _ g3) (zgV zw11_21 zw11_22 zw11_23 zw1_5 zw12_0) rfl ⟨rfl, rfl⟩ 2 hdX12_fails ⟨Nat.le_of_ble_eq_true rfl, Nat.le_of_ble_eq_true rfl⟩ rfl rfl (wM_e0 ad cy σ) rfl hl rfl (Nat.le_of_ble_eq_true rfl) dX12_text_23 ⟨Nat.zero_le _, Nat.zero_le _⟩ (fun H locs hI => ?_)
  refine lv_if_eq (tgt := 31) hx hb dX12_text_26 (by decide) (fun q => ?_) (fun q => ?_)
  · replace hf := zif_t q hf
    refine lv_lconst (v := 0) hx hb dX12_text_31 (by decide) ?_
    refine lv_lstore_n (lv' := [(2, .long 0), (0, .ref (ad 0)), (1, .int x1)]) hx hb dX12_text_32 rfl hl (by decide) rfl (fun ls hl => ?_)
    refine lv_bipush (v := 7) hx hb dX12_text_33 (by decide) ?_
    refine lv_istore (lv' := [(4, .int 7), (2, .long 0), (0, .ref (ad 0)), (1, .int x1)]) hx hb dX12_text_35 hl (by decide) rfl (fun ls hl => ?_)
    exact blX12_text_37 hC  zfuel _ _ _ _ _ _ _ hI (lv_sub hl [2, 3, 1, 0] rfl) hf
  replace hf := zif_f q hf
  refine lv_lconst (v := 0) hx hb dX12_text_29 (by decide) ?_
  exact z_lreturn hC hI hf dX12_text_30
set_option maxRecDepth 20000 in
set_option maxHeartbeats 4000000 in
theorem bX12_text {st : Nat → Nat} {p : Program} {l : Launch} {e : Env} {s : State} {m : MethodId} {args : Array Value} {below : List Frame} {meth : Method} {c : Code} {D : va_G} {A : Nat → Prop} {ad : Nat → Nat} {cy : Nat → ClassId} (hC : zC p m c cX12_text 5 s args wzX12_text RX12 meth (some .long))  {res : zSt × Int64} {H : Heap} {locs : List Loc} {σ : zSt} {ls : Array Slot} {x1 : Int32} (hI : zI st D (tM cy) (wM ad cy σ) A s H locs) (hl : lv_has ls 5 [(0, .ref (ad 0)), (1, .int x1)]) (hf : fX12_text  σ x1 = some res) : W p l e rmX12_text s m args below meth c H locs 0 0 (zQl below args s D (tM cy) (wM ad cy) A res) (F0 m 0 ls []) := by
  have hx := hC.1
  have hb := hC.2.1
  unfold fX12_text at hf
  refine lv_aload_n hx hb dX12_text_0 rfl (lv_at hl 0 rfl) ?_
  refine lv_iload_n hx hb dX12_text_1 rfl (lv_at hl 1 rfl) ?_
  refine lv_i2l (v := x1.toInt64) hx hb dX12_text_2 rfl ?_
  refine lv_lconst (v := 0) hx hb dX12_text_3 (by decide) ?_
  refine lv_aload_n hx hb dX12_text_4 rfl (lv_at hl 0 rfl) ?_
  refine z_get hC hI hinX12_text_X120 0 (wM_e0 ad cy σ) rfl 39 (by decide) (List.mem_cons_of_mem _ zw74_10) rfl dX12_text_5 ?_
  refine lv_iconst (v := 1) hx hb dX12_text_8 (by decide) ?_
  refine lv_isub hx hb dX12_text_9 ?_
  refine lv_i2l (v := ((zgi σ 0 39) - 1).toInt64) hx hb dX12_text_10 rfl ?_
  obtain ⟨σ5, v6, g5, hf⟩ := zbi_use hf
  refine z_callSi (As := [.long (x1.toInt64), .long 0, .long (((zgi σ 0 39) - 1).toInt64)]) (rest := [.ref (ad 0)]) hC hI (cX12_within_met st l D ad cy σ (x1.toInt64) 0 (((zgi σ 0 39) - 1).toInt64) _ g5) (zgS zw11_18 zw11_19 zw1_5 zw11_20) rfl ⟨rfl, rfl⟩ 3 hdX12_within ⟨Nat.le_of_ble_eq_true rfl, Nat.le_of_ble_eq_true rfl⟩ rfl hl rfl (Nat.le_of_ble_eq_true rfl) dX12_text_11 ⟨Nat.zero_le _, Nat.zero_le _⟩ (fun H locs hI => ?_)
  refine lv_if_ne (tgt := 21) hx hb dX12_text_14 (by decide) (fun q => ?_) (fun q => ?_)
  · replace hf := zif_f q hf
    refine lv_iconst (v := 0) hx hb dX12_text_21 (by decide) ?_
    exact bX12_text_22 hC  hI hl hf
  replace hf := zif_t q hf
  refine lv_iconst (v := 1) hx hb dX12_text_17 (by decide) ?_
  refine lv_goto (tgt := 22) hx hb dX12_text_18 (by decide) ?_
  exact bX12_text_22 hC  hI hl hf
set_option maxRecDepth 20000 in
theorem cX12_text_met (st : Nat → Nat) (l : Launch) (D : va_G) (ad : Nat → Nat) (cy : Nat → ClassId) (σ : zSt) (x1 : Int32) (res : zSt × Int64) (hf : fX12_text σ x1 = some res) (sz : Nat) : zMl st l yX12_text wzX12_text rmX12_text [.ref (ad 0), .int x1] D (tM cy) (wM ad cy) sz σ res :=
  zMl.of (cc := cX12_text) (maxL := 5) (ret := (some .long)) (by decide) rfl (Nat.le_of_ble_eq_true rfl) (fun p e s m args below meth c hC A hI ls hl => bX12_text hC hI hl hf)
theorem hdX12_text : yX12_text.cls = RX12 ∧ yX12_text.cls ≠ "java/lang/invoke/MethodHandle" ∧ yX12_text.cls ≠ "java/lang/invoke/VarHandle" ∧ (parseMethodDescriptor yX12_text.desc).map (fun d => d.parameters.length) = some 1 := by decide +kernel
